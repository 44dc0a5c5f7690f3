def LX7_ps : Nat → wB → Int32 → wB × Int32
  | 0, B, x => (B, x)
  | u + 1, B, x => LX7_ps u (fX7_ticks B).1 (x + (fX7_ticks B).2)
def fX7_passes (B : wB) (a1 : Int32) : wB × Int32 := if fX7_in a1 1 999 = 0 then (B, -2) else if B 1 5 + a1 ≤ 99999 then LX7_ps a1.toNatClampNeg B 0 else (B, -5)
abbrev rX7_passes : Room := { frames := 5, cells := 0, slots := 0, locals := 116 }
set_option maxHeartbeats 4000000 in
set_option maxRecDepth 100000 in
theorem kX7_passes (l : Launch) (G : wG) (Z : wZ) (B : wB) (a1 : Int32) (M : Nat) (M4 : Nat) (hI : bI B M4 M) : mI l yX7_passes wsX7_passes rX7_passes G [.ref (G.2.2.1 12 0), .int a1] (wset Z 12 B) (fX7_passes B a1).2 (wset Z 12 (fX7_passes B a1).1) := by
  refine Met.ofW (cc := cX7_passes) (maxL := 4) (ret := (some .int)) (by decide) rfl ?_
  intro p e s m args below meth c s₁ B0 hml hv
  obtain ⟨rfl, hW, hK, hL⟩ := hv
  have hlocks := B0.notSynchronized
  have hr := B0.returns
  have hC : wX p s m c cX7_passes _ wsX7_passes RX7 G := ⟨B0.exec, B0.bytes, findClass_of_methodNamed B0.named, atoms_spec (ws := wsX7_passes) B0.pre, hK, hL⟩
  have hx := hC.1
  have hb := hC.2.1
  have hts := hC.2.2.2.1
  have hinRX7 : ∀ w ∈ wsX70, w ∈ wsX7_passes := by decide +kernel
  have hk0 := hts (.fieldLink RX7 7 "RampShaftsModel" "s" "[I") (by decide +kernel)
  have hk1 := hts (.constant RX7 96 (99999)) (by decide +kernel)
  have hS : va_S (wA G) s.heap s.heap [] := va_S.rf
  have hl := lv_entry ([.ref (G.2.2.1 12 0), .int a1]) (n := 4) (Nat.le_of_ble_eq_true rfl)
  rw [lg_entry_eq]
  generalize (lg_sl ([.ref (G.2.2.1 12 0), .int a1]) ++ List.replicate (4 - (lg_sl ([.ref (G.2.2.1 12 0), .int a1])).length) Slot.unset).toArray = ls at hl ⊢
  have hl : lv_has ls 4 [(0, .ref (G.2.2.1 12 0)), (1, .int a1)] := hl
  obtain ⟨R, hR⟩ : ∃ R, R = fX7_passes B a1 := ⟨_, rfl⟩
  rw [← hR]
  unfold fX7_passes at hR
  refine lv_iload_n hx hb dX7_passes_0 rfl (lv_at hl 1 rfl) ?_
  refine lv_iconst (v := 1) hx hb dX7_passes_1 (by decide) ?_
  refine lv_sipush (v := 999) hx hb dX7_passes_2 (by decide) ?_
  refine wc_s hC hml (kX7_in l G (wset Z 12 B) a1 1 999) (cwS 3 hts gX7_passes_X7_in rfl rfl rfl (by decide +kernel) ⟨Nat.le_of_ble_eq_true rfl, Nat.le_of_ble_eq_true rfl⟩) hW hS rfl rfl hl.1 (Nat.le_of_ble_eq_true rfl) dX7_passes_5 (fun H locs hW hS => ?_)
  refine lv_topi (fun x_1 ex_1 => ?_)
  try rw [← ex_1] at hR
  refine lv_if_ne (tgt := 14) hx hb dX7_passes_8 (by decide) (fun c_2 => ?_) (fun c_2 => ?_)
  · skip
    try rw [if_neg c_2] at hR
    refine lv_aload_n hx hb dX7_passes_14 rfl (lv_at hl 0 rfl) ?_
    refine wr_get hC hinRX7 hW (vM (by decide)) ce_m0 rfl 0 (by decide) hk0 rfl dX7_passes_15 ?_
    refine lv_iconst (v := 5) hx hb dX7_passes_18 (by decide) ?_
    refine wr_ald (kA := 0) hC hW (vM (by decide)) ce_m1 rfl (vp_in_iff.mpr (by decide)) dX7_passes_19 ?_
    refine lv_re (y := B 1 5) ((congrArg (B 1) (show (5 : Int32).toNatClampNeg = 5 by decide))) ?_
    refine lv_iload_n hx hb dX7_passes_20 rfl (lv_at hl 1 rfl) ?_
    refine lv_iadd hx hb dX7_passes_21 ?_
    refine lv_ldc (v := 99999) hx hb hC.2.2.1 hk1 dX7_passes_22 ?_
    refine lv_icmp_le (tgt := 30) hx hb dX7_passes_24 (by decide) (fun c_3 => ?_) (fun c_3 => ?_)
    · skip
      try rw [if_pos c_3] at hR
      have hi9 := in_ok (by rw [← ex_1]; exact c_2)
      rw [t1] at hi9
      have hj9 := tn_of (show 0 ≤ a1.toInt by omega)
      have ej9 := nI_self hj9.1
      obtain ⟨N9, eN9⟩ : ∃ y, y = a1.toNatClampNeg := ⟨_, rfl⟩
      have hN9 : N9 < 2 ^ 31 := by rw [eN9]; exact toNat_lt _
      rw [← eN9] at hR ej9
      rw [ej9] at hl
      refine lv_iconst (v := 0) hx hb dX7_passes_30 (by decide) ?_
      refine lv_istore_n (lv' := [(2, .int 0), (0, .ref (G.2.2.1 12 0)), (1, .int (nI N9))]) hx hb dX7_passes_31 rfl hl (by decide) rfl (fun ls hl => ?_)
      refine lv_iconst (v := 0) hx hb dX7_passes_32 (by decide) ?_
      refine lv_istore_n (lv' := [(3, .int 0), (2, .int 0), (0, .ref (G.2.2.1 12 0)), (1, .int (nI N9))]) hx hb dX7_passes_33 rfl hl (by decide) rfl (fun ls hl => ?_)
      have hlp_4 : ∀ (u : Nat) (k : Nat) (C : wB) (x : Int32) (M : Nat), (hk : k + u = N9) → (hI : bI C M4 M) → R = LX7_ps u C x → ∀ (H : Heap) (locs : List Loc) (ls : Array Slot), wW G (wset Z 12 C) H → va_S (wA G) s.heap H locs → lv_has ls 4 [(0, .ref (G.2.2.1 12 0)), (1, .int (nI N9)), (2, .int x), (3, .int (nI k))] → W p l e (headSpec wsX7_passes rX7_passes).room s m ([.ref (G.2.2.1 12 0), .int a1] : List Value).toArray below meth c H locs 0 0 (qI below ([.ref (G.2.2.1 12 0), .int a1] : List Value).toArray s G R.2 (wset Z 12 R.1)) (F0 m 34 ls []) := by
        intro u
        induction u with
        | zero =>
          intro k C x M hk hI hR H locs ls hW hS hl
          simp only [LX7_ps] at hR
          refine lv_iload_n hx hb dX7_passes_34 rfl (lv_at hl 3 rfl) ?_
          refine lv_iload_n hx hb dX7_passes_35 rfl (lv_at hl 1 rfl) ?_
          refine lv_icmp_ge (tgt := 52) hx hb dX7_passes_36 (by decide) (fun c_5 => ?_) (fun c_5 => ?_)
          · skip
            refine lv_iload_n hx hb dX7_passes_52 rfl (lv_at hl 2 rfl) ?_
            exact we_i hC hr hlocks (congrArg Prod.snd hR).symm (congrArg (fun u => wset Z 12 u.1) hR).symm hW hS dX7_passes_53
          · exact absurd ((nI_leI (by omega) (by omega)).mpr (by omega)) c_5
        | succ u ih =>
          intro k C x M hk hI hR H locs ls hW hS hl
          simp only [LX7_ps] at hR
          refine lv_iload_n hx hb dX7_passes_34 rfl (lv_at hl 3 rfl) ?_
          refine lv_iload_n hx hb dX7_passes_35 rfl (lv_at hl 1 rfl) ?_
          refine lv_icmp_ge (tgt := 52) hx hb dX7_passes_36 (by decide) (fun c_6 => ?_) (fun c_6 => ?_)
          · exact absurd ((nI_leI (by omega) (by omega)).mp c_6) (by omega)
          · skip
            refine lv_iload_n hx hb dX7_passes_39 rfl (lv_at hl 2 rfl) ?_
            refine lv_aload_n hx hb dX7_passes_40 rfl (lv_at hl 0 rfl) ?_
            refine wc_i hC hml (kX7_ticks l G Z C M M4 hI) (cwV 0 hts gX7_passes_X7_ticks rfl rfl rfl (by decide +kernel) ⟨Nat.le_of_ble_eq_true rfl, Nat.le_of_ble_eq_true rfl⟩) hW hS (vM (by decide)) ce_m0 rfl rfl rfl rfl hl.1 (Nat.le_of_ble_eq_true rfl) dX7_passes_41 (fun H locs hW hS => ?_)
            obtain ⟨P_7, eP_7⟩ : ∃ y, y = fX7_ticks C := ⟨_, rfl⟩
            rw [← eP_7] at hW ⊢
            try rw [← eP_7] at hR
            obtain ⟨M9, hM9⟩ := ticks_mI hI
            rw [← eP_7] at hM9
            refine lv_iadd hx hb dX7_passes_44 ?_
            refine lv_topi (fun x_8 ex_8 => ?_)
            try rw [← ex_8] at hR
            refine lv_istore_n (lv' := [(2, .int x_8), (0, .ref (G.2.2.1 12 0)), (1, .int (nI N9)), (3, .int (nI k))]) hx hb dX7_passes_45 rfl hl (by decide) rfl (fun ls hl => ?_)
            refine lv_iinc (v := nI (k + 1)) (lv' := [(3, .int (nI (k + 1))), (2, .int x_8), (0, .ref (G.2.2.1 12 0)), (1, .int (nI N9))]) hx hb dX7_passes_46 hl (k := 3) rfl (nI_1 _) (by decide) rfl (fun ls hl => ?_)
            refine lv_goto (tgt := 34) hx hb dX7_passes_49 (by decide) ?_
            exact ih (k + 1) P_7.1 x_8 M9 (by omega) hM9 hR _ _ _ hW hS (lv_sub hl [2, 3, 1, 0] rfl)
      exact hlp_4 N9 0 B 0 M (Nat.zero_add _) hI hR _ _ _ hW hS (lv_sub hl [2, 3, 1, 0] rfl)
    · skip
      try rw [if_neg c_3] at hR
      refine lv_bipush (v := (-5)) hx hb dX7_passes_27 (by decide) ?_
      exact we_i hC hr hlocks (congrArg Prod.snd hR).symm (congrArg (fun u => wset Z 12 u.1) hR).symm hW hS dX7_passes_29
  · skip
    try rw [if_pos c_2] at hR
    refine lv_bipush (v := (-2)) hx hb dX7_passes_11 (by decide) ?_
    exact we_i hC hr hlocks (congrArg Prod.snd hR).symm (congrArg (fun u => wset Z 12 u.1) hR).symm hW hS dX7_passes_13
def restFar : Nat := 20000
def LX7_ri (s : Nat) : Nat → Nat → wB → Nat × wB
  | 0, k, B => (k, B)
  | u + 1, k, B => if fX7_isOver B s = 0 then LX7_ri s u (k + 1) (fX7_ticks B).1 else (k, B)
def gX7_ri (s : Nat) (r : Nat × wB) : wB × Int32 := if fX7_isOver r.2 s = 0 then (fX7_putBack r.2, -6) else (fX7_putBack r.2, nI r.1)
def fX7_restsIn (B : wB) (a1 : Int32) : wB × Int32 := if fX7_isShaft B a1 = 0 then (B, -1) else gX7_ri a1.toNatClampNeg (LX7_ri a1.toNatClampNeg restFar 0 (fX7_putAside B))
abbrev rX7_restsIn : Room := { frames := 5, cells := 0, slots := 0, locals := 116 }
set_option maxHeartbeats 4000000 in
set_option maxRecDepth 100000 in
theorem kX7_restsIn (l : Launch) (G : wG) (Z : wZ) (B : wB) (a1 : Int32) (M : Nat) (M4 : Nat) (hI : bI B M4 M) : mI l yX7_restsIn wsX7_restsIn rX7_restsIn G [.ref (G.2.2.1 12 0), .int a1] (wset Z 12 B) (fX7_restsIn B a1).2 (wset Z 12 (fX7_restsIn B a1).1) := by
  refine Met.ofW (cc := cX7_restsIn) (maxL := 4) (ret := (some .int)) (by decide) rfl ?_
  intro p e s m args below meth c s₁ B0 hml hv
  obtain ⟨rfl, hW, hK, hL⟩ := hv
  have hlocks := B0.notSynchronized
  have hr := B0.returns
  have hC : wX p s m c cX7_restsIn _ wsX7_restsIn RX7 G := ⟨B0.exec, B0.bytes, findClass_of_methodNamed B0.named, atoms_spec (ws := wsX7_restsIn) B0.pre, hK, hL⟩
  have hx := hC.1
  have hb := hC.2.1
  have hts := hC.2.2.2.1
  have hS : va_S (wA G) s.heap s.heap [] := va_S.rf
  have hl := lv_entry ([.ref (G.2.2.1 12 0), .int a1]) (n := 4) (Nat.le_of_ble_eq_true rfl)
  rw [lg_entry_eq]
  generalize (lg_sl ([.ref (G.2.2.1 12 0), .int a1]) ++ List.replicate (4 - (lg_sl ([.ref (G.2.2.1 12 0), .int a1])).length) Slot.unset).toArray = ls at hl ⊢
  have hl : lv_has ls 4 [(0, .ref (G.2.2.1 12 0)), (1, .int a1)] := hl
  obtain ⟨R, hR⟩ : ∃ R, R = fX7_restsIn B a1 := ⟨_, rfl⟩
  rw [← hR]
  unfold fX7_restsIn at hR
  refine lv_aload_n hx hb dX7_restsIn_0 rfl (lv_at hl 0 rfl) ?_
  refine lv_iload_n hx hb dX7_restsIn_1 rfl (lv_at hl 1 rfl) ?_
  refine wc_i hC hml (kX7_isShaft l G Z B a1) (cwV 1 hts gX7_restsIn_X7_isShaft rfl rfl rfl (by decide +kernel) ⟨Nat.le_of_ble_eq_true rfl, Nat.le_of_ble_eq_true rfl⟩) hW hS (vM (by decide)) ce_m0 rfl rfl rfl rfl hl.1 (Nat.le_of_ble_eq_true rfl) dX7_restsIn_2 (fun H locs hW hS => ?_)
  refine lv_topi (fun x_1 ex_1 => ?_)
  try rw [← ex_1] at hR
  refine lv_if_ne (tgt := 10) hx hb dX7_restsIn_5 (by decide) (fun c_2 => ?_) (fun c_2 => ?_)
  · skip
    try rw [if_neg c_2] at hR
    have hs9 := sh_ok (B := B) (by rw [hI.1.1]; have := hI.1.2.1; rw [nI_toInt (by omega)]; omega) (by rw [← ex_1]; exact c_2)
    have ek9 := nI_self hs9.1
    have hk9 := hs9.2.1
    obtain ⟨s9, es9⟩ : ∃ y, y = a1.toNatClampNeg := ⟨_, rfl⟩
    rw [← es9] at hR ek9 hk9
    rw [ek9] at hl
    refine lv_aload_n hx hb dX7_restsIn_10 rfl (lv_at hl 0 rfl) ?_
    refine wc_v hC hml (kX7_putAside l G Z B) (cwV 0 hts gX7_restsIn_X7_putAside rfl rfl rfl (by decide +kernel) ⟨Nat.le_of_ble_eq_true rfl, Nat.le_of_ble_eq_true rfl⟩) hW hS (vM (by decide)) ce_m0 rfl rfl rfl rfl hl.1 (Nat.le_of_ble_eq_true rfl) dX7_restsIn_11 (fun H locs hW hS => ?_)
    obtain ⟨B_3, eB_3⟩ : ∃ y, y = fX7_putAside B := ⟨_, rfl⟩
    rw [← eB_3] at hW
    try rw [← eB_3] at hR
    have hI := mI_row (C := B_3) hI (fun q _ => by rw [eB_3]; exact rcp_o (by decide))
    refine lv_iconst (v := 0) hx hb dX7_restsIn_14 (by decide) ?_
    refine lv_istore_n (lv' := [(2, .int 0), (0, .ref (G.2.2.1 12 0)), (1, .int (nI s9))]) hx hb dX7_restsIn_15 rfl hl (by decide) rfl (fun ls hl => ?_)
    have hlp_4 : ∀ (u : Nat) (k : Nat) (C : wB) (M : Nat), (hk : k + u = 20000) → (hI : bI C M4 M) → R = gX7_ri s9 (LX7_ri s9 u k C) → ∀ (H : Heap) (locs : List Loc) (ls : Array Slot), wW G (wset Z 12 C) H → va_S (wA G) s.heap H locs → lv_has ls 4 [(0, .ref (G.2.2.1 12 0)), (1, .int (nI s9)), (2, .int (nI k))] → W p l e (headSpec wsX7_restsIn rX7_restsIn).room s m ([.ref (G.2.2.1 12 0), .int a1] : List Value).toArray below meth c H locs 0 0 (qI below ([.ref (G.2.2.1 12 0), .int a1] : List Value).toArray s G R.2 (wset Z 12 R.1)) (F0 m 16 ls []) := by
      intro u
      induction u with
      | zero =>
        intro k C M hk hI hR H locs ls hW hS hl
        simp only [LX7_ri] at hR
        refine lv_iload_n hx hb dX7_restsIn_16 rfl (lv_at hl 2 rfl) ?_
        refine lv_sipush (v := 20000) hx hb dX7_restsIn_17 (by decide) ?_
        refine lv_icmp_ge (tgt := 42) hx hb dX7_restsIn_20 (by decide) (fun c_5 => ?_) (fun c_5 => ?_)
        · skip
          unfold gX7_ri at hR
          simp only at hR
          refine lv_aload_n hx hb dX7_restsIn_42 rfl (lv_at hl 0 rfl) ?_
          refine lv_iload_n hx hb dX7_restsIn_43 rfl (lv_at hl 1 rfl) ?_
          refine wc_i hC hml (kX7_isOver l G Z C s9 M hI.2.1 hI.2.2.1 hk9) (cwV 1 hts gX7_restsIn_X7_isOver rfl rfl rfl (by decide +kernel) ⟨Nat.le_of_ble_eq_true rfl, Nat.le_of_ble_eq_true rfl⟩) hW hS (vM (by decide)) ce_m0 rfl rfl rfl rfl hl.1 (Nat.le_of_ble_eq_true rfl) dX7_restsIn_44 (fun H locs hW hS => ?_)
          refine lv_topi (fun x_6 ex_6 => ?_)
          try rw [← ex_6] at hR
          refine lv_istore_n (lv' := [(3, .int x_6), (0, .ref (G.2.2.1 12 0)), (1, .int (nI s9)), (2, .int (nI k))]) hx hb dX7_restsIn_47 rfl hl (by decide) rfl (fun ls hl => ?_)
          refine lv_aload_n hx hb dX7_restsIn_48 rfl (lv_at hl 1 rfl) ?_
          refine wc_v hC hml (kX7_putBack l G Z C) (cwV 0 hts gX7_restsIn_X7_putBack rfl rfl rfl (by decide +kernel) ⟨Nat.le_of_ble_eq_true rfl, Nat.le_of_ble_eq_true rfl⟩) hW hS (vM (by decide)) ce_m0 rfl rfl rfl rfl hl.1 (Nat.le_of_ble_eq_true rfl) dX7_restsIn_49 (fun H locs hW hS => ?_)
          obtain ⟨B_7, eB_7⟩ : ∃ y, y = fX7_putBack C := ⟨_, rfl⟩
          rw [← eB_7] at hW
          try rw [← eB_7] at hR
          refine lv_iload_n hx hb dX7_restsIn_52 rfl (lv_at hl 0 rfl) ?_
          refine lv_if_eq (tgt := 60) hx hb dX7_restsIn_53 (by decide) (fun c_8 => ?_) (fun c_8 => ?_)
          · skip
            try rw [if_pos c_8] at hR
            refine lv_bipush (v := (-6)) hx hb dX7_restsIn_60 (by decide) ?_
            exact we_i hC hr hlocks (congrArg Prod.snd hR).symm (congrArg (fun u => wset Z 12 u.1) hR).symm hW hS dX7_restsIn_62
          · skip
            try rw [if_neg c_8] at hR
            refine lv_iload_n hx hb dX7_restsIn_56 rfl (lv_at hl 3 rfl) ?_
            refine lv_goto (tgt := 62) hx hb dX7_restsIn_57 (by decide) ?_
            exact we_i hC hr hlocks (congrArg Prod.snd hR).symm (congrArg (fun u => wset Z 12 u.1) hR).symm hW hS dX7_restsIn_62
        · exact absurd ((nI_leI (a := 20000) (by decide) (by omega)).mpr (by omega)) c_5
      | succ u ih =>
        intro k C M hk hI hR H locs ls hW hS hl
        simp only [LX7_ri] at hR
        refine lv_iload_n hx hb dX7_restsIn_16 rfl (lv_at hl 2 rfl) ?_
        refine lv_sipush (v := 20000) hx hb dX7_restsIn_17 (by decide) ?_
        refine lv_icmp_ge (tgt := 42) hx hb dX7_restsIn_20 (by decide) (fun c_9 => ?_) (fun c_9 => ?_)
        · exact absurd ((nI_leI (a := 20000) (by decide) (by omega)).mp c_9) (by omega)
        · skip
          refine lv_aload_n hx hb dX7_restsIn_23 rfl (lv_at hl 0 rfl) ?_
          refine lv_iload_n hx hb dX7_restsIn_24 rfl (lv_at hl 1 rfl) ?_
          refine wc_i hC hml (kX7_isOver l G Z C s9 M hI.2.1 hI.2.2.1 hk9) (cwV 1 hts gX7_restsIn_X7_isOver rfl rfl rfl (by decide +kernel) ⟨Nat.le_of_ble_eq_true rfl, Nat.le_of_ble_eq_true rfl⟩) hW hS (vM (by decide)) ce_m0 rfl rfl rfl rfl hl.1 (Nat.le_of_ble_eq_true rfl) dX7_restsIn_25 (fun H locs hW hS => ?_)
          refine lv_topi (fun x_10 ex_10 => ?_)
          try rw [← ex_10] at hR
          refine lv_if_ne (tgt := 42) hx hb dX7_restsIn_28 (by decide) (fun c_11 => ?_) (fun c_11 => ?_)
          · skip
            try rw [if_neg c_11] at hR
            unfold gX7_ri at hR
            simp only at hR
            try rw [← ex_10] at hR
            refine lv_aload_n hx hb dX7_restsIn_42 rfl (lv_at hl 0 rfl) ?_
            refine lv_iload_n hx hb dX7_restsIn_43 rfl (lv_at hl 1 rfl) ?_
            refine wc_i hC hml (kX7_isOver l G Z C s9 M hI.2.1 hI.2.2.1 hk9) (cwV 1 hts gX7_restsIn_X7_isOver rfl rfl rfl (by decide +kernel) ⟨Nat.le_of_ble_eq_true rfl, Nat.le_of_ble_eq_true rfl⟩) hW hS (vM (by decide)) ce_m0 rfl rfl rfl rfl hl.1 (Nat.le_of_ble_eq_true rfl) dX7_restsIn_44 (fun H locs hW hS => ?_)
            refine lv_re ex_10.symm ?_
            refine lv_istore_n (lv' := [(3, .int x_10), (0, .ref (G.2.2.1 12 0)), (1, .int (nI s9)), (2, .int (nI k))]) hx hb dX7_restsIn_47 rfl hl (by decide) rfl (fun ls hl => ?_)
            refine lv_aload_n hx hb dX7_restsIn_48 rfl (lv_at hl 1 rfl) ?_
            refine wc_v hC hml (kX7_putBack l G Z C) (cwV 0 hts gX7_restsIn_X7_putBack rfl rfl rfl (by decide +kernel) ⟨Nat.le_of_ble_eq_true rfl, Nat.le_of_ble_eq_true rfl⟩) hW hS (vM (by decide)) ce_m0 rfl rfl rfl rfl hl.1 (Nat.le_of_ble_eq_true rfl) dX7_restsIn_49 (fun H locs hW hS => ?_)
            obtain ⟨B_12, eB_12⟩ : ∃ y, y = fX7_putBack C := ⟨_, rfl⟩
            rw [← eB_12] at hW
            try rw [← eB_12] at hR
            refine lv_iload_n hx hb dX7_restsIn_52 rfl (lv_at hl 0 rfl) ?_
            refine lv_if_eq (tgt := 60) hx hb dX7_restsIn_53 (by decide) (fun c_13 => ?_) (fun c_13 => ?_)
            · first | exact absurd c_11 c_13 | exact absurd c_13 c_11
            · skip
              try rw [if_neg c_11] at hR
              refine lv_iload_n hx hb dX7_restsIn_56 rfl (lv_at hl 3 rfl) ?_
              refine lv_goto (tgt := 62) hx hb dX7_restsIn_57 (by decide) ?_
              exact we_i hC hr hlocks (congrArg Prod.snd hR).symm (congrArg (fun u => wset Z 12 u.1) hR).symm hW hS dX7_restsIn_62
          · skip
            try rw [if_pos c_11] at hR
            refine lv_aload_n hx hb dX7_restsIn_31 rfl (lv_at hl 0 rfl) ?_
            refine wc_i hC hml (kX7_ticks l G Z C M M4 hI) (cwV 0 hts gX7_restsIn_X7_ticks rfl rfl rfl (by decide +kernel) ⟨Nat.le_of_ble_eq_true rfl, Nat.le_of_ble_eq_true rfl⟩) hW hS (vM (by decide)) ce_m0 rfl rfl rfl rfl hl.1 (Nat.le_of_ble_eq_true rfl) dX7_restsIn_32 (fun H locs hW hS => ?_)
            obtain ⟨P_14, eP_14⟩ : ∃ y, y = fX7_ticks C := ⟨_, rfl⟩
            rw [← eP_14] at hW ⊢
            try rw [← eP_14] at hR
            obtain ⟨M9, hM9⟩ := ticks_mI hI
            rw [← eP_14] at hM9
            refine lv_topi (fun x_15 ex_15 => ?_)
            try rw [← ex_15] at hR
            refine lv_istore_n (lv' := [(3, .int x_15), (0, .ref (G.2.2.1 12 0)), (1, .int (nI s9)), (2, .int (nI k))]) hx hb dX7_restsIn_35 rfl hl (by decide) rfl (fun ls hl => ?_)
            refine lv_iinc (v := nI (k + 1)) (lv' := [(2, .int (nI (k + 1))), (3, .int x_15), (0, .ref (G.2.2.1 12 0)), (1, .int (nI s9))]) hx hb dX7_restsIn_36 hl (k := 3) rfl (nI_1 _) (by decide) rfl (fun ls hl => ?_)
            refine lv_goto (tgt := 16) hx hb dX7_restsIn_39 (by decide) ?_
            exact ih (k + 1) P_14.1 M9 (by omega) hM9 hR _ _ _ hW hS (lv_sub hl [2, 3, 0] rfl)
    exact hlp_4 restFar 0 B_3 M (by unfold restFar; rfl) hI hR _ _ _ hW hS (lv_sub hl [1, 2, 0] rfl)
  · skip
    try rw [if_pos c_2] at hR
    refine lv_iconst (v := (-1)) hx hb dX7_restsIn_8 (by decide) ?_
    exact we_i hC hr hlocks (congrArg Prod.snd hR).symm (congrArg (fun u => wset Z 12 u.1) hR).symm hW hS dX7_restsIn_9
def stepNear : Nat := 5000
def LX7_ns : Nat → Nat → wB → Nat × wB
  | 0, k, B => (k, B)
  | u + 1, k, B => if B 0 2 < 0 then (k, B) else LX7_ns u (k + 1) (fX7_ticks B).1
def gX7_nsC (a : Int32) (k : Nat) (ok : Int32) (C : wB) : wB × Int32 := if ok = 0 then (C, -6) else if a = 0 then (C, nI k) else if a = 1 then (C, C 0 3) else if C 0 4 = 0 then (C, 0) else (C, 1)
def gX7_ns (a : Int32) (r : Nat × wB) : wB × Int32 := if 0 ≤ r.2 0 2 then gX7_nsC a r.1 0 (fX7_putBack (bput r.2 0 2 (-1))) else gX7_nsC a r.1 1 (fX7_putBack (bput r.2 0 2 (-1)))
def fX7_nextStep (B : wB) (a1 a2 : Int32) : wB × Int32 := if fX7_in a1 0 99 = 0 then (B, -2) else if fX7_in a2 0 2 = 0 then (B, -2) else gX7_ns a2 (LX7_ns stepNear 0 (bput (fX7_putAside B) 0 2 a1))
abbrev rX7_nextStep : Room := { frames := 5, cells := 0, slots := 0, locals := 116 }
set_option maxHeartbeats 4000000 in
set_option maxRecDepth 100000 in
theorem kX7_nextStep (l : Launch) (G : wG) (Z : wZ) (B : wB) (a1 : Int32) (a2 : Int32) (M : Nat) (M4 : Nat) (hI : bI B M4 M) : mI l yX7_nextStep wsX7_nextStep rX7_nextStep G [.ref (G.2.2.1 12 0), .int a1, .int a2] (wset Z 12 B) (fX7_nextStep B a1 a2).2 (wset Z 12 (fX7_nextStep B a1 a2).1) := by
  refine Met.ofW (cc := cX7_nextStep) (maxL := 5) (ret := (some .int)) (by decide) rfl ?_
  intro p e s m args below meth c s₁ B0 hml hv
  obtain ⟨rfl, hW, hK, hL⟩ := hv
  have hlocks := B0.notSynchronized
  have hr := B0.returns
  have hC : wX p s m c cX7_nextStep _ wsX7_nextStep RX7 G := ⟨B0.exec, B0.bytes, findClass_of_methodNamed B0.named, atoms_spec (ws := wsX7_nextStep) B0.pre, hK, hL⟩
  have hx := hC.1
  have hb := hC.2.1
  have hts := hC.2.2.2.1
  have hinRX7 : ∀ w ∈ wsX70, w ∈ wsX7_nextStep := by decide +kernel
  have hk0 := hts (.fieldLink RX7 29 "RampShaftsModel" "passed" "I") (by decide +kernel)
  have hk1 := hts (.fieldLink RX7 65 "RampShaftsModel" "metLost" "Z") (by decide +kernel)
  have hk2 := hts (.fieldLink RX7 62 "RampShaftsModel" "metShaft" "I") (by decide +kernel)
  have hS : va_S (wA G) s.heap s.heap [] := va_S.rf
  have hl := lv_entry ([.ref (G.2.2.1 12 0), .int a1, .int a2]) (n := 5) (Nat.le_of_ble_eq_true rfl)
  rw [lg_entry_eq]
  generalize (lg_sl ([.ref (G.2.2.1 12 0), .int a1, .int a2]) ++ List.replicate (5 - (lg_sl ([.ref (G.2.2.1 12 0), .int a1, .int a2])).length) Slot.unset).toArray = ls at hl ⊢
  have hl : lv_has ls 5 [(0, .ref (G.2.2.1 12 0)), (1, .int a1), (2, .int a2)] := hl
  obtain ⟨R, hR⟩ : ∃ R, R = fX7_nextStep B a1 a2 := ⟨_, rfl⟩
  rw [← hR]
  unfold fX7_nextStep at hR
  refine lv_iload_n hx hb dX7_nextStep_0 rfl (lv_at hl 1 rfl) ?_
  refine lv_iconst (v := 0) hx hb dX7_nextStep_1 (by decide) ?_
  refine lv_bipush (v := 99) hx hb dX7_nextStep_2 (by decide) ?_
  refine wc_s hC hml (kX7_in l G (wset Z 12 B) a1 0 99) (cwS 3 hts gX7_nextStep_X7_in rfl rfl rfl (by decide +kernel) ⟨Nat.le_of_ble_eq_true rfl, Nat.le_of_ble_eq_true rfl⟩) hW hS rfl rfl hl.1 (Nat.le_of_ble_eq_true rfl) dX7_nextStep_4 (fun H locs hW hS => ?_)
  refine lv_topi (fun x_1 ex_1 => ?_)
  try rw [← ex_1] at hR
  refine lv_if_eq (tgt := 19) hx hb dX7_nextStep_7 (by decide) (fun c_2 => ?_) (fun c_2 => ?_)
  · skip
    try rw [if_pos c_2] at hR
    refine lv_bipush (v := (-2)) hx hb dX7_nextStep_19 (by decide) ?_
    exact we_i hC hr hlocks (congrArg Prod.snd hR).symm (congrArg (fun u => wset Z 12 u.1) hR).symm hW hS dX7_nextStep_21
  · skip
    try rw [if_neg c_2] at hR
    refine lv_iload_n hx hb dX7_nextStep_10 rfl (lv_at hl 2 rfl) ?_
    refine lv_iconst (v := 0) hx hb dX7_nextStep_11 (by decide) ?_
    refine lv_iconst (v := 2) hx hb dX7_nextStep_12 (by decide) ?_
    refine wc_s hC hml (kX7_in l G (wset Z 12 B) a2 0 2) (cwS 3 hts gX7_nextStep_X7_in rfl rfl rfl (by decide +kernel) ⟨Nat.le_of_ble_eq_true rfl, Nat.le_of_ble_eq_true rfl⟩) hW hS rfl rfl hl.1 (Nat.le_of_ble_eq_true rfl) dX7_nextStep_13 (fun H locs hW hS => ?_)
    refine lv_topi (fun x_3 ex_3 => ?_)
    try rw [← ex_3] at hR
    refine lv_if_ne (tgt := 22) hx hb dX7_nextStep_16 (by decide) (fun c_4 => ?_) (fun c_4 => ?_)
    · skip
      try rw [if_neg c_4] at hR
      refine lv_aload_n hx hb dX7_nextStep_22 rfl (lv_at hl 0 rfl) ?_
      refine wc_v hC hml (kX7_putAside l G Z B) (cwV 0 hts gX7_nextStep_X7_putAside rfl rfl rfl (by decide +kernel) ⟨Nat.le_of_ble_eq_true rfl, Nat.le_of_ble_eq_true rfl⟩) hW hS (vM (by decide)) ce_m0 rfl rfl rfl rfl hl.1 (Nat.le_of_ble_eq_true rfl) dX7_nextStep_23 (fun H locs hW hS => ?_)
      obtain ⟨B_5, eB_5⟩ : ∃ y, y = fX7_putAside B := ⟨_, rfl⟩
      rw [← eB_5] at hW
      try rw [← eB_5] at hR
      refine lv_aload_n hx hb dX7_nextStep_26 rfl (lv_at hl 0 rfl) ?_
      refine lv_iload_n hx hb dX7_nextStep_27 rfl (lv_at hl 1 rfl) ?_
      refine wr_put (Z' := wset Z 12 (bput B_5 0 2 a1)) (v := .int a1) hC hinRX7 tyX7 tyX7_ok nmX7 hW hS (vM (by decide)) ce_m0 rfl 8 (by decide) hk0 rfl (tyX7_ok 8 (by decide)) rfl rfl (Nat.le_of_ble_eq_true rfl) wset_off pu_m0_2 dX7_nextStep_28 (fun H locs hW hS => ?_)
      have hI := mI_row (C := bput B_5 0 2 a1) hI (fun q _ => by rw [eB_5]; exact (bput_j (by decide)).trans (rcp_o (by decide)))
      refine lv_iconst (v := 0) hx hb dX7_nextStep_31 (by decide) ?_
      refine lv_istore_n (lv' := [(3, .int 0), (0, .ref (G.2.2.1 12 0)), (1, .int a1), (2, .int a2)]) hx hb dX7_nextStep_32 rfl hl (by decide) rfl (fun ls hl => ?_)
      have hlp_6 : ∀ (u : Nat) (k : Nat) (C : wB) (M : Nat), (hk : k + u = 5000) → (hI : bI C M4 M) → R = gX7_ns a2 (LX7_ns u k C) → ∀ (H : Heap) (locs : List Loc) (ls : Array Slot), wW G (wset Z 12 C) H → va_S (wA G) s.heap H locs → lv_has ls 5 [(0, .ref (G.2.2.1 12 0)), (2, .int a2), (3, .int (nI k))] → W p l e (headSpec wsX7_nextStep rX7_nextStep).room s m ([.ref (G.2.2.1 12 0), .int a1, .int a2] : List Value).toArray below meth c H locs 0 0 (qI below ([.ref (G.2.2.1 12 0), .int a1, .int a2] : List Value).toArray s G R.2 (wset Z 12 R.1)) (F0 m 33 ls []) := by
        intro u
        induction u with
        | zero =>
          intro k C M hk hI hR H locs ls hW hS hl
          simp only [LX7_ns] at hR
          refine lv_iload_n hx hb dX7_nextStep_33 rfl (lv_at hl 2 rfl) ?_
          refine lv_sipush (v := 5000) hx hb dX7_nextStep_34 (by decide) ?_
          refine lv_icmp_ge (tgt := 59) hx hb dX7_nextStep_37 (by decide) (fun c_7 => ?_) (fun c_7 => ?_)
          · skip
            unfold gX7_ns at hR
            simp only at hR
            refine lv_aload_n hx hb dX7_nextStep_59 rfl (lv_at hl 0 rfl) ?_
            refine wr_get hC hinRX7 hW (vM (by decide)) ce_m0 rfl 8 (by decide) hk0 rfl dX7_nextStep_60 ?_
            refine lv_if_ge (tgt := 70) hx hb dX7_nextStep_63 (by decide) (fun c_8 => ?_) (fun c_8 => ?_)
            · skip
              try rw [if_pos c_8] at hR
              refine lv_iconst (v := 0) hx hb dX7_nextStep_70 (by decide) ?_
              refine lv_istore (lv' := [(4, .int 0), (0, .ref (G.2.2.1 12 0)), (2, .int a2), (3, .int (nI k))]) hx hb dX7_nextStep_71 hl (by decide) rfl (fun ls hl => ?_)
              refine lv_aload_n hx hb dX7_nextStep_73 rfl (lv_at hl 1 rfl) ?_
              refine lv_iconst (v := (-1)) hx hb dX7_nextStep_74 (by decide) ?_
              refine wr_put (Z' := wset Z 12 (bput C 0 2 (-1))) (v := .int (-1)) hC hinRX7 tyX7 tyX7_ok nmX7 hW hS (vM (by decide)) ce_m0 rfl 8 (by decide) hk0 rfl (tyX7_ok 8 (by decide)) rfl rfl (Nat.le_of_ble_eq_true rfl) wset_off pu_m0_2 dX7_nextStep_75 (fun H locs hW hS => ?_)
              refine lv_aload_n hx hb dX7_nextStep_78 rfl (lv_at hl 1 rfl) ?_
              obtain ⟨B_9, eB_9⟩ : ∃ y, y = (bput C 0 2 (-1)) := ⟨_, rfl⟩
              rw [← eB_9] at hW
              try rw [← eB_9] at hR
              refine wc_v hC hml (kX7_putBack l G Z B_9) (cwV 0 hts gX7_nextStep_X7_putBack rfl rfl rfl (by decide +kernel) ⟨Nat.le_of_ble_eq_true rfl, Nat.le_of_ble_eq_true rfl⟩) hW hS (vM (by decide)) ce_m0 rfl rfl rfl rfl hl.1 (Nat.le_of_ble_eq_true rfl) dX7_nextStep_79 (fun H locs hW hS => ?_)
              obtain ⟨B_10, eB_10⟩ : ∃ y, y = fX7_putBack B_9 := ⟨_, rfl⟩
              rw [← eB_10] at hW
              try rw [← eB_10] at hR
              unfold gX7_nsC at hR
              rw [if_pos rfl] at hR
              refine lv_iload hx hb dX7_nextStep_82 (lv_at hl 0 rfl) ?_
              refine lv_if_ne (tgt := 92) hx hb dX7_nextStep_84 (by decide) (fun c_11 => ?_) (fun c_11 => ?_)
              · exact absurd c_11 (by decide)
              · skip
                refine lv_bipush (v := (-6)) hx hb dX7_nextStep_87 (by decide) ?_
                refine lv_goto (tgt := 124) hx hb dX7_nextStep_89 (by decide) ?_
                exact we_i hC hr hlocks (congrArg Prod.snd hR).symm (congrArg (fun u => wset Z 12 u.1) hR).symm hW hS dX7_nextStep_124
            · skip
              try rw [if_neg c_8] at hR
              refine lv_iconst (v := 1) hx hb dX7_nextStep_66 (by decide) ?_
              refine lv_goto (tgt := 71) hx hb dX7_nextStep_67 (by decide) ?_
              refine lv_istore (lv' := [(4, .int 1), (0, .ref (G.2.2.1 12 0)), (2, .int a2), (3, .int (nI k))]) hx hb dX7_nextStep_71 hl (by decide) rfl (fun ls hl => ?_)
              refine lv_aload_n hx hb dX7_nextStep_73 rfl (lv_at hl 1 rfl) ?_
              refine lv_iconst (v := (-1)) hx hb dX7_nextStep_74 (by decide) ?_
              refine wr_put (Z' := wset Z 12 (bput C 0 2 (-1))) (v := .int (-1)) hC hinRX7 tyX7 tyX7_ok nmX7 hW hS (vM (by decide)) ce_m0 rfl 8 (by decide) hk0 rfl (tyX7_ok 8 (by decide)) rfl rfl (Nat.le_of_ble_eq_true rfl) wset_off pu_m0_2 dX7_nextStep_75 (fun H locs hW hS => ?_)
              refine lv_aload_n hx hb dX7_nextStep_78 rfl (lv_at hl 1 rfl) ?_
              obtain ⟨B_12, eB_12⟩ : ∃ y, y = (bput C 0 2 (-1)) := ⟨_, rfl⟩
              rw [← eB_12] at hW
              try rw [← eB_12] at hR
              refine wc_v hC hml (kX7_putBack l G Z B_12) (cwV 0 hts gX7_nextStep_X7_putBack rfl rfl rfl (by decide +kernel) ⟨Nat.le_of_ble_eq_true rfl, Nat.le_of_ble_eq_true rfl⟩) hW hS (vM (by decide)) ce_m0 rfl rfl rfl rfl hl.1 (Nat.le_of_ble_eq_true rfl) dX7_nextStep_79 (fun H locs hW hS => ?_)
              obtain ⟨B_13, eB_13⟩ : ∃ y, y = fX7_putBack B_12 := ⟨_, rfl⟩
              rw [← eB_13] at hW
              try rw [← eB_13] at hR
              unfold gX7_nsC at hR
              rw [if_neg (by decide)] at hR
              refine lv_iload hx hb dX7_nextStep_82 (lv_at hl 0 rfl) ?_
              refine lv_if_ne (tgt := 92) hx hb dX7_nextStep_84 (by decide) (fun c_14 => ?_) (fun c_14 => ?_)
              · skip
                refine lv_iload_n hx hb dX7_nextStep_92 rfl (lv_at hl 2 rfl) ?_
                refine lv_if_ne (tgt := 100) hx hb dX7_nextStep_93 (by decide) (fun c_15 => ?_) (fun c_15 => ?_)
                · skip
                  try rw [if_neg c_15] at hR
                  refine lv_iload_n hx hb dX7_nextStep_100 rfl (lv_at hl 2 rfl) ?_
                  refine lv_iconst (v := 1) hx hb dX7_nextStep_101 (by decide) ?_
                  refine lv_icmp_ne (tgt := 112) hx hb dX7_nextStep_102 (by decide) (fun c_16 => ?_) (fun c_16 => ?_)
                  · skip
                    try rw [if_neg c_16] at hR
                    refine lv_aload_n hx hb dX7_nextStep_112 rfl (lv_at hl 1 rfl) ?_
                    refine wr_get hC hinRX7 hW (vM (by decide)) ce_m0 rfl 10 (by decide) hk1 rfl dX7_nextStep_113 ?_
                    refine lv_if_eq (tgt := 123) hx hb dX7_nextStep_116 (by decide) (fun c_17 => ?_) (fun c_17 => ?_)
                    · skip
                      try rw [if_pos c_17] at hR
                      refine lv_iconst (v := 0) hx hb dX7_nextStep_123 (by decide) ?_
                      exact we_i hC hr hlocks (congrArg Prod.snd hR).symm (congrArg (fun u => wset Z 12 u.1) hR).symm hW hS dX7_nextStep_124
                    · skip
                      try rw [if_neg c_17] at hR
                      refine lv_iconst (v := 1) hx hb dX7_nextStep_119 (by decide) ?_
                      refine lv_goto (tgt := 124) hx hb dX7_nextStep_120 (by decide) ?_
                      exact we_i hC hr hlocks (congrArg Prod.snd hR).symm (congrArg (fun u => wset Z 12 u.1) hR).symm hW hS dX7_nextStep_124
                  · skip
                    try rw [if_pos c_16] at hR
                    refine lv_aload_n hx hb dX7_nextStep_105 rfl (lv_at hl 1 rfl) ?_
                    refine wr_get hC hinRX7 hW (vM (by decide)) ce_m0 rfl 9 (by decide) hk2 rfl dX7_nextStep_106 ?_
                    refine lv_goto (tgt := 124) hx hb dX7_nextStep_109 (by decide) ?_
                    exact we_i hC hr hlocks (congrArg Prod.snd hR).symm (congrArg (fun u => wset Z 12 u.1) hR).symm hW hS dX7_nextStep_124
                · skip
                  try rw [if_pos c_15] at hR
                  refine lv_iload_n hx hb dX7_nextStep_96 rfl (lv_at hl 3 rfl) ?_
                  refine lv_goto (tgt := 124) hx hb dX7_nextStep_97 (by decide) ?_
                  exact we_i hC hr hlocks (congrArg Prod.snd hR).symm (congrArg (fun u => wset Z 12 u.1) hR).symm hW hS dX7_nextStep_124
              · exact absurd c_14 (by decide)
          · exact absurd ((nI_leI (a := 5000) (by decide) (by omega)).mpr (by omega)) c_7
        | succ u ih =>
          intro k C M hk hI hR H locs ls hW hS hl
          simp only [LX7_ns] at hR
          refine lv_iload_n hx hb dX7_nextStep_33 rfl (lv_at hl 2 rfl) ?_
          refine lv_sipush (v := 5000) hx hb dX7_nextStep_34 (by decide) ?_
          refine lv_icmp_ge (tgt := 59) hx hb dX7_nextStep_37 (by decide) (fun c_18 => ?_) (fun c_18 => ?_)
          · exact absurd ((nI_leI (a := 5000) (by decide) (by omega)).mp c_18) (by omega)
          · skip
            refine lv_aload_n hx hb dX7_nextStep_40 rfl (lv_at hl 0 rfl) ?_
            refine wr_get hC hinRX7 hW (vM (by decide)) ce_m0 rfl 8 (by decide) hk0 rfl dX7_nextStep_41 ?_
            refine lv_if_lt (tgt := 59) hx hb dX7_nextStep_44 (by decide) (fun c_19 => ?_) (fun c_19 => ?_)
            · skip
              try rw [if_pos c_19] at hR
              unfold gX7_ns at hR
              simp only at hR
              refine lv_aload_n hx hb dX7_nextStep_59 rfl (lv_at hl 0 rfl) ?_
              refine wr_get hC hinRX7 hW (vM (by decide)) ce_m0 rfl 8 (by decide) hk0 rfl dX7_nextStep_60 ?_
              refine lv_if_ge (tgt := 70) hx hb dX7_nextStep_63 (by decide) (fun c_20 => ?_) (fun c_20 => ?_)
              · skip
                try rw [if_pos c_20] at hR
                refine lv_iconst (v := 0) hx hb dX7_nextStep_70 (by decide) ?_
                refine lv_istore (lv' := [(4, .int 0), (0, .ref (G.2.2.1 12 0)), (2, .int a2), (3, .int (nI k))]) hx hb dX7_nextStep_71 hl (by decide) rfl (fun ls hl => ?_)
                refine lv_aload_n hx hb dX7_nextStep_73 rfl (lv_at hl 1 rfl) ?_
                refine lv_iconst (v := (-1)) hx hb dX7_nextStep_74 (by decide) ?_
                refine wr_put (Z' := wset Z 12 (bput C 0 2 (-1))) (v := .int (-1)) hC hinRX7 tyX7 tyX7_ok nmX7 hW hS (vM (by decide)) ce_m0 rfl 8 (by decide) hk0 rfl (tyX7_ok 8 (by decide)) rfl rfl (Nat.le_of_ble_eq_true rfl) wset_off pu_m0_2 dX7_nextStep_75 (fun H locs hW hS => ?_)
                refine lv_aload_n hx hb dX7_nextStep_78 rfl (lv_at hl 1 rfl) ?_
                obtain ⟨B_21, eB_21⟩ : ∃ y, y = (bput C 0 2 (-1)) := ⟨_, rfl⟩
                rw [← eB_21] at hW
                try rw [← eB_21] at hR
                refine wc_v hC hml (kX7_putBack l G Z B_21) (cwV 0 hts gX7_nextStep_X7_putBack rfl rfl rfl (by decide +kernel) ⟨Nat.le_of_ble_eq_true rfl, Nat.le_of_ble_eq_true rfl⟩) hW hS (vM (by decide)) ce_m0 rfl rfl rfl rfl hl.1 (Nat.le_of_ble_eq_true rfl) dX7_nextStep_79 (fun H locs hW hS => ?_)
                obtain ⟨B_22, eB_22⟩ : ∃ y, y = fX7_putBack B_21 := ⟨_, rfl⟩
                rw [← eB_22] at hW
                try rw [← eB_22] at hR
                unfold gX7_nsC at hR
                rw [if_pos rfl] at hR
                refine lv_iload hx hb dX7_nextStep_82 (lv_at hl 0 rfl) ?_
                refine lv_if_ne (tgt := 92) hx hb dX7_nextStep_84 (by decide) (fun c_23 => ?_) (fun c_23 => ?_)
                · exact absurd c_23 (by decide)
                · skip
                  refine lv_bipush (v := (-6)) hx hb dX7_nextStep_87 (by decide) ?_
                  refine lv_goto (tgt := 124) hx hb dX7_nextStep_89 (by decide) ?_
                  exact we_i hC hr hlocks (congrArg Prod.snd hR).symm (congrArg (fun u => wset Z 12 u.1) hR).symm hW hS dX7_nextStep_124
              · skip
                try rw [if_neg c_20] at hR
                refine lv_iconst (v := 1) hx hb dX7_nextStep_66 (by decide) ?_
                refine lv_goto (tgt := 71) hx hb dX7_nextStep_67 (by decide) ?_
                refine lv_istore (lv' := [(4, .int 1), (0, .ref (G.2.2.1 12 0)), (2, .int a2), (3, .int (nI k))]) hx hb dX7_nextStep_71 hl (by decide) rfl (fun ls hl => ?_)
                refine lv_aload_n hx hb dX7_nextStep_73 rfl (lv_at hl 1 rfl) ?_
                refine lv_iconst (v := (-1)) hx hb dX7_nextStep_74 (by decide) ?_
                refine wr_put (Z' := wset Z 12 (bput C 0 2 (-1))) (v := .int (-1)) hC hinRX7 tyX7 tyX7_ok nmX7 hW hS (vM (by decide)) ce_m0 rfl 8 (by decide) hk0 rfl (tyX7_ok 8 (by decide)) rfl rfl (Nat.le_of_ble_eq_true rfl) wset_off pu_m0_2 dX7_nextStep_75 (fun H locs hW hS => ?_)
                refine lv_aload_n hx hb dX7_nextStep_78 rfl (lv_at hl 1 rfl) ?_
                obtain ⟨B_24, eB_24⟩ : ∃ y, y = (bput C 0 2 (-1)) := ⟨_, rfl⟩
                rw [← eB_24] at hW
                try rw [← eB_24] at hR
                refine wc_v hC hml (kX7_putBack l G Z B_24) (cwV 0 hts gX7_nextStep_X7_putBack rfl rfl rfl (by decide +kernel) ⟨Nat.le_of_ble_eq_true rfl, Nat.le_of_ble_eq_true rfl⟩) hW hS (vM (by decide)) ce_m0 rfl rfl rfl rfl hl.1 (Nat.le_of_ble_eq_true rfl) dX7_nextStep_79 (fun H locs hW hS => ?_)
                obtain ⟨B_25, eB_25⟩ : ∃ y, y = fX7_putBack B_24 := ⟨_, rfl⟩
                rw [← eB_25] at hW
                try rw [← eB_25] at hR
                unfold gX7_nsC at hR
                rw [if_neg (by decide)] at hR
                refine lv_iload hx hb dX7_nextStep_82 (lv_at hl 0 rfl) ?_
                refine lv_if_ne (tgt := 92) hx hb dX7_nextStep_84 (by decide) (fun c_26 => ?_) (fun c_26 => ?_)
                · skip
                  refine lv_iload_n hx hb dX7_nextStep_92 rfl (lv_at hl 2 rfl) ?_
                  refine lv_if_ne (tgt := 100) hx hb dX7_nextStep_93 (by decide) (fun c_27 => ?_) (fun c_27 => ?_)
                  · skip
                    try rw [if_neg c_27] at hR
                    refine lv_iload_n hx hb dX7_nextStep_100 rfl (lv_at hl 2 rfl) ?_
                    refine lv_iconst (v := 1) hx hb dX7_nextStep_101 (by decide) ?_
                    refine lv_icmp_ne (tgt := 112) hx hb dX7_nextStep_102 (by decide) (fun c_28 => ?_) (fun c_28 => ?_)
                    · skip
                      try rw [if_neg c_28] at hR
                      refine lv_aload_n hx hb dX7_nextStep_112 rfl (lv_at hl 1 rfl) ?_
                      refine wr_get hC hinRX7 hW (vM (by decide)) ce_m0 rfl 10 (by decide) hk1 rfl dX7_nextStep_113 ?_
                      refine lv_if_eq (tgt := 123) hx hb dX7_nextStep_116 (by decide) (fun c_29 => ?_) (fun c_29 => ?_)
                      · skip
                        try rw [if_pos c_29] at hR
                        refine lv_iconst (v := 0) hx hb dX7_nextStep_123 (by decide) ?_
                        exact we_i hC hr hlocks (congrArg Prod.snd hR).symm (congrArg (fun u => wset Z 12 u.1) hR).symm hW hS dX7_nextStep_124
                      · skip
                        try rw [if_neg c_29] at hR
                        refine lv_iconst (v := 1) hx hb dX7_nextStep_119 (by decide) ?_
                        refine lv_goto (tgt := 124) hx hb dX7_nextStep_120 (by decide) ?_
                        exact we_i hC hr hlocks (congrArg Prod.snd hR).symm (congrArg (fun u => wset Z 12 u.1) hR).symm hW hS dX7_nextStep_124
                    · skip
                      try rw [if_pos c_28] at hR
                      refine lv_aload_n hx hb dX7_nextStep_105 rfl (lv_at hl 1 rfl) ?_
                      refine wr_get hC hinRX7 hW (vM (by decide)) ce_m0 rfl 9 (by decide) hk2 rfl dX7_nextStep_106 ?_
                      refine lv_goto (tgt := 124) hx hb dX7_nextStep_109 (by decide) ?_
                      exact we_i hC hr hlocks (congrArg Prod.snd hR).symm (congrArg (fun u => wset Z 12 u.1) hR).symm hW hS dX7_nextStep_124
                  · skip
                    try rw [if_pos c_27] at hR
                    refine lv_iload_n hx hb dX7_nextStep_96 rfl (lv_at hl 3 rfl) ?_
                    refine lv_goto (tgt := 124) hx hb dX7_nextStep_97 (by decide) ?_
                    exact we_i hC hr hlocks (congrArg Prod.snd hR).symm (congrArg (fun u => wset Z 12 u.1) hR).symm hW hS dX7_nextStep_124
                · exact absurd c_26 (by decide)
            · skip
              try rw [if_neg c_19] at hR
              refine lv_aload_n hx hb dX7_nextStep_47 rfl (lv_at hl 0 rfl) ?_
              refine wc_i hC hml (kX7_ticks l G Z C M M4 hI) (cwV 0 hts gX7_nextStep_X7_ticks rfl rfl rfl (by decide +kernel) ⟨Nat.le_of_ble_eq_true rfl, Nat.le_of_ble_eq_true rfl⟩) hW hS (vM (by decide)) ce_m0 rfl rfl rfl rfl hl.1 (Nat.le_of_ble_eq_true rfl) dX7_nextStep_48 (fun H locs hW hS => ?_)
              obtain ⟨P_30, eP_30⟩ : ∃ y, y = fX7_ticks C := ⟨_, rfl⟩
              rw [← eP_30] at hW ⊢
              try rw [← eP_30] at hR
              obtain ⟨M9, hM9⟩ := ticks_mI hI
              rw [← eP_30] at hM9
              refine lv_topi (fun x_31 ex_31 => ?_)
              try rw [← ex_31] at hR
              refine lv_istore (lv' := [(4, .int x_31), (0, .ref (G.2.2.1 12 0)), (2, .int a2), (3, .int (nI k))]) hx hb dX7_nextStep_51 hl (by decide) rfl (fun ls hl => ?_)
              refine lv_iinc (v := nI (k + 1)) (lv' := [(3, .int (nI (k + 1))), (4, .int x_31), (0, .ref (G.2.2.1 12 0)), (2, .int a2)]) hx hb dX7_nextStep_53 hl (k := 3) rfl (nI_1 _) (by decide) rfl (fun ls hl => ?_)
              refine lv_goto (tgt := 33) hx hb dX7_nextStep_56 (by decide) ?_
              exact ih (k + 1) P_30.1 M9 (by omega) hM9 hR _ _ _ hW hS (lv_sub hl [2, 3, 0] rfl)
      exact hlp_6 stepNear 0 (bput B_5 0 2 a1) M (by unfold stepNear; rfl) hI hR _ _ _ hW hS (lv_sub hl [1, 3, 0] rfl)
    · skip
      try rw [if_pos c_4] at hR
      refine lv_bipush (v := (-2)) hx hb dX7_nextStep_19 (by decide) ?_
      exact we_i hC hr hlocks (congrArg Prod.snd hR).symm (congrArg (fun u => wset Z 12 u.1) hR).symm hW hS dX7_nextStep_21

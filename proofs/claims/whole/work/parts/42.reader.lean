def LX4_ff : Nat → wB → wB × Int32
  | 0, B => (B, B 5 0)
  | u + 1, B => if (fX4_readOrder B).2 = 0 then ((fX4_readOrder B).1, (fX4_readOrder B).1 5 0)
    else if (fX4_readOrder B).1 5 0 = (fX4_readOrder B).1 6 0 then ((fX4_readOrder B).1, -6)
    else if (fX4_skip (fX4_readOrder B).1 59).2 = 0 then ((fX4_skip (fX4_readOrder B).1 59).1, (fX4_skip (fX4_readOrder B).1 59).1 5 0)
    else LX4_ff u (fX4_skip (fX4_readOrder B).1 59).1
def fX4_findFault (B : wB) : wB × Int32 := LX4_ff 80 (fX4_begin B)
abbrev rX4_findFault : Room := { frames := 5, cells := 0, slots := 0, locals := 107 }
set_option maxHeartbeats 4000000 in
set_option maxRecDepth 100000 in
theorem kX4_findFault (l : Launch) (G : wG) (Z : wZ) (B : wB)   : mI l yX4_findFault wsX4_findFault rX4_findFault G [.ref (G.2.2.1 11 5)] (wset Z 11 B) (fX4_findFault B).2 (wset Z 11 (fX4_findFault B).1) := by
  refine Met.ofW (cc := cX4_findFault) (maxL := 2) (ret := (some .int)) (by decide) rfl ?_
  intro p e s m args below meth c s₁ B0 hml hv
  obtain ⟨rfl, hW, hK, hL⟩ := hv
  have hlocks := B0.notSynchronized
  have hr := B0.returns
  have hC : wX p s m c cX4_findFault _ wsX4_findFault RX4 G := ⟨B0.exec, B0.bytes, findClass_of_methodNamed B0.named, atoms_spec (ws := wsX4_findFault) B0.pre, hK, hL⟩
  have hx := hC.1
  have hb := hC.2.1
  have hts := hC.2.2.2.1
  have hinRX2 : ∀ w ∈ wsX20, w ∈ wsX4_findFault := by decide +kernel
  have hinRX4 : ∀ w ∈ wsX40, w ∈ wsX4_findFault := by decide +kernel
  have hk0 := hts (.fieldLink RX4 18 "RampShafts$Reader" "at" "I") (by decide +kernel)
  have hk1 := hts (.fieldLink RX4 12 "RampShafts$Reader" "pad" "LRampShafts$Pad;") (by decide +kernel)
  have hk2 := hts (.fieldLink RX4 29 "RampShafts$Pad" "length" "I") (by decide +kernel)
  have hS : va_S (wA G) s.heap s.heap [] := va_S.rf
  have hl := lv_entry ([.ref (G.2.2.1 11 5)]) (n := 2) (Nat.le_of_ble_eq_true rfl)
  rw [lg_entry_eq]
  generalize (lg_sl ([.ref (G.2.2.1 11 5)]) ++ List.replicate (2 - (lg_sl ([.ref (G.2.2.1 11 5)])).length) Slot.unset).toArray = ls at hl ⊢
  have hl : lv_has ls 2 [(0, .ref (G.2.2.1 11 5))] := hl
  obtain ⟨R, hR⟩ : ∃ R, R = fX4_findFault B := ⟨_, rfl⟩
  rw [← hR]
  unfold fX4_findFault at hR
  refine lv_aload_n hx hb dX4_findFault_0 rfl (lv_at hl 0 rfl) ?_
  refine wc_v hC hml (kX4_begin l G Z B) (cwV 0 hts gX4_findFault_X4_begin rfl rfl rfl (by decide +kernel) ⟨Nat.le_of_ble_eq_true rfl, Nat.le_of_ble_eq_true rfl⟩) hW hS (vS (by decide)) ce_s5 rfl rfl rfl rfl hl.1 (Nat.le_of_ble_eq_true rfl) dX4_findFault_1 (fun H locs hW hS => ?_)
  obtain ⟨B_1, eB_1⟩ : ∃ y, y = fX4_begin B := ⟨_, rfl⟩
  rw [← eB_1] at hW
  try rw [← eB_1] at hR
  refine lv_iconst (v := 0) hx hb dX4_findFault_4 (by decide) ?_
  refine lv_istore_n (lv' := [(1, .int 0), (0, .ref (G.2.2.1 11 5))]) hx hb dX4_findFault_5 rfl hl (by decide) rfl (fun ls hl => ?_)
  have hlp_2 : ∀ (u : Nat) (k : Nat) (B : wB), (hk : k + u = 80) → R = LX4_ff u B → ∀ (H : Heap) (locs : List Loc) (ls : Array Slot), wW G (wset Z 11 B) H → va_S (wA G) s.heap H locs → lv_has ls 2 [(0, .ref (G.2.2.1 11 5)), (1, .int (nI k))] → W p l e (headSpec wsX4_findFault rX4_findFault).room s m ([.ref (G.2.2.1 11 5)] : List Value).toArray below meth c H locs 0 0 (qI below ([.ref (G.2.2.1 11 5)] : List Value).toArray s G R.2 (wset Z 11 R.1)) (F0 m 6 ls []) := by
    intro u
    induction u with
    | zero =>
      intro k B hk hR H locs ls hW hS hl
      simp only [LX4_ff] at hR
      refine lv_iload_n hx hb dX4_findFault_6 rfl (lv_at hl 1 rfl) ?_
      refine lv_bipush (v := 80) hx hb dX4_findFault_7 (by decide) ?_
      refine lv_icmp_ge (tgt := 61) hx hb dX4_findFault_9 (by decide) (fun c_3 => ?_) (fun c_3 => ?_)
      · skip
        refine lv_aload_n hx hb dX4_findFault_61 rfl (lv_at hl 0 rfl) ?_
        refine wr_get hC hinRX4 hW (vS (by decide)) ce_s5 rfl 1 (by decide) hk0 rfl dX4_findFault_62 ?_
        exact we_i hC hr hlocks (congrArg Prod.snd hR).symm (congrArg (fun u => wset Z 11 u.1) hR).symm hW hS dX4_findFault_65
      · exact absurd ((nI_leI (a := 80) (by decide) (by omega)).mpr (by omega)) c_3
    | succ u ih =>
      intro k B hk hR H locs ls hW hS hl
      simp only [LX4_ff] at hR
      refine lv_iload_n hx hb dX4_findFault_6 rfl (lv_at hl 1 rfl) ?_
      refine lv_bipush (v := 80) hx hb dX4_findFault_7 (by decide) ?_
      refine lv_icmp_ge (tgt := 61) hx hb dX4_findFault_9 (by decide) (fun c_4 => ?_) (fun c_4 => ?_)
      · exact absurd ((nI_leI (a := 80) (by decide) (by omega)).mp c_4) (by omega)
      · skip
        refine lv_aload_n hx hb dX4_findFault_12 rfl (lv_at hl 0 rfl) ?_
        refine wc_i hC hml (kX4_readOrder l G Z B) (cwV 0 hts gX4_findFault_X4_readOrder rfl rfl rfl (by decide +kernel) ⟨Nat.le_of_ble_eq_true rfl, Nat.le_of_ble_eq_true rfl⟩) hW hS (vS (by decide)) ce_s5 rfl rfl rfl rfl hl.1 (Nat.le_of_ble_eq_true rfl) dX4_findFault_13 (fun H locs hW hS => ?_)
        obtain ⟨P_5, eP_5⟩ : ∃ y, y = fX4_readOrder B := ⟨_, rfl⟩
        rw [← eP_5] at hW ⊢
        try rw [← eP_5] at hR
        refine lv_if_ne (tgt := 24) hx hb dX4_findFault_16 (by decide) (fun c_6 => ?_) (fun c_6 => ?_)
        · skip
          try rw [if_neg c_6] at hR
          refine lv_aload_n hx hb dX4_findFault_24 rfl (lv_at hl 0 rfl) ?_
          refine wr_get hC hinRX4 hW (vS (by decide)) ce_s5 rfl 1 (by decide) hk0 rfl dX4_findFault_25 ?_
          refine lv_aload_n hx hb dX4_findFault_28 rfl (lv_at hl 0 rfl) ?_
          refine wr_get hC hinRX4 hW (vS (by decide)) ce_s5 rfl 0 (by decide) hk1 rfl dX4_findFault_29 ?_
          refine wr_get hC hinRX2 hW (vS (by decide)) ce_s6 rfl 1 (by decide) hk2 rfl dX4_findFault_32 ?_
          refine lv_icmp_ne (tgt := 41) hx hb dX4_findFault_35 (by decide) (fun c_7 => ?_) (fun c_7 => ?_)
          · skip
            try rw [if_neg c_7] at hR
            refine lv_aload_n hx hb dX4_findFault_41 rfl (lv_at hl 0 rfl) ?_
            refine lv_bipush (v := 59) hx hb dX4_findFault_42 (by decide) ?_
            refine wc_i hC hml (kX4_skip l G Z P_5.1 59) (cwV 1 hts gX4_findFault_X4_skip rfl rfl rfl (by decide +kernel) ⟨Nat.le_of_ble_eq_true rfl, Nat.le_of_ble_eq_true rfl⟩) hW hS (vS (by decide)) ce_s5 rfl rfl rfl rfl hl.1 (Nat.le_of_ble_eq_true rfl) dX4_findFault_44 (fun H locs hW hS => ?_)
            obtain ⟨P_8, eP_8⟩ : ∃ y, y = fX4_skip P_5.1 59 := ⟨_, rfl⟩
            rw [← eP_8] at hW ⊢
            try rw [← eP_8] at hR
            refine lv_if_ne (tgt := 55) hx hb dX4_findFault_47 (by decide) (fun c_9 => ?_) (fun c_9 => ?_)
            · skip
              try rw [if_neg c_9] at hR
              refine lv_iinc (v := nI (k + 1)) (lv' := [(1, .int (nI (k + 1))), (0, .ref (G.2.2.1 11 5))]) hx hb dX4_findFault_55 hl (k := 1) rfl (nI_1 _) (by decide) rfl (fun ls hl => ?_)
              refine lv_goto (tgt := 6) hx hb dX4_findFault_58 (by decide) ?_
              exact ih (k + 1) P_8.1 (by omega) hR _ _ _ hW hS (lv_sub hl [1, 0] rfl)
            · skip
              try rw [if_pos c_9] at hR
              refine lv_aload_n hx hb dX4_findFault_50 rfl (lv_at hl 0 rfl) ?_
              refine wr_get hC hinRX4 hW (vS (by decide)) ce_s5 rfl 1 (by decide) hk0 rfl dX4_findFault_51 ?_
              exact we_i hC hr hlocks (congrArg Prod.snd hR).symm (congrArg (fun u => wset Z 11 u.1) hR).symm hW hS dX4_findFault_54
          · skip
            try rw [if_pos c_7] at hR
            refine lv_bipush (v := (-6)) hx hb dX4_findFault_38 (by decide) ?_
            exact we_i hC hr hlocks (congrArg Prod.snd hR).symm (congrArg (fun u => wset Z 11 u.1) hR).symm hW hS dX4_findFault_40
        · skip
          try rw [if_pos c_6] at hR
          refine lv_aload_n hx hb dX4_findFault_19 rfl (lv_at hl 0 rfl) ?_
          refine wr_get hC hinRX4 hW (vS (by decide)) ce_s5 rfl 1 (by decide) hk0 rfl dX4_findFault_20 ?_
          exact we_i hC hr hlocks (congrArg Prod.snd hR).symm (congrArg (fun u => wset Z 11 u.1) hR).symm hW hS dX4_findFault_23
  exact hlp_2 80 0 B_1 rfl hR _ _ _ hW hS (lv_sub hl [1, 0] rfl)

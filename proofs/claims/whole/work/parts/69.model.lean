def LX7_be (B : wB) (z : Int32) : Nat → Nat → Int32 → Int32
  | 0, _, x => x
  | u + 1, k, x => LX7_be B z u (k + 1) (if z < fX7_needs B (nI k) then x else nI k)
def fX7_bears (B : wB) (a1 : Int32) : Int32 := if fX7_isShaft B a1 = 0 then -1 else if fX7_rests B a1.toNatClampNeg = 0 then LX7_be B (fX7_intervalBy B (B 1 (7 + 14 * a1.toNatClampNeg + 6)) (B 1 2)) 10 0 (-6) else LX7_be B (fX7_intervalBy B 0 (B 1 2)) 10 0 (-6)
abbrev rX7_bears : Room := { frames := 2, cells := 0, slots := 0, locals := 43 }
set_option maxHeartbeats 4000000 in
set_option maxRecDepth 100000 in
theorem kX7_bears (l : Launch) (G : wG) (Z : wZ) (B : wB) (a1 : Int32) (hm : 0 ≤ (B 1 6).toInt ∧ (B 1 6).toInt ≤ 4) : mI l yX7_bears wsX7_bears rX7_bears G [.ref (G.2.2.1 12 0), .int a1] (wset Z 12 B) (fX7_bears B a1) (wset Z 12 B) := by
  refine Met.ofW (cc := cX7_bears) (maxL := 5) (ret := (some .int)) (by decide) rfl ?_
  intro p e s m args below meth c s₁ B0 hml hv
  obtain ⟨rfl, hW, hK, hL⟩ := hv
  have hlocks := B0.notSynchronized
  have hr := B0.returns
  have hC : wX p s m c cX7_bears _ wsX7_bears RX7 G := ⟨B0.exec, B0.bytes, findClass_of_methodNamed B0.named, atoms_spec (ws := wsX7_bears) B0.pre, hK, hL⟩
  have hx := hC.1
  have hb := hC.2.1
  have hts := hC.2.2.2.1
  have hinRX7 : ∀ w ∈ wsX70, w ∈ wsX7_bears := by decide +kernel
  have hk0 := hts (.fieldLink RX7 7 "RampShaftsModel" "s" "[I") (by decide +kernel)
  have hS : va_S (wA G) s.heap s.heap [] := va_S.rf
  have hl := lv_entry ([.ref (G.2.2.1 12 0), .int a1]) (n := 5) (Nat.le_of_ble_eq_true rfl)
  rw [lg_entry_eq]
  generalize (lg_sl ([.ref (G.2.2.1 12 0), .int a1]) ++ List.replicate (5 - (lg_sl ([.ref (G.2.2.1 12 0), .int a1])).length) Slot.unset).toArray = ls at hl ⊢
  have hl : lv_has ls 5 [(0, .ref (G.2.2.1 12 0)), (1, .int a1)] := hl
  obtain ⟨R, hR⟩ : ∃ R, R = fX7_bears B a1 := ⟨_, rfl⟩
  rw [← hR]
  unfold fX7_bears at hR
  refine lv_aload_n hx hb dX7_bears_0 rfl (lv_at hl 0 rfl) ?_
  refine lv_iload_n hx hb dX7_bears_1 rfl (lv_at hl 1 rfl) ?_
  refine wc_i hC hml (kX7_isShaft l G Z B a1) (cwV 1 hts gX7_bears_X7_isShaft rfl rfl rfl (by decide +kernel) ⟨Nat.le_of_ble_eq_true rfl, Nat.le_of_ble_eq_true rfl⟩) hW hS (vM (by decide)) ce_m0 rfl rfl rfl rfl hl.1 (Nat.le_of_ble_eq_true rfl) dX7_bears_2 (fun H locs hW hS => ?_)
  refine lv_topi (fun x_1 ex_1 => ?_)
  try rw [← ex_1] at hR
  refine lv_if_ne (tgt := 10) hx hb dX7_bears_5 (by decide) (fun c_2 => ?_) (fun c_2 => ?_)
  · skip
    try rw [if_neg c_2] at hR
    have hs9 := sh_ok hm (by rw [← ex_1]; exact c_2)
    have ek9 := nI_self hs9.1
    have hk9 := hs9.2.1
    rw [ek9] at hl
    refine lv_aload_n hx hb dX7_bears_10 rfl (lv_at hl 0 rfl) ?_
    refine lv_aload_n hx hb dX7_bears_11 rfl (lv_at hl 0 rfl) ?_
    refine lv_iload_n hx hb dX7_bears_12 rfl (lv_at hl 1 rfl) ?_
    refine wc_i hC hml (kX7_rests l G Z B a1.toNatClampNeg (by first | assumption | omega)) (cwV 1 hts gX7_bears_X7_rests rfl rfl rfl (by decide +kernel) ⟨Nat.le_of_ble_eq_true rfl, Nat.le_of_ble_eq_true rfl⟩) hW hS (vM (by decide)) ce_m0 rfl rfl rfl rfl hl.1 (Nat.le_of_ble_eq_true rfl) dX7_bears_13 (fun H locs hW hS => ?_)
    refine lv_topi (fun x_3 ex_3 => ?_)
    try rw [← ex_3] at hR
    refine lv_if_eq (tgt := 23) hx hb dX7_bears_16 (by decide) (fun c_4 => ?_) (fun c_4 => ?_)
    · skip
      try rw [if_pos c_4] at hR
      refine lv_aload_n hx hb dX7_bears_23 rfl (lv_at hl 0 rfl) ?_
      refine wr_get hC hinRX7 hW (vM (by decide)) ce_m0 rfl 0 (by decide) hk0 rfl dX7_bears_24 ?_
      refine lv_iload_n hx hb dX7_bears_27 rfl (lv_at hl 1 rfl) ?_
      refine lv_bipush (v := 6) hx hb dX7_bears_28 (by decide) ?_
      refine wc_s hC hml (kX7_at l G (wset Z 12 B) a1.toNatClampNeg 6) (cwS 2 hts gX7_bears_X7_at rfl rfl rfl (by decide +kernel) ⟨Nat.le_of_ble_eq_true rfl, Nat.le_of_ble_eq_true rfl⟩) hW hS rfl rfl hl.1 (Nat.le_of_ble_eq_true rfl) dX7_bears_30 (fun H locs hW hS => ?_)
      refine lv_re (y := nI (7 + 14 * a1.toNatClampNeg + 6)) rfl ?_
      refine wr_ald (kA := 0) hC hW (vM (by decide)) ce_m1 rfl (vp_in_nI (show (7 + 14 * a1.toNatClampNeg + 6) < 100 by omega) (by decide)) dX7_bears_33 ?_
      refine lv_re (y := B 1 (7 + 14 * a1.toNatClampNeg + 6)) ((congrArg (B 1) (nI_clamp (by omega)))) ?_
      refine lv_aload_n hx hb dX7_bears_34 rfl (lv_at hl 0 rfl) ?_
      refine wr_get hC hinRX7 hW (vM (by decide)) ce_m0 rfl 0 (by decide) hk0 rfl dX7_bears_35 ?_
      refine lv_iconst (v := 2) hx hb dX7_bears_38 (by decide) ?_
      refine wr_ald (kA := 0) hC hW (vM (by decide)) ce_m1 rfl (vp_in_iff.mpr (by decide)) dX7_bears_39 ?_
      refine lv_re (y := B 1 2) ((congrArg (B 1) (show (2 : Int32).toNatClampNeg = 2 by decide))) ?_
      refine wc_i hC hml (kX7_intervalBy l G Z B (B 1 (7 + 14 * a1.toNatClampNeg + 6)) (B 1 2)) (cwV 2 hts gX7_bears_X7_intervalBy rfl rfl rfl (by decide +kernel) ⟨Nat.le_of_ble_eq_true rfl, Nat.le_of_ble_eq_true rfl⟩) hW hS (vM (by decide)) ce_m0 rfl rfl rfl rfl hl.1 (Nat.le_of_ble_eq_true rfl) dX7_bears_40 (fun H locs hW hS => ?_)
      refine lv_topi (fun x_5 ex_5 => ?_)
      try rw [← ex_5] at hR
      refine lv_istore_n (lv' := [(2, .int x_5), (0, .ref (G.2.2.1 12 0)), (1, .int (nI a1.toNatClampNeg))]) hx hb dX7_bears_43 rfl hl (by decide) rfl (fun ls hl => ?_)
      refine lv_bipush (v := (-6)) hx hb dX7_bears_44 (by decide) ?_
      refine lv_istore_n (lv' := [(3, .int (-6)), (2, .int x_5), (0, .ref (G.2.2.1 12 0)), (1, .int (nI a1.toNatClampNeg))]) hx hb dX7_bears_46 rfl hl (by decide) rfl (fun ls hl => ?_)
      refine lv_iconst (v := 0) hx hb dX7_bears_47 (by decide) ?_
      refine lv_istore (lv' := [(4, .int 0), (3, .int (-6)), (2, .int x_5), (0, .ref (G.2.2.1 12 0)), (1, .int (nI a1.toNatClampNeg))]) hx hb dX7_bears_48 hl (by decide) rfl (fun ls hl => ?_)
      have hlp_6 : ∀ (u : Nat) (k : Nat) (x : Int32), (hk : k + u = 10) → R = LX7_be B x_5 u k x → ∀ (H : Heap) (locs : List Loc) (ls : Array Slot), wW G (wset Z 12 B) H → va_S (wA G) s.heap H locs → lv_has ls 5 [(0, .ref (G.2.2.1 12 0)), (2, .int x_5), (3, .int x), (4, .int (nI k))] → W p l e (headSpec wsX7_bears rX7_bears).room s m ([.ref (G.2.2.1 12 0), .int a1] : List Value).toArray below meth c H locs 0 0 (qI below ([.ref (G.2.2.1 12 0), .int a1] : List Value).toArray s G R (wset Z 12 B)) (F0 m 50 ls []) := by
        intro u
        induction u with
        | zero =>
          intro k x hk hR H locs ls hW hS hl
          have hk4 : k = 10 := by omega
          simp only [LX7_be] at hR
          refine lv_iload hx hb dX7_bears_50 (lv_at hl 3 rfl) ?_
          refine lv_bipush (v := 10) hx hb dX7_bears_52 (by decide) ?_
          refine lv_icmp_ge (tgt := 80) hx hb dX7_bears_54 (by decide) (fun c_7 => ?_) (fun c_7 => ?_)
          · skip
            refine lv_iload_n hx hb dX7_bears_80 rfl (lv_at hl 2 rfl) ?_
            exact we_i hC hr hlocks (v := x) (hR.symm) rfl hW hS dX7_bears_81
          · exact absurd ((nI_leI (a := 10) (by decide) (by omega)).mpr (by omega)) c_7
        | succ u ih =>
          intro k x hk hR H locs ls hW hS hl
          simp only [LX7_be] at hR
          refine lv_iload hx hb dX7_bears_50 (lv_at hl 3 rfl) ?_
          refine lv_bipush (v := 10) hx hb dX7_bears_52 (by decide) ?_
          refine lv_icmp_ge (tgt := 80) hx hb dX7_bears_54 (by decide) (fun c_8 => ?_) (fun c_8 => ?_)
          · exact absurd ((nI_leI (a := 10) (by decide) (by omega)).mp c_8) (by omega)
          · skip
            refine lv_iload_n hx hb dX7_bears_57 rfl (lv_at hl 1 rfl) ?_
            refine lv_aload_n hx hb dX7_bears_58 rfl (lv_at hl 0 rfl) ?_
            refine lv_iload hx hb dX7_bears_59 (lv_at hl 3 rfl) ?_
            refine wc_i hC hml (kX7_needs l G Z B (nI k)) (cwV 1 hts gX7_bears_X7_needs rfl rfl rfl (by decide +kernel) ⟨Nat.le_of_ble_eq_true rfl, Nat.le_of_ble_eq_true rfl⟩) hW hS (vM (by decide)) ce_m0 rfl rfl rfl rfl hl.1 (Nat.le_of_ble_eq_true rfl) dX7_bears_61 (fun H locs hW hS => ?_)
            refine lv_topi (fun x_9 ex_9 => ?_)
            try rw [← ex_9] at hR
            refine lv_icmp_lt (tgt := 72) hx hb dX7_bears_64 (by decide) (fun c_10 => ?_) (fun c_10 => ?_)
            · skip
              try rw [if_pos c_10] at hR
              refine lv_iload_n hx hb dX7_bears_72 rfl (lv_at hl 2 rfl) ?_
              refine lv_istore_n (lv' := [(3, .int x), (0, .ref (G.2.2.1 12 0)), (2, .int x_5), (4, .int (nI k))]) hx hb dX7_bears_73 rfl hl (by decide) rfl (fun ls hl => ?_)
              refine lv_iinc (v := nI (k + 1)) (lv' := [(4, .int (nI (k + 1))), (3, .int x), (0, .ref (G.2.2.1 12 0)), (2, .int x_5)]) hx hb dX7_bears_74 hl (k := 3) rfl (nI_1 _) (by decide) rfl (fun ls hl => ?_)
              refine lv_goto (tgt := 50) hx hb dX7_bears_77 (by decide) ?_
              exact ih (k + 1) x (by omega) hR _ _ _ hW hS (lv_sub hl [2, 3, 1, 0] rfl)
            · skip
              try rw [if_neg c_10] at hR
              refine lv_iload hx hb dX7_bears_67 (lv_at hl 3 rfl) ?_
              refine lv_goto (tgt := 73) hx hb dX7_bears_69 (by decide) ?_
              refine lv_istore_n (lv' := [(3, .int (nI k)), (0, .ref (G.2.2.1 12 0)), (2, .int x_5), (4, .int (nI k))]) hx hb dX7_bears_73 rfl hl (by decide) rfl (fun ls hl => ?_)
              refine lv_iinc (v := nI (k + 1)) (lv' := [(4, .int (nI (k + 1))), (3, .int (nI k)), (0, .ref (G.2.2.1 12 0)), (2, .int x_5)]) hx hb dX7_bears_74 hl (k := 3) rfl (nI_1 _) (by decide) rfl (fun ls hl => ?_)
              refine lv_goto (tgt := 50) hx hb dX7_bears_77 (by decide) ?_
              exact ih (k + 1) (nI k) (by omega) hR _ _ _ hW hS (lv_sub hl [2, 3, 1, 0] rfl)
      exact hlp_6 10 0 (-6) rfl hR _ _ _ hW hS (lv_sub hl [3, 2, 1, 0] rfl)
    · skip
      try rw [if_neg c_4] at hR
      refine lv_iconst (v := 0) hx hb dX7_bears_19 (by decide) ?_
      refine lv_goto (tgt := 34) hx hb dX7_bears_20 (by decide) ?_
      refine lv_aload_n hx hb dX7_bears_34 rfl (lv_at hl 0 rfl) ?_
      refine wr_get hC hinRX7 hW (vM (by decide)) ce_m0 rfl 0 (by decide) hk0 rfl dX7_bears_35 ?_
      refine lv_iconst (v := 2) hx hb dX7_bears_38 (by decide) ?_
      refine wr_ald (kA := 0) hC hW (vM (by decide)) ce_m1 rfl (vp_in_iff.mpr (by decide)) dX7_bears_39 ?_
      refine lv_re (y := B 1 2) ((congrArg (B 1) (show (2 : Int32).toNatClampNeg = 2 by decide))) ?_
      refine wc_i hC hml (kX7_intervalBy l G Z B 0 (B 1 2)) (cwV 2 hts gX7_bears_X7_intervalBy rfl rfl rfl (by decide +kernel) ⟨Nat.le_of_ble_eq_true rfl, Nat.le_of_ble_eq_true rfl⟩) hW hS (vM (by decide)) ce_m0 rfl rfl rfl rfl hl.1 (Nat.le_of_ble_eq_true rfl) dX7_bears_40 (fun H locs hW hS => ?_)
      refine lv_topi (fun x_11 ex_11 => ?_)
      try rw [← ex_11] at hR
      refine lv_istore_n (lv' := [(2, .int x_11), (0, .ref (G.2.2.1 12 0)), (1, .int (nI a1.toNatClampNeg))]) hx hb dX7_bears_43 rfl hl (by decide) rfl (fun ls hl => ?_)
      refine lv_bipush (v := (-6)) hx hb dX7_bears_44 (by decide) ?_
      refine lv_istore_n (lv' := [(3, .int (-6)), (2, .int x_11), (0, .ref (G.2.2.1 12 0)), (1, .int (nI a1.toNatClampNeg))]) hx hb dX7_bears_46 rfl hl (by decide) rfl (fun ls hl => ?_)
      refine lv_iconst (v := 0) hx hb dX7_bears_47 (by decide) ?_
      refine lv_istore (lv' := [(4, .int 0), (3, .int (-6)), (2, .int x_11), (0, .ref (G.2.2.1 12 0)), (1, .int (nI a1.toNatClampNeg))]) hx hb dX7_bears_48 hl (by decide) rfl (fun ls hl => ?_)
      have hlp_12 : ∀ (u : Nat) (k : Nat) (x : Int32), (hk : k + u = 10) → R = LX7_be B x_11 u k x → ∀ (H : Heap) (locs : List Loc) (ls : Array Slot), wW G (wset Z 12 B) H → va_S (wA G) s.heap H locs → lv_has ls 5 [(0, .ref (G.2.2.1 12 0)), (2, .int x_11), (3, .int x), (4, .int (nI k))] → W p l e (headSpec wsX7_bears rX7_bears).room s m ([.ref (G.2.2.1 12 0), .int a1] : List Value).toArray below meth c H locs 0 0 (qI below ([.ref (G.2.2.1 12 0), .int a1] : List Value).toArray s G R (wset Z 12 B)) (F0 m 50 ls []) := by
        intro u
        induction u with
        | zero =>
          intro k x hk hR H locs ls hW hS hl
          have hk4 : k = 10 := by omega
          simp only [LX7_be] at hR
          refine lv_iload hx hb dX7_bears_50 (lv_at hl 3 rfl) ?_
          refine lv_bipush (v := 10) hx hb dX7_bears_52 (by decide) ?_
          refine lv_icmp_ge (tgt := 80) hx hb dX7_bears_54 (by decide) (fun c_13 => ?_) (fun c_13 => ?_)
          · skip
            refine lv_iload_n hx hb dX7_bears_80 rfl (lv_at hl 2 rfl) ?_
            exact we_i hC hr hlocks (v := x) (hR.symm) rfl hW hS dX7_bears_81
          · exact absurd ((nI_leI (a := 10) (by decide) (by omega)).mpr (by omega)) c_13
        | succ u ih =>
          intro k x hk hR H locs ls hW hS hl
          simp only [LX7_be] at hR
          refine lv_iload hx hb dX7_bears_50 (lv_at hl 3 rfl) ?_
          refine lv_bipush (v := 10) hx hb dX7_bears_52 (by decide) ?_
          refine lv_icmp_ge (tgt := 80) hx hb dX7_bears_54 (by decide) (fun c_14 => ?_) (fun c_14 => ?_)
          · exact absurd ((nI_leI (a := 10) (by decide) (by omega)).mp c_14) (by omega)
          · skip
            refine lv_iload_n hx hb dX7_bears_57 rfl (lv_at hl 1 rfl) ?_
            refine lv_aload_n hx hb dX7_bears_58 rfl (lv_at hl 0 rfl) ?_
            refine lv_iload hx hb dX7_bears_59 (lv_at hl 3 rfl) ?_
            refine wc_i hC hml (kX7_needs l G Z B (nI k)) (cwV 1 hts gX7_bears_X7_needs rfl rfl rfl (by decide +kernel) ⟨Nat.le_of_ble_eq_true rfl, Nat.le_of_ble_eq_true rfl⟩) hW hS (vM (by decide)) ce_m0 rfl rfl rfl rfl hl.1 (Nat.le_of_ble_eq_true rfl) dX7_bears_61 (fun H locs hW hS => ?_)
            refine lv_topi (fun x_15 ex_15 => ?_)
            try rw [← ex_15] at hR
            refine lv_icmp_lt (tgt := 72) hx hb dX7_bears_64 (by decide) (fun c_16 => ?_) (fun c_16 => ?_)
            · skip
              try rw [if_pos c_16] at hR
              refine lv_iload_n hx hb dX7_bears_72 rfl (lv_at hl 2 rfl) ?_
              refine lv_istore_n (lv' := [(3, .int x), (0, .ref (G.2.2.1 12 0)), (2, .int x_11), (4, .int (nI k))]) hx hb dX7_bears_73 rfl hl (by decide) rfl (fun ls hl => ?_)
              refine lv_iinc (v := nI (k + 1)) (lv' := [(4, .int (nI (k + 1))), (3, .int x), (0, .ref (G.2.2.1 12 0)), (2, .int x_11)]) hx hb dX7_bears_74 hl (k := 3) rfl (nI_1 _) (by decide) rfl (fun ls hl => ?_)
              refine lv_goto (tgt := 50) hx hb dX7_bears_77 (by decide) ?_
              exact ih (k + 1) x (by omega) hR _ _ _ hW hS (lv_sub hl [2, 3, 1, 0] rfl)
            · skip
              try rw [if_neg c_16] at hR
              refine lv_iload hx hb dX7_bears_67 (lv_at hl 3 rfl) ?_
              refine lv_goto (tgt := 73) hx hb dX7_bears_69 (by decide) ?_
              refine lv_istore_n (lv' := [(3, .int (nI k)), (0, .ref (G.2.2.1 12 0)), (2, .int x_11), (4, .int (nI k))]) hx hb dX7_bears_73 rfl hl (by decide) rfl (fun ls hl => ?_)
              refine lv_iinc (v := nI (k + 1)) (lv' := [(4, .int (nI (k + 1))), (3, .int (nI k)), (0, .ref (G.2.2.1 12 0)), (2, .int x_11)]) hx hb dX7_bears_74 hl (k := 3) rfl (nI_1 _) (by decide) rfl (fun ls hl => ?_)
              refine lv_goto (tgt := 50) hx hb dX7_bears_77 (by decide) ?_
              exact ih (k + 1) (nI k) (by omega) hR _ _ _ hW hS (lv_sub hl [2, 3, 1, 0] rfl)
      exact hlp_12 10 0 (-6) rfl hR _ _ _ hW hS (lv_sub hl [3, 2, 1, 0] rfl)
  · skip
    try rw [if_pos c_2] at hR
    refine lv_iconst (v := (-1)) hx hb dX7_bears_8 (by decide) ?_
    exact we_i hC hr hlocks (v := (-1)) (hR.symm) rfl hW hS dX7_bears_9
def LX7_ah (B : wB) (p : Nat) : Nat → Nat → Int32 → Int32
  | 0, _, x => x
  | u + 1, k, x => if B 1 (64 + (3 * k)) - B 1 (64 + (3 * p)) < 0 then LX7_ah B p u (k + 1) (x + 1) else if B 1 (64 + (3 * k)) - B 1 (64 + (3 * p)) = 0 then (if nI p ≤ nI k then LX7_ah B p u (k + 1) (x + 0) else LX7_ah B p u (k + 1) (x + 1)) else LX7_ah B p u (k + 1) (x + 0)
def fX7_ahead (B : wB) (p : Nat) : Int32 := LX7_ah B p (B 1 63).toNatClampNeg 0 0
abbrev rX7_ahead : Room := { frames := 0, cells := 0, slots := 0, locals := 0 }
set_option maxHeartbeats 4000000 in
set_option maxRecDepth 100000 in
theorem kX7_ahead (l : Launch) (G : wG) (Z : wZ) (B : wB) (p9 : Nat) (M : Nat) (hM : B 1 63 = nI M) (hM12 : M ≤ 12) (hp9 : p9 < 12) : mI l yX7_ahead wsX7_ahead rX7_ahead G [.ref (G.2.2.1 12 0), .int (nI p9)] (wset Z 12 B) (fX7_ahead B p9) (wset Z 12 B) := by
  refine Met.ofW (cc := cX7_ahead) (maxL := 5) (ret := (some .int)) (by decide) rfl ?_
  intro p e s m args below meth c s₁ B0 hml hv
  obtain ⟨rfl, hW, hK, hL⟩ := hv
  have hlocks := B0.notSynchronized
  have hr := B0.returns
  have hC : wX p s m c cX7_ahead _ wsX7_ahead RX7 G := ⟨B0.exec, B0.bytes, findClass_of_methodNamed B0.named, atoms_spec (ws := wsX7_ahead) B0.pre, hK, hL⟩
  have hx := hC.1
  have hb := hC.2.1
  have hts := hC.2.2.2.1
  have hinRX7 : ∀ w ∈ wsX70, w ∈ wsX7_ahead := by decide +kernel
  have hk0 := hts (.fieldLink RX7 7 "RampShaftsModel" "s" "[I") (by decide +kernel)
  have hS : va_S (wA G) s.heap s.heap [] := va_S.rf
  have hl := lv_entry ([.ref (G.2.2.1 12 0), .int (nI p9)]) (n := 5) (Nat.le_of_ble_eq_true rfl)
  rw [lg_entry_eq]
  generalize (lg_sl ([.ref (G.2.2.1 12 0), .int (nI p9)]) ++ List.replicate (5 - (lg_sl ([.ref (G.2.2.1 12 0), .int (nI p9)])).length) Slot.unset).toArray = ls at hl ⊢
  have hl : lv_has ls 5 [(0, .ref (G.2.2.1 12 0)), (1, .int (nI p9))] := hl
  obtain ⟨R, hR⟩ : ∃ R, R = fX7_ahead B p9 := ⟨_, rfl⟩
  rw [← hR]
  unfold fX7_ahead at hR
  have hq9 : (B 1 63).toNatClampNeg = M := by rw [hM, nI_clamp (by omega)]
  rw [hq9] at hR
  refine lv_iconst (v := 0) hx hb dX7_ahead_0 (by decide) ?_
  refine lv_istore_n (lv' := [(2, .int 0), (0, .ref (G.2.2.1 12 0)), (1, .int (nI p9))]) hx hb dX7_ahead_1 rfl hl (by decide) rfl (fun ls hl => ?_)
  refine lv_iconst (v := 0) hx hb dX7_ahead_2 (by decide) ?_
  refine lv_istore_n (lv' := [(3, .int 0), (2, .int 0), (0, .ref (G.2.2.1 12 0)), (1, .int (nI p9))]) hx hb dX7_ahead_3 rfl hl (by decide) rfl (fun ls hl => ?_)
  have hlp_1 : ∀ (u : Nat) (k : Nat) (x : Int32), (hk : k + u = M) → R = LX7_ah B p9 u k x → ∀ (H : Heap) (locs : List Loc) (ls : Array Slot), wW G (wset Z 12 B) H → va_S (wA G) s.heap H locs → lv_has ls 5 [(0, .ref (G.2.2.1 12 0)), (1, .int (nI p9)), (2, .int x), (3, .int (nI k))] → W p l e (headSpec wsX7_ahead rX7_ahead).room s m ([.ref (G.2.2.1 12 0), .int (nI p9)] : List Value).toArray below meth c H locs 0 0 (qI below ([.ref (G.2.2.1 12 0), .int (nI p9)] : List Value).toArray s G R (wset Z 12 B)) (F0 m 4 ls []) := by
    intro u
    induction u with
    | zero =>
      intro k x hk hR H locs ls hW hS hl
      have hk4 : k = M := by omega
      simp only [LX7_ah] at hR
      refine lv_iload_n hx hb dX7_ahead_4 rfl (lv_at hl 3 rfl) ?_
      refine lv_aload_n hx hb dX7_ahead_5 rfl (lv_at hl 0 rfl) ?_
      refine wr_get hC hinRX7 hW (vM (by decide)) ce_m0 rfl 0 (by decide) hk0 rfl dX7_ahead_6 ?_
      refine lv_bipush (v := 63) hx hb dX7_ahead_9 (by decide) ?_
      refine wr_ald (kA := 0) hC hW (vM (by decide)) ce_m1 rfl (vp_in_iff.mpr (by decide)) dX7_ahead_11 ?_
      refine lv_re (y := B 1 63) ((congrArg (B 1) (show (63 : Int32).toNatClampNeg = 63 by decide))) ?_
      refine lv_icmp_ge (tgt := 69) hx hb dX7_ahead_12 (by decide) (fun c_2 => ?_) (fun c_2 => ?_)
      · skip
        refine lv_iload_n hx hb dX7_ahead_69 rfl (lv_at hl 2 rfl) ?_
        exact we_i hC hr hlocks (v := x) (hR.symm) rfl hW hS dX7_ahead_70
      · exact absurd (by rw [hM, nI_leI (by omega) (by omega)]; omega) c_2
    | succ u ih =>
      intro k x hk hR H locs ls hW hS hl
      simp only [LX7_ah] at hR
      refine lv_iload_n hx hb dX7_ahead_4 rfl (lv_at hl 3 rfl) ?_
      refine lv_aload_n hx hb dX7_ahead_5 rfl (lv_at hl 0 rfl) ?_
      refine wr_get hC hinRX7 hW (vM (by decide)) ce_m0 rfl 0 (by decide) hk0 rfl dX7_ahead_6 ?_
      refine lv_bipush (v := 63) hx hb dX7_ahead_9 (by decide) ?_
      refine wr_ald (kA := 0) hC hW (vM (by decide)) ce_m1 rfl (vp_in_iff.mpr (by decide)) dX7_ahead_11 ?_
      refine lv_re (y := B 1 63) ((congrArg (B 1) (show (63 : Int32).toNatClampNeg = 63 by decide))) ?_
      refine lv_icmp_ge (tgt := 69) hx hb dX7_ahead_12 (by decide) (fun c_3 => ?_) (fun c_3 => ?_)
      · exact absurd c_3 (by rw [hM, nI_leI (by omega) (by omega)]; omega)
      · skip
        refine lv_aload_n hx hb dX7_ahead_15 rfl (lv_at hl 0 rfl) ?_
        refine wr_get hC hinRX7 hW (vM (by decide)) ce_m0 rfl 0 (by decide) hk0 rfl dX7_ahead_16 ?_
        refine lv_bipush (v := 64) hx hb dX7_ahead_19 (by decide) ?_
        refine lv_iconst (v := 3) hx hb dX7_ahead_21 (by decide) ?_
        refine lv_iload_n hx hb dX7_ahead_22 rfl (lv_at hl 3 rfl) ?_
        refine lv_imul hx hb dX7_ahead_23 ?_
        refine lv_re (y := nI (3 * k)) (pk_mul 3 k) ?_
        refine lv_iadd hx hb dX7_ahead_24 ?_
        refine lv_re (y := nI (64 + (3 * k))) (nI_add 64 (3 * k)) ?_
        refine wr_ald (kA := 0) hC hW (vM (by decide)) ce_m1 rfl (vp_in_nI (show (64 + (3 * k)) < 100 by omega) (by decide)) dX7_ahead_25 ?_
        refine lv_re (y := B 1 (64 + (3 * k))) ((congrArg (B 1) (nI_clamp (by omega)))) ?_
        refine lv_aload_n hx hb dX7_ahead_26 rfl (lv_at hl 0 rfl) ?_
        refine wr_get hC hinRX7 hW (vM (by decide)) ce_m0 rfl 0 (by decide) hk0 rfl dX7_ahead_27 ?_
        refine lv_bipush (v := 64) hx hb dX7_ahead_30 (by decide) ?_
        refine lv_iconst (v := 3) hx hb dX7_ahead_32 (by decide) ?_
        refine lv_iload_n hx hb dX7_ahead_33 rfl (lv_at hl 1 rfl) ?_
        refine lv_imul hx hb dX7_ahead_34 ?_
        refine lv_re (y := nI (3 * p9)) (pk_mul 3 p9) ?_
        refine lv_iadd hx hb dX7_ahead_35 ?_
        refine lv_re (y := nI (64 + (3 * p9))) (nI_add 64 (3 * p9)) ?_
        refine wr_ald (kA := 0) hC hW (vM (by decide)) ce_m1 rfl (vp_in_nI (show (64 + (3 * p9)) < 100 by omega) (by decide)) dX7_ahead_36 ?_
        refine lv_re (y := B 1 (64 + (3 * p9))) ((congrArg (B 1) (nI_clamp (by omega)))) ?_
        refine lv_isub hx hb dX7_ahead_37 ?_
        refine lv_topi (fun x_4 ex_4 => ?_)
        try rw [← ex_4] at hR
        refine lv_istore (lv' := [(4, .int x_4), (0, .ref (G.2.2.1 12 0)), (1, .int (nI p9)), (2, .int x), (3, .int (nI k))]) hx hb dX7_ahead_38 hl (by decide) rfl (fun ls hl => ?_)
        refine lv_iload_n hx hb dX7_ahead_40 rfl (lv_at hl 3 rfl) ?_
        refine lv_iload hx hb dX7_ahead_41 (lv_at hl 0 rfl) ?_
        refine lv_if_lt (tgt := 56) hx hb dX7_ahead_43 (by decide) (fun c_5 => ?_) (fun c_5 => ?_)
        · skip
          try rw [if_pos c_5] at hR
          refine lv_iconst (v := 1) hx hb dX7_ahead_56 (by decide) ?_
          refine lv_goto (tgt := 61) hx hb dX7_ahead_57 (by decide) ?_
          refine lv_iadd hx hb dX7_ahead_61 ?_
          refine lv_topi (fun x_6 ex_6 => ?_)
          try rw [← ex_6] at hR
          refine lv_istore_n (lv' := [(2, .int x_6), (4, .int x_4), (0, .ref (G.2.2.1 12 0)), (1, .int (nI p9)), (3, .int (nI k))]) hx hb dX7_ahead_62 rfl hl (by decide) rfl (fun ls hl => ?_)
          refine lv_iinc (v := nI (k + 1)) (lv' := [(3, .int (nI (k + 1))), (2, .int x_6), (4, .int x_4), (0, .ref (G.2.2.1 12 0)), (1, .int (nI p9))]) hx hb dX7_ahead_63 hl (k := 4) rfl (nI_1 _) (by decide) rfl (fun ls hl => ?_)
          refine lv_goto (tgt := 4) hx hb dX7_ahead_66 (by decide) ?_
          exact ih (k + 1) x_6 (by omega) hR _ _ _ hW hS (lv_sub hl [3, 4, 1, 0] rfl)
        · skip
          try rw [if_neg c_5] at hR
          refine lv_iload hx hb dX7_ahead_46 (lv_at hl 0 rfl) ?_
          refine lv_if_ne (tgt := 60) hx hb dX7_ahead_48 (by decide) (fun c_7 => ?_) (fun c_7 => ?_)
          · skip
            try rw [if_neg c_7] at hR
            refine lv_iconst (v := 0) hx hb dX7_ahead_60 (by decide) ?_
            refine lv_iadd hx hb dX7_ahead_61 ?_
            refine lv_topi (fun x_8 ex_8 => ?_)
            try rw [← ex_8] at hR
            refine lv_istore_n (lv' := [(2, .int x_8), (4, .int x_4), (0, .ref (G.2.2.1 12 0)), (1, .int (nI p9)), (3, .int (nI k))]) hx hb dX7_ahead_62 rfl hl (by decide) rfl (fun ls hl => ?_)
            refine lv_iinc (v := nI (k + 1)) (lv' := [(3, .int (nI (k + 1))), (2, .int x_8), (4, .int x_4), (0, .ref (G.2.2.1 12 0)), (1, .int (nI p9))]) hx hb dX7_ahead_63 hl (k := 4) rfl (nI_1 _) (by decide) rfl (fun ls hl => ?_)
            refine lv_goto (tgt := 4) hx hb dX7_ahead_66 (by decide) ?_
            exact ih (k + 1) x_8 (by omega) hR _ _ _ hW hS (lv_sub hl [3, 4, 1, 0] rfl)
          · skip
            try rw [if_pos c_7] at hR
            refine lv_iload_n hx hb dX7_ahead_51 rfl (lv_at hl 4 rfl) ?_
            refine lv_iload_n hx hb dX7_ahead_52 rfl (lv_at hl 2 rfl) ?_
            refine lv_icmp_ge (tgt := 60) hx hb dX7_ahead_53 (by decide) (fun c_9 => ?_) (fun c_9 => ?_)
            · skip
              try rw [if_pos c_9] at hR
              refine lv_iconst (v := 0) hx hb dX7_ahead_60 (by decide) ?_
              refine lv_iadd hx hb dX7_ahead_61 ?_
              refine lv_topi (fun x_10 ex_10 => ?_)
              try rw [← ex_10] at hR
              refine lv_istore_n (lv' := [(2, .int x_10), (4, .int x_4), (0, .ref (G.2.2.1 12 0)), (1, .int (nI p9)), (3, .int (nI k))]) hx hb dX7_ahead_62 rfl hl (by decide) rfl (fun ls hl => ?_)
              refine lv_iinc (v := nI (k + 1)) (lv' := [(3, .int (nI (k + 1))), (2, .int x_10), (4, .int x_4), (0, .ref (G.2.2.1 12 0)), (1, .int (nI p9))]) hx hb dX7_ahead_63 hl (k := 4) rfl (nI_1 _) (by decide) rfl (fun ls hl => ?_)
              refine lv_goto (tgt := 4) hx hb dX7_ahead_66 (by decide) ?_
              exact ih (k + 1) x_10 (by omega) hR _ _ _ hW hS (lv_sub hl [3, 4, 1, 0] rfl)
            · skip
              try rw [if_neg c_9] at hR
              refine lv_iconst (v := 1) hx hb dX7_ahead_56 (by decide) ?_
              refine lv_goto (tgt := 61) hx hb dX7_ahead_57 (by decide) ?_
              refine lv_iadd hx hb dX7_ahead_61 ?_
              refine lv_topi (fun x_11 ex_11 => ?_)
              try rw [← ex_11] at hR
              refine lv_istore_n (lv' := [(2, .int x_11), (4, .int x_4), (0, .ref (G.2.2.1 12 0)), (1, .int (nI p9)), (3, .int (nI k))]) hx hb dX7_ahead_62 rfl hl (by decide) rfl (fun ls hl => ?_)
              refine lv_iinc (v := nI (k + 1)) (lv' := [(3, .int (nI (k + 1))), (2, .int x_11), (4, .int x_4), (0, .ref (G.2.2.1 12 0)), (1, .int (nI p9))]) hx hb dX7_ahead_63 hl (k := 4) rfl (nI_1 _) (by decide) rfl (fun ls hl => ?_)
              refine lv_goto (tgt := 4) hx hb dX7_ahead_66 (by decide) ?_
              exact ih (k + 1) x_11 (by omega) hR _ _ _ hW hS (lv_sub hl [3, 4, 1, 0] rfl)
  exact hlp_1 M 0 0 (Nat.zero_add _) hR _ _ _ hW hS (lv_sub hl [2, 3, 1, 0] rfl)
def LX7_pl (B : wB) (a : Int32) : Nat → Nat → Nat → Nat
  | 0, _, f => f
  | u + 1, k, f => if fX7_ahead B k = a then LX7_pl B a u (k + 1) k else LX7_pl B a u (k + 1) f
def gX7_pl (B : wB) (a : Int32) (f : Nat) : Int32 := if a = 2 then B 1 (64 + (3 * f) + a.toNatClampNeg) + 1000000 else B 1 (64 + (3 * f) + a.toNatClampNeg) + 0
def fX7_planned (B : wB) (a1 a2 : Int32) : Int32 := if fX7_in a1 0 (B 1 63 - 1) = 0 then -1 else if fX7_in a2 0 2 = 0 then -2 else gX7_pl B a2 (LX7_pl B a1 (B 1 63).toNatClampNeg 0 0)
abbrev rX7_planned : Room := { frames := 1, cells := 0, slots := 0, locals := 24 }
set_option maxHeartbeats 4000000 in
set_option maxRecDepth 100000 in
theorem kX7_planned (l : Launch) (G : wG) (Z : wZ) (B : wB) (a1 : Int32) (a2 : Int32) (M : Nat) (hM : B 1 63 = nI M) (hM12 : M ≤ 12) : mI l yX7_planned wsX7_planned rX7_planned G [.ref (G.2.2.1 12 0), .int a1, .int a2] (wset Z 12 B) (fX7_planned B a1 a2) (wset Z 12 B) := by
  refine Met.ofW (cc := cX7_planned) (maxL := 5) (ret := (some .int)) (by decide) rfl ?_
  intro p e s m args below meth c s₁ B0 hml hv
  obtain ⟨rfl, hW, hK, hL⟩ := hv
  have hlocks := B0.notSynchronized
  have hr := B0.returns
  have hC : wX p s m c cX7_planned _ wsX7_planned RX7 G := ⟨B0.exec, B0.bytes, findClass_of_methodNamed B0.named, atoms_spec (ws := wsX7_planned) B0.pre, hK, hL⟩
  have hx := hC.1
  have hb := hC.2.1
  have hts := hC.2.2.2.1
  have hinRX7 : ∀ w ∈ wsX70, w ∈ wsX7_planned := by decide +kernel
  have hk0 := hts (.fieldLink RX7 7 "RampShaftsModel" "s" "[I") (by decide +kernel)
  have hk1 := hts (.constant RX7 95 (1000000)) (by decide +kernel)
  have hS : va_S (wA G) s.heap s.heap [] := va_S.rf
  have hl := lv_entry ([.ref (G.2.2.1 12 0), .int a1, .int a2]) (n := 5) (Nat.le_of_ble_eq_true rfl)
  rw [lg_entry_eq]
  generalize (lg_sl ([.ref (G.2.2.1 12 0), .int a1, .int a2]) ++ List.replicate (5 - (lg_sl ([.ref (G.2.2.1 12 0), .int a1, .int a2])).length) Slot.unset).toArray = ls at hl ⊢
  have hl : lv_has ls 5 [(0, .ref (G.2.2.1 12 0)), (1, .int a1), (2, .int a2)] := hl
  obtain ⟨R, hR⟩ : ∃ R, R = fX7_planned B a1 a2 := ⟨_, rfl⟩
  rw [← hR]
  unfold fX7_planned at hR
  refine lv_iload_n hx hb dX7_planned_0 rfl (lv_at hl 1 rfl) ?_
  refine lv_iconst (v := 0) hx hb dX7_planned_1 (by decide) ?_
  refine lv_aload_n hx hb dX7_planned_2 rfl (lv_at hl 0 rfl) ?_
  refine wr_get hC hinRX7 hW (vM (by decide)) ce_m0 rfl 0 (by decide) hk0 rfl dX7_planned_3 ?_
  refine lv_bipush (v := 63) hx hb dX7_planned_6 (by decide) ?_
  refine wr_ald (kA := 0) hC hW (vM (by decide)) ce_m1 rfl (vp_in_iff.mpr (by decide)) dX7_planned_8 ?_
  refine lv_re (y := B 1 63) ((congrArg (B 1) (show (63 : Int32).toNatClampNeg = 63 by decide))) ?_
  refine lv_iconst (v := 1) hx hb dX7_planned_9 (by decide) ?_
  refine lv_isub hx hb dX7_planned_10 ?_
  refine wc_s hC hml (kX7_in l G (wset Z 12 B) a1 0 ((B 1 63) - 1)) (cwS 3 hts gX7_planned_X7_in rfl rfl rfl (by decide +kernel) ⟨Nat.le_of_ble_eq_true rfl, Nat.le_of_ble_eq_true rfl⟩) hW hS rfl rfl hl.1 (Nat.le_of_ble_eq_true rfl) dX7_planned_11 (fun H locs hW hS => ?_)
  refine lv_topi (fun x_1 ex_1 => ?_)
  try rw [← ex_1] at hR
  refine lv_if_ne (tgt := 19) hx hb dX7_planned_14 (by decide) (fun c_2 => ?_) (fun c_2 => ?_)
  · skip
    try rw [if_neg c_2] at hR
    refine lv_iload_n hx hb dX7_planned_19 rfl (lv_at hl 2 rfl) ?_
    refine lv_iconst (v := 0) hx hb dX7_planned_20 (by decide) ?_
    refine lv_iconst (v := 2) hx hb dX7_planned_21 (by decide) ?_
    refine wc_s hC hml (kX7_in l G (wset Z 12 B) a2 0 2) (cwS 3 hts gX7_planned_X7_in rfl rfl rfl (by decide +kernel) ⟨Nat.le_of_ble_eq_true rfl, Nat.le_of_ble_eq_true rfl⟩) hW hS rfl rfl hl.1 (Nat.le_of_ble_eq_true rfl) dX7_planned_22 (fun H locs hW hS => ?_)
    refine lv_topi (fun x_3 ex_3 => ?_)
    try rw [← ex_3] at hR
    refine lv_if_ne (tgt := 31) hx hb dX7_planned_25 (by decide) (fun c_4 => ?_) (fun c_4 => ?_)
    · skip
      try rw [if_neg c_4] at hR
      have hi9 := in_ok (by rw [← ex_3]; exact c_4)
      have hi8 := in_ok (by rw [← ex_1]; exact c_2)
      have hM1 : 1 ≤ M := by
        have hz : (B 1 63).toInt = M := by rw [hM, nI_toInt (by omega)]
        rw [ti_sub (by rw [t1]; omega) (by rw [t1]; omega), t1, t0] at hi8
        omega
      have h2 : (2 : Int32).toInt = 2 := by decide
      have hj9 := tn_of (t0 ▸ hi9.1)
      have hl9 : a2.toNatClampNeg < 3 := by omega
      have hq9 : (B 1 63).toNatClampNeg = M := by rw [hM, nI_clamp (by omega)]
      rw [hq9] at hR
      refine lv_iconst (v := 0) hx hb dX7_planned_31 (by decide) ?_
      refine lv_istore_n (lv' := [(3, .int 0), (0, .ref (G.2.2.1 12 0)), (1, .int a1), (2, .int a2)]) hx hb dX7_planned_32 rfl hl (by decide) rfl (fun ls hl => ?_)
      refine lv_iconst (v := 0) hx hb dX7_planned_33 (by decide) ?_
      refine lv_istore (lv' := [(4, .int 0), (3, .int 0), (0, .ref (G.2.2.1 12 0)), (1, .int a1), (2, .int a2)]) hx hb dX7_planned_34 hl (by decide) rfl (fun ls hl => ?_)
      have hlp_5 : ∀ (u : Nat) (k : Nat) (f : Nat), (hk : k + u = M) → (hf : f < M) → R = gX7_pl B a2 (LX7_pl B a1 u k f) → ∀ (H : Heap) (locs : List Loc) (ls : Array Slot), wW G (wset Z 12 B) H → va_S (wA G) s.heap H locs → lv_has ls 5 [(0, .ref (G.2.2.1 12 0)), (1, .int a1), (2, .int a2), (3, .int (nI f)), (4, .int (nI k))] → W p l e (headSpec wsX7_planned rX7_planned).room s m ([.ref (G.2.2.1 12 0), .int a1, .int a2] : List Value).toArray below meth c H locs 0 0 (qI below ([.ref (G.2.2.1 12 0), .int a1, .int a2] : List Value).toArray s G R (wset Z 12 B)) (F0 m 36 ls []) := by
        intro u
        induction u with
        | zero =>
          intro k f hk hf hR H locs ls hW hS hl
          have hk4 : k = M := by omega
          simp only [LX7_pl] at hR
          refine lv_iload hx hb dX7_planned_36 (lv_at hl 4 rfl) ?_
          refine lv_aload_n hx hb dX7_planned_38 rfl (lv_at hl 0 rfl) ?_
          refine wr_get hC hinRX7 hW (vM (by decide)) ce_m0 rfl 0 (by decide) hk0 rfl dX7_planned_39 ?_
          refine lv_bipush (v := 63) hx hb dX7_planned_42 (by decide) ?_
          refine wr_ald (kA := 0) hC hW (vM (by decide)) ce_m1 rfl (vp_in_iff.mpr (by decide)) dX7_planned_44 ?_
          refine lv_re (y := B 1 63) ((congrArg (B 1) (show (63 : Int32).toNatClampNeg = 63 by decide))) ?_
          refine lv_icmp_ge (tgt := 71) hx hb dX7_planned_45 (by decide) (fun c_6 => ?_) (fun c_6 => ?_)
          · skip
            refine lv_aload_n hx hb dX7_planned_71 rfl (lv_at hl 0 rfl) ?_
            refine wr_get hC hinRX7 hW (vM (by decide)) ce_m0 rfl 0 (by decide) hk0 rfl dX7_planned_72 ?_
            refine lv_bipush (v := 64) hx hb dX7_planned_75 (by decide) ?_
            refine lv_iconst (v := 3) hx hb dX7_planned_77 (by decide) ?_
            refine lv_iload_n hx hb dX7_planned_78 rfl (lv_at hl 3 rfl) ?_
            refine lv_imul hx hb dX7_planned_79 ?_
            refine lv_re (y := nI (3 * f)) (pk_mul 3 f) ?_
            refine lv_iadd hx hb dX7_planned_80 ?_
            refine lv_re (y := nI (64 + (3 * f))) (nI_add 64 (3 * f)) ?_
            refine lv_iload_n hx hb dX7_planned_81 rfl (lv_at hl 2 rfl) ?_
            unfold gX7_pl at hR
            refine lv_re (nI_self hj9.1) ?_
            refine lv_iadd hx hb dX7_planned_82 ?_
            refine lv_re (y := nI ((64 + (3 * f)) + a2.toNatClampNeg)) (nI_add (64 + (3 * f)) a2.toNatClampNeg) ?_
            refine wr_ald (kA := 0) hC hW (vM (by decide)) ce_m1 rfl (vp_in_nI (show ((64 + (3 * f)) + a2.toNatClampNeg) < 100 by omega) (by decide)) dX7_planned_83 ?_
            refine lv_re (y := B 1 ((64 + (3 * f)) + a2.toNatClampNeg)) ((congrArg (B 1) (nI_clamp (by omega)))) ?_
            refine lv_iload_n hx hb dX7_planned_84 rfl (lv_at hl 2 rfl) ?_
            refine lv_iconst (v := 2) hx hb dX7_planned_85 (by decide) ?_
            refine lv_icmp_ne (tgt := 94) hx hb dX7_planned_86 (by decide) (fun c_7 => ?_) (fun c_7 => ?_)
            · skip
              try rw [if_neg c_7] at hR
              refine lv_iconst (v := 0) hx hb dX7_planned_94 (by decide) ?_
              refine lv_iadd hx hb dX7_planned_95 ?_
              exact we_i hC hr hlocks (v := (B 1 ((64 + (3 * f)) + a2.toNatClampNeg)) + 0) (hR.symm) rfl hW hS dX7_planned_96
            · skip
              try rw [if_pos c_7] at hR
              refine lv_ldc (v := 1000000) hx hb hC.2.2.1 hk1 dX7_planned_89 ?_
              refine lv_goto (tgt := 95) hx hb dX7_planned_91 (by decide) ?_
              refine lv_iadd hx hb dX7_planned_95 ?_
              exact we_i hC hr hlocks (v := (B 1 ((64 + (3 * f)) + a2.toNatClampNeg)) + 1000000) (hR.symm) rfl hW hS dX7_planned_96
          · exact absurd (by rw [hM, nI_leI (by omega) (by omega)]; omega) c_6
        | succ u ih =>
          intro k f hk hf hR H locs ls hW hS hl
          simp only [LX7_pl] at hR
          refine lv_iload hx hb dX7_planned_36 (lv_at hl 4 rfl) ?_
          refine lv_aload_n hx hb dX7_planned_38 rfl (lv_at hl 0 rfl) ?_
          refine wr_get hC hinRX7 hW (vM (by decide)) ce_m0 rfl 0 (by decide) hk0 rfl dX7_planned_39 ?_
          refine lv_bipush (v := 63) hx hb dX7_planned_42 (by decide) ?_
          refine wr_ald (kA := 0) hC hW (vM (by decide)) ce_m1 rfl (vp_in_iff.mpr (by decide)) dX7_planned_44 ?_
          refine lv_re (y := B 1 63) ((congrArg (B 1) (show (63 : Int32).toNatClampNeg = 63 by decide))) ?_
          refine lv_icmp_ge (tgt := 71) hx hb dX7_planned_45 (by decide) (fun c_8 => ?_) (fun c_8 => ?_)
          · exact absurd c_8 (by rw [hM, nI_leI (by omega) (by omega)]; omega)
          · skip
            refine lv_aload_n hx hb dX7_planned_48 rfl (lv_at hl 0 rfl) ?_
            refine lv_iload hx hb dX7_planned_49 (lv_at hl 4 rfl) ?_
            refine wc_i hC hml (kX7_ahead l G Z B k M hM hM12 (by omega)) (cwV 1 hts gX7_planned_X7_ahead rfl rfl rfl (by decide +kernel) ⟨Nat.le_of_ble_eq_true rfl, Nat.le_of_ble_eq_true rfl⟩) hW hS (vM (by decide)) ce_m0 rfl rfl rfl rfl hl.1 (Nat.le_of_ble_eq_true rfl) dX7_planned_51 (fun H locs hW hS => ?_)
            refine lv_topi (fun x_9 ex_9 => ?_)
            try rw [← ex_9] at hR
            refine lv_iload_n hx hb dX7_planned_54 rfl (lv_at hl 1 rfl) ?_
            refine lv_icmp_ne (tgt := 63) hx hb dX7_planned_55 (by decide) (fun c_10 => ?_) (fun c_10 => ?_)
            · skip
              try rw [if_neg c_10] at hR
              refine lv_iload_n hx hb dX7_planned_63 rfl (lv_at hl 3 rfl) ?_
              refine lv_istore_n (lv' := [(3, .int (nI f)), (0, .ref (G.2.2.1 12 0)), (1, .int a1), (2, .int a2), (4, .int (nI k))]) hx hb dX7_planned_64 rfl hl (by decide) rfl (fun ls hl => ?_)
              refine lv_iinc (v := nI (k + 1)) (lv' := [(4, .int (nI (k + 1))), (3, .int (nI f)), (0, .ref (G.2.2.1 12 0)), (1, .int a1), (2, .int a2)]) hx hb dX7_planned_65 hl (k := 4) rfl (nI_1 _) (by decide) rfl (fun ls hl => ?_)
              refine lv_goto (tgt := 36) hx hb dX7_planned_68 (by decide) ?_
              exact ih (k + 1) f (by omega) (by omega) hR _ _ _ hW hS (lv_sub hl [2, 3, 4, 1, 0] rfl)
            · skip
              try rw [if_pos c_10] at hR
              refine lv_iload hx hb dX7_planned_58 (lv_at hl 4 rfl) ?_
              refine lv_goto (tgt := 64) hx hb dX7_planned_60 (by decide) ?_
              refine lv_istore_n (lv' := [(3, .int (nI k)), (0, .ref (G.2.2.1 12 0)), (1, .int a1), (2, .int a2), (4, .int (nI k))]) hx hb dX7_planned_64 rfl hl (by decide) rfl (fun ls hl => ?_)
              refine lv_iinc (v := nI (k + 1)) (lv' := [(4, .int (nI (k + 1))), (3, .int (nI k)), (0, .ref (G.2.2.1 12 0)), (1, .int a1), (2, .int a2)]) hx hb dX7_planned_65 hl (k := 4) rfl (nI_1 _) (by decide) rfl (fun ls hl => ?_)
              refine lv_goto (tgt := 36) hx hb dX7_planned_68 (by decide) ?_
              exact ih (k + 1) k (by omega) (by omega) hR _ _ _ hW hS (lv_sub hl [2, 3, 4, 1, 0] rfl)
      exact hlp_5 M 0 0 (Nat.zero_add _) hM1 hR _ _ _ hW hS (lv_sub hl [2, 3, 4, 1, 0] rfl)
    · skip
      try rw [if_pos c_4] at hR
      refine lv_bipush (v := (-2)) hx hb dX7_planned_28 (by decide) ?_
      exact we_i hC hr hlocks (v := (-2)) (hR.symm) rfl hW hS dX7_planned_30
  · skip
    try rw [if_pos c_2] at hR
    refine lv_iconst (v := (-1)) hx hb dX7_planned_17 (by decide) ?_
    exact we_i hC hr hlocks (v := (-1)) (hR.symm) rfl hW hS dX7_planned_18
def fX7_interval (B : wB) (a1 : Int32) : Int32 :=
  let x_1 := fX7_in a1 0 99
  if x_1 = 0 then (-2)
  else let x_3 := fX7_intervalBy B a1 (B 1 2)
  x_3
abbrev rX7_interval : Room := { frames := 1, cells := 0, slots := 0, locals := 23 }
set_option maxHeartbeats 4000000 in
set_option maxRecDepth 100000 in
theorem kX7_interval (l : Launch) (G : wG) (Z : wZ) (B : wB) (a1 : Int32)  : mI l yX7_interval wsX7_interval rX7_interval G [.ref (G.2.2.1 12 0), .int a1] (wset Z 12 B) (fX7_interval B a1) (wset Z 12 B) := by
  refine Met.ofW (cc := cX7_interval) (maxL := 2) (ret := (some .int)) (by decide) rfl ?_
  intro p e s m args below meth c s₁ B0 hml hv
  obtain ⟨rfl, hW, hK, hL⟩ := hv
  have hlocks := B0.notSynchronized
  have hr := B0.returns
  have hC : wX p s m c cX7_interval _ wsX7_interval RX7 G := ⟨B0.exec, B0.bytes, findClass_of_methodNamed B0.named, atoms_spec (ws := wsX7_interval) B0.pre, hK, hL⟩
  have hx := hC.1
  have hb := hC.2.1
  have hts := hC.2.2.2.1
  have hinRX7 : ∀ w ∈ wsX70, w ∈ wsX7_interval := by decide +kernel
  have hk0 := hts (.fieldLink RX7 7 "RampShaftsModel" "s" "[I") (by decide +kernel)
  have hS : va_S (wA G) s.heap s.heap [] := va_S.rf
  have hl := lv_entry ([.ref (G.2.2.1 12 0), .int a1]) (n := 2) (Nat.le_of_ble_eq_true rfl)
  rw [lg_entry_eq]
  generalize (lg_sl ([.ref (G.2.2.1 12 0), .int a1]) ++ List.replicate (2 - (lg_sl ([.ref (G.2.2.1 12 0), .int a1])).length) Slot.unset).toArray = ls at hl ⊢
  have hl : lv_has ls 2 [(0, .ref (G.2.2.1 12 0)), (1, .int a1)] := hl
  refine lv_iload_n hx hb dX7_interval_0 rfl (lv_at hl 1 rfl) ?_
  refine lv_iconst (v := 0) hx hb dX7_interval_1 (by decide) ?_
  refine lv_bipush (v := 99) hx hb dX7_interval_2 (by decide) ?_
  refine wc_s hC hml (kX7_in l G (wset Z 12 B) a1 0 99) (cwS 3 hts gX7_interval_X7_in rfl rfl rfl (by decide +kernel) ⟨Nat.le_of_ble_eq_true rfl, Nat.le_of_ble_eq_true rfl⟩) hW hS rfl rfl hl.1 (Nat.le_of_ble_eq_true rfl) dX7_interval_4 (fun H locs hW hS => ?_)
  refine lv_topi (fun x_1 ex_1 => ?_)
  refine lv_if_eq (tgt := 24) hx hb dX7_interval_7 (by decide) (fun c_2 => ?_) (fun c_2 => ?_)
  · skip
    refine lv_bipush (v := (-2)) hx hb dX7_interval_24 (by decide) ?_
    have hf : fX7_interval B a1 = (-2) := by
      subst ex_1
      exact (if_pos c_2).trans rfl
    exact we_i hC hr hlocks hf.symm rfl hW hS dX7_interval_26
  · skip
    refine lv_aload_n hx hb dX7_interval_10 rfl (lv_at hl 0 rfl) ?_
    refine lv_iload_n hx hb dX7_interval_11 rfl (lv_at hl 1 rfl) ?_
    refine lv_aload_n hx hb dX7_interval_12 rfl (lv_at hl 0 rfl) ?_
    refine wr_get hC hinRX7 hW (vM (by decide)) ce_m0 rfl 0 (by decide) hk0 rfl dX7_interval_13 ?_
    refine lv_iconst (v := 2) hx hb dX7_interval_16 (by decide) ?_
    refine wr_ald (kA := 0) hC hW (vM (by decide)) ce_m1 rfl (vp_in_iff.mpr (by decide)) dX7_interval_17 ?_
    refine lv_re (y := B 1 2) ((congrArg (B 1) (show (2 : Int32).toNatClampNeg = 2 by decide))) ?_
    refine wc_i hC hml (kX7_intervalBy l G Z B a1 (B 1 2)) (cwV 2 hts gX7_interval_X7_intervalBy rfl rfl rfl (by decide +kernel) ⟨Nat.le_of_ble_eq_true rfl, Nat.le_of_ble_eq_true rfl⟩) hW hS (vM (by decide)) ce_m0 rfl rfl rfl rfl hl.1 (Nat.le_of_ble_eq_true rfl) dX7_interval_18 (fun H locs hW hS => ?_)
    refine lv_topi (fun x_3 ex_3 => ?_)
    refine lv_goto (tgt := 26) hx hb dX7_interval_21 (by decide) ?_
    have hf : fX7_interval B a1 = x_3 := by
      subst ex_3
      subst ex_1
      exact (if_neg c_2).trans rfl
    exact we_i hC hr hlocks hf.symm rfl hW hS dX7_interval_26
def fX7_stopsAt (B : wB) (a1 : Int32) : Int32 :=
  let x_1 := fX7_isShaft B a1
  if x_1 = 0 then (-1)
  else let x_3 := B 1 (7 + 14 * a1.toNatClampNeg + 5)
  let x_4 := B 1 (7 + 14 * a1.toNatClampNeg + 6)
  let x_5 := fX7_rests B a1.toNatClampNeg
  if x_5 = 0 then (if x_3 ≤ x_4 then (let x_8 := fX7_says B a1.toNatClampNeg x_3
      x_8)
    else let x_9 := fX7_says B a1.toNatClampNeg x_4
    x_9)
  else let x_10 := fX7_says B a1.toNatClampNeg 0
  x_10
abbrev rX7_stopsAt : Room := { frames := 2, cells := 0, slots := 0, locals := 43 }
set_option maxHeartbeats 4000000 in
set_option maxRecDepth 100000 in
theorem kX7_stopsAt (l : Launch) (G : wG) (Z : wZ) (B : wB) (a1 : Int32) (hm : 0 ≤ (B 1 6).toInt ∧ (B 1 6).toInt ≤ 4) : mI l yX7_stopsAt wsX7_stopsAt rX7_stopsAt G [.ref (G.2.2.1 12 0), .int a1] (wset Z 12 B) (fX7_stopsAt B a1) (wset Z 12 B) := by
  refine Met.ofW (cc := cX7_stopsAt) (maxL := 4) (ret := (some .int)) (by decide) rfl ?_
  intro p e s m args below meth c s₁ B0 hml hv
  obtain ⟨rfl, hW, hK, hL⟩ := hv
  have hlocks := B0.notSynchronized
  have hr := B0.returns
  have hC : wX p s m c cX7_stopsAt _ wsX7_stopsAt RX7 G := ⟨B0.exec, B0.bytes, findClass_of_methodNamed B0.named, atoms_spec (ws := wsX7_stopsAt) B0.pre, hK, hL⟩
  have hx := hC.1
  have hb := hC.2.1
  have hts := hC.2.2.2.1
  have hinRX7 : ∀ w ∈ wsX70, w ∈ wsX7_stopsAt := by decide +kernel
  have hk0 := hts (.fieldLink RX7 7 "RampShaftsModel" "s" "[I") (by decide +kernel)
  have hS : va_S (wA G) s.heap s.heap [] := va_S.rf
  have hl := lv_entry ([.ref (G.2.2.1 12 0), .int a1]) (n := 4) (Nat.le_of_ble_eq_true rfl)
  rw [lg_entry_eq]
  generalize (lg_sl ([.ref (G.2.2.1 12 0), .int a1]) ++ List.replicate (4 - (lg_sl ([.ref (G.2.2.1 12 0), .int a1])).length) Slot.unset).toArray = ls at hl ⊢
  have hl : lv_has ls 4 [(0, .ref (G.2.2.1 12 0)), (1, .int a1)] := hl
  refine lv_aload_n hx hb dX7_stopsAt_0 rfl (lv_at hl 0 rfl) ?_
  refine lv_iload_n hx hb dX7_stopsAt_1 rfl (lv_at hl 1 rfl) ?_
  refine wc_i hC hml (kX7_isShaft l G Z B a1) (cwV 1 hts gX7_stopsAt_X7_isShaft rfl rfl rfl (by decide +kernel) ⟨Nat.le_of_ble_eq_true rfl, Nat.le_of_ble_eq_true rfl⟩) hW hS (vM (by decide)) ce_m0 rfl rfl rfl rfl hl.1 (Nat.le_of_ble_eq_true rfl) dX7_stopsAt_2 (fun H locs hW hS => ?_)
  refine lv_topi (fun x_1 ex_1 => ?_)
  refine lv_if_ne (tgt := 10) hx hb dX7_stopsAt_5 (by decide) (fun c_2 => ?_) (fun c_2 => ?_)
  · skip
    have hs9 := sh_ok hm (by rw [← ex_1]; exact c_2)
    have ek9 := nI_self hs9.1
    have hk9 := hs9.2.1
    rw [ek9] at hl
    refine lv_aload_n hx hb dX7_stopsAt_10 rfl (lv_at hl 0 rfl) ?_
    refine wr_get hC hinRX7 hW (vM (by decide)) ce_m0 rfl 0 (by decide) hk0 rfl dX7_stopsAt_11 ?_
    refine lv_iload_n hx hb dX7_stopsAt_14 rfl (lv_at hl 1 rfl) ?_
    refine lv_iconst (v := 5) hx hb dX7_stopsAt_15 (by decide) ?_
    refine wc_s hC hml (kX7_at l G (wset Z 12 B) a1.toNatClampNeg 5) (cwS 2 hts gX7_stopsAt_X7_at rfl rfl rfl (by decide +kernel) ⟨Nat.le_of_ble_eq_true rfl, Nat.le_of_ble_eq_true rfl⟩) hW hS rfl rfl hl.1 (Nat.le_of_ble_eq_true rfl) dX7_stopsAt_16 (fun H locs hW hS => ?_)
    refine lv_re (y := nI (7 + 14 * a1.toNatClampNeg + 5)) rfl ?_
    refine wr_ald (kA := 0) hC hW (vM (by decide)) ce_m1 rfl (vp_in_nI (show (7 + 14 * a1.toNatClampNeg + 5) < 100 by omega) (by decide)) dX7_stopsAt_19 ?_
    refine lv_re (y := B 1 (7 + 14 * a1.toNatClampNeg + 5)) ((congrArg (B 1) (nI_clamp (by omega)))) ?_
    refine lv_topi (fun x_3 ex_3 => ?_)
    refine lv_istore_n (lv' := [(2, .int x_3), (0, .ref (G.2.2.1 12 0)), (1, .int (nI a1.toNatClampNeg))]) hx hb dX7_stopsAt_20 rfl hl (by decide) rfl (fun ls hl => ?_)
    refine lv_aload_n hx hb dX7_stopsAt_21 rfl (lv_at hl 1 rfl) ?_
    refine wr_get hC hinRX7 hW (vM (by decide)) ce_m0 rfl 0 (by decide) hk0 rfl dX7_stopsAt_22 ?_
    refine lv_iload_n hx hb dX7_stopsAt_25 rfl (lv_at hl 2 rfl) ?_
    refine lv_bipush (v := 6) hx hb dX7_stopsAt_26 (by decide) ?_
    refine wc_s hC hml (kX7_at l G (wset Z 12 B) a1.toNatClampNeg 6) (cwS 2 hts gX7_stopsAt_X7_at rfl rfl rfl (by decide +kernel) ⟨Nat.le_of_ble_eq_true rfl, Nat.le_of_ble_eq_true rfl⟩) hW hS rfl rfl hl.1 (Nat.le_of_ble_eq_true rfl) dX7_stopsAt_28 (fun H locs hW hS => ?_)
    refine lv_re (y := nI (7 + 14 * a1.toNatClampNeg + 6)) rfl ?_
    refine wr_ald (kA := 0) hC hW (vM (by decide)) ce_m1 rfl (vp_in_nI (show (7 + 14 * a1.toNatClampNeg + 6) < 100 by omega) (by decide)) dX7_stopsAt_31 ?_
    refine lv_re (y := B 1 (7 + 14 * a1.toNatClampNeg + 6)) ((congrArg (B 1) (nI_clamp (by omega)))) ?_
    refine lv_topi (fun x_4 ex_4 => ?_)
    refine lv_istore_n (lv' := [(3, .int x_4), (2, .int x_3), (0, .ref (G.2.2.1 12 0)), (1, .int (nI a1.toNatClampNeg))]) hx hb dX7_stopsAt_32 rfl hl (by decide) rfl (fun ls hl => ?_)
    refine lv_aload_n hx hb dX7_stopsAt_33 rfl (lv_at hl 2 rfl) ?_
    refine lv_iload_n hx hb dX7_stopsAt_34 rfl (lv_at hl 3 rfl) ?_
    refine lv_aload_n hx hb dX7_stopsAt_35 rfl (lv_at hl 2 rfl) ?_
    refine lv_iload_n hx hb dX7_stopsAt_36 rfl (lv_at hl 3 rfl) ?_
    refine wc_i hC hml (kX7_rests l G Z B a1.toNatClampNeg (by first | assumption | omega)) (cwV 1 hts gX7_stopsAt_X7_rests rfl rfl rfl (by decide +kernel) ⟨Nat.le_of_ble_eq_true rfl, Nat.le_of_ble_eq_true rfl⟩) hW hS (vM (by decide)) ce_m0 rfl rfl rfl rfl hl.1 (Nat.le_of_ble_eq_true rfl) dX7_stopsAt_37 (fun H locs hW hS => ?_)
    refine lv_topi (fun x_5 ex_5 => ?_)
    refine lv_if_eq (tgt := 47) hx hb dX7_stopsAt_40 (by decide) (fun c_6 => ?_) (fun c_6 => ?_)
    · skip
      refine lv_iload_n hx hb dX7_stopsAt_47 rfl (lv_at hl 1 rfl) ?_
      refine lv_iload_n hx hb dX7_stopsAt_48 rfl (lv_at hl 0 rfl) ?_
      refine lv_icmp_le (tgt := 56) hx hb dX7_stopsAt_49 (by decide) (fun c_7 => ?_) (fun c_7 => ?_)
      · skip
        refine lv_iload_n hx hb dX7_stopsAt_56 rfl (lv_at hl 1 rfl) ?_
        refine wc_i hC hml (kX7_says l G Z B a1.toNatClampNeg x_3 (by first | assumption | omega)) (cwV 2 hts gX7_stopsAt_X7_says rfl rfl rfl (by decide +kernel) ⟨Nat.le_of_ble_eq_true rfl, Nat.le_of_ble_eq_true rfl⟩) hW hS (vM (by decide)) ce_m0 rfl rfl rfl rfl hl.1 (Nat.le_of_ble_eq_true rfl) dX7_stopsAt_57 (fun H locs hW hS => ?_)
        refine lv_topi (fun x_8 ex_8 => ?_)
        have hf : fX7_stopsAt B a1 = x_8 := by
          subst ex_8
          subst ex_5
          subst ex_4
          subst ex_3
          subst ex_1
          exact (if_neg c_2).trans ((if_pos c_6).trans ((if_pos c_7).trans rfl))
        exact we_i hC hr hlocks hf.symm rfl hW hS dX7_stopsAt_60
      · skip
        refine lv_iload_n hx hb dX7_stopsAt_52 rfl (lv_at hl 0 rfl) ?_
        refine lv_goto (tgt := 57) hx hb dX7_stopsAt_53 (by decide) ?_
        refine wc_i hC hml (kX7_says l G Z B a1.toNatClampNeg x_4 (by first | assumption | omega)) (cwV 2 hts gX7_stopsAt_X7_says rfl rfl rfl (by decide +kernel) ⟨Nat.le_of_ble_eq_true rfl, Nat.le_of_ble_eq_true rfl⟩) hW hS (vM (by decide)) ce_m0 rfl rfl rfl rfl hl.1 (Nat.le_of_ble_eq_true rfl) dX7_stopsAt_57 (fun H locs hW hS => ?_)
        refine lv_topi (fun x_9 ex_9 => ?_)
        have hf : fX7_stopsAt B a1 = x_9 := by
          subst ex_9
          subst ex_5
          subst ex_4
          subst ex_3
          subst ex_1
          exact (if_neg c_2).trans ((if_pos c_6).trans ((if_neg c_7).trans rfl))
        exact we_i hC hr hlocks hf.symm rfl hW hS dX7_stopsAt_60
    · skip
      refine lv_iconst (v := 0) hx hb dX7_stopsAt_43 (by decide) ?_
      refine lv_goto (tgt := 57) hx hb dX7_stopsAt_44 (by decide) ?_
      refine wc_i hC hml (kX7_says l G Z B a1.toNatClampNeg 0 (by first | assumption | omega)) (cwV 2 hts gX7_stopsAt_X7_says rfl rfl rfl (by decide +kernel) ⟨Nat.le_of_ble_eq_true rfl, Nat.le_of_ble_eq_true rfl⟩) hW hS (vM (by decide)) ce_m0 rfl rfl rfl rfl hl.1 (Nat.le_of_ble_eq_true rfl) dX7_stopsAt_57 (fun H locs hW hS => ?_)
      refine lv_topi (fun x_10 ex_10 => ?_)
      have hf : fX7_stopsAt B a1 = x_10 := by
        subst ex_10
        subst ex_5
        subst ex_4
        subst ex_3
        subst ex_1
        exact (if_neg c_2).trans ((if_neg c_6).trans rfl)
      exact we_i hC hr hlocks hf.symm rfl hW hS dX7_stopsAt_60
  · skip
    refine lv_iconst (v := (-1)) hx hb dX7_stopsAt_8 (by decide) ?_
    have hf : fX7_stopsAt B a1 = (-1) := by
      subst ex_1
      exact (if_pos c_2).trans rfl
    exact we_i hC hr hlocks hf.symm rfl hW hS dX7_stopsAt_9

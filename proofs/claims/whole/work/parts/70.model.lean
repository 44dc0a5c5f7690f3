def LX7_io (B : wB) (s : Nat) : Nat → Nat → Int32 → Int32
  | 0, _, x => x
  | u + 1, k, x => if x = 0 then LX7_io B s u (k + 1) 0 else if B 1 ((64 + (3 * k)) + 1) = nI s then LX7_io B s u (k + 1) 0 else LX7_io B s u (k + 1) 1
def fX7_isOver (B : wB) (s : Nat) : Int32 := LX7_io B s (B 1 63).toNatClampNeg 0 (if fX7_rests B s = 0 then 0 else if B 1 (7 + 14 * s + 8) = 0 then 1 else 0)
abbrev rX7_isOver : Room := { frames := 2, cells := 0, slots := 0, locals := 42 }
set_option maxHeartbeats 4000000 in
set_option maxRecDepth 100000 in
theorem kX7_isOver (l : Launch) (G : wG) (Z : wZ) (B : wB) (s9 : Nat) (M : Nat) (hM : B 1 63 = nI M) (hM12 : M ≤ 12) (hs9 : s9 < 4) : mI l yX7_isOver wsX7_isOver rX7_isOver G [.ref (G.2.2.1 12 0), .int (nI s9)] (wset Z 12 B) (fX7_isOver B s9) (wset Z 12 B) := by
  refine Met.ofW (cc := cX7_isOver) (maxL := 4) (ret := (some .boolean)) (by decide) rfl ?_
  intro p e s m args below meth c s₁ B0 hml hv
  obtain ⟨rfl, hW, hK, hL⟩ := hv
  have hlocks := B0.notSynchronized
  have hr := B0.returns
  have hC : wX p s m c cX7_isOver _ wsX7_isOver RX7 G := ⟨B0.exec, B0.bytes, findClass_of_methodNamed B0.named, atoms_spec (ws := wsX7_isOver) B0.pre, hK, hL⟩
  have hx := hC.1
  have hb := hC.2.1
  have hts := hC.2.2.2.1
  have hinRX7 : ∀ w ∈ wsX70, w ∈ wsX7_isOver := by decide +kernel
  have hk0 := hts (.fieldLink RX7 7 "RampShaftsModel" "s" "[I") (by decide +kernel)
  have hS : va_S (wA G) s.heap s.heap [] := va_S.rf
  have hl := lv_entry ([.ref (G.2.2.1 12 0), .int (nI s9)]) (n := 4) (Nat.le_of_ble_eq_true rfl)
  rw [lg_entry_eq]
  generalize (lg_sl ([.ref (G.2.2.1 12 0), .int (nI s9)]) ++ List.replicate (4 - (lg_sl ([.ref (G.2.2.1 12 0), .int (nI s9)])).length) Slot.unset).toArray = ls at hl ⊢
  have hl : lv_has ls 4 [(0, .ref (G.2.2.1 12 0)), (1, .int (nI s9))] := hl
  obtain ⟨R, hR⟩ : ∃ R, R = fX7_isOver B s9 := ⟨_, rfl⟩
  rw [← hR]
  unfold fX7_isOver at hR
  have hq9 : (B 1 63).toNatClampNeg = M := by rw [hM, nI_clamp (by omega)]
  rw [hq9] at hR
  refine lv_aload_n hx hb dX7_isOver_0 rfl (lv_at hl 0 rfl) ?_
  refine lv_iload_n hx hb dX7_isOver_1 rfl (lv_at hl 1 rfl) ?_
  refine wc_i hC hml (kX7_rests l G Z B s9 (by first | assumption | omega)) (cwV 1 hts gX7_isOver_X7_rests rfl rfl rfl (by decide +kernel) ⟨Nat.le_of_ble_eq_true rfl, Nat.le_of_ble_eq_true rfl⟩) hW hS (vM (by decide)) ce_m0 rfl rfl rfl rfl hl.1 (Nat.le_of_ble_eq_true rfl) dX7_isOver_2 (fun H locs hW hS => ?_)
  refine lv_topi (fun x_1 ex_1 => ?_)
  try rw [← ex_1] at hR
  refine lv_if_eq (tgt := 26) hx hb dX7_isOver_5 (by decide) (fun c_2 => ?_) (fun c_2 => ?_)
  · skip
    try rw [if_pos c_2] at hR
    refine lv_iconst (v := 0) hx hb dX7_isOver_26 (by decide) ?_
    refine lv_istore_n (lv' := [(2, .int 0), (0, .ref (G.2.2.1 12 0)), (1, .int (nI s9))]) hx hb dX7_isOver_27 rfl hl (by decide) rfl (fun ls hl => ?_)
    refine lv_iconst (v := 0) hx hb dX7_isOver_28 (by decide) ?_
    refine lv_istore_n (lv' := [(3, .int 0), (2, .int 0), (0, .ref (G.2.2.1 12 0)), (1, .int (nI s9))]) hx hb dX7_isOver_29 rfl hl (by decide) rfl (fun ls hl => ?_)
    have hlp_3 : ∀ (u : Nat) (k : Nat) (x : Int32), (hk : k + u = M) → (h01 : x = 0 ∨ x = 1) → R = LX7_io B s9 u k x → ∀ (H : Heap) (locs : List Loc) (ls : Array Slot), wW G (wset Z 12 B) H → va_S (wA G) s.heap H locs → lv_has ls 4 [(0, .ref (G.2.2.1 12 0)), (1, .int (nI s9)), (2, .int x), (3, .int (nI k))] → W p l e (headSpec wsX7_isOver rX7_isOver).room s m ([.ref (G.2.2.1 12 0), .int (nI s9)] : List Value).toArray below meth c H locs 0 0 (qI below ([.ref (G.2.2.1 12 0), .int (nI s9)] : List Value).toArray s G R (wset Z 12 B)) (F0 m 30 ls []) := by
      intro u
      induction u with
      | zero =>
        intro k x hk h01 hR H locs ls hW hS hl
        have hk4 : k = M := by omega
        simp only [LX7_io] at hR
        refine lv_iload_n hx hb dX7_isOver_30 rfl (lv_at hl 3 rfl) ?_
        refine lv_aload_n hx hb dX7_isOver_31 rfl (lv_at hl 0 rfl) ?_
        refine wr_get hC hinRX7 hW (vM (by decide)) ce_m0 rfl 0 (by decide) hk0 rfl dX7_isOver_32 ?_
        refine lv_bipush (v := 63) hx hb dX7_isOver_35 (by decide) ?_
        refine wr_ald (kA := 0) hC hW (vM (by decide)) ce_m1 rfl (vp_in_iff.mpr (by decide)) dX7_isOver_37 ?_
        refine lv_re (y := B 1 63) ((congrArg (B 1) (show (63 : Int32).toNatClampNeg = 63 by decide))) ?_
        refine lv_icmp_ge (tgt := 74) hx hb dX7_isOver_38 (by decide) (fun c_4 => ?_) (fun c_4 => ?_)
        · skip
          refine lv_iload_n hx hb dX7_isOver_74 rfl (lv_at hl 2 rfl) ?_
          exact we_z hC hr hlocks (nb01 h01) (v := x) (hR.symm) rfl hW hS dX7_isOver_75
        · exact absurd (by rw [hM, nI_leI (by omega) (by omega)]; omega) c_4
      | succ u ih =>
        intro k x hk h01 hR H locs ls hW hS hl
        simp only [LX7_io] at hR
        refine lv_iload_n hx hb dX7_isOver_30 rfl (lv_at hl 3 rfl) ?_
        refine lv_aload_n hx hb dX7_isOver_31 rfl (lv_at hl 0 rfl) ?_
        refine wr_get hC hinRX7 hW (vM (by decide)) ce_m0 rfl 0 (by decide) hk0 rfl dX7_isOver_32 ?_
        refine lv_bipush (v := 63) hx hb dX7_isOver_35 (by decide) ?_
        refine wr_ald (kA := 0) hC hW (vM (by decide)) ce_m1 rfl (vp_in_iff.mpr (by decide)) dX7_isOver_37 ?_
        refine lv_re (y := B 1 63) ((congrArg (B 1) (show (63 : Int32).toNatClampNeg = 63 by decide))) ?_
        refine lv_icmp_ge (tgt := 74) hx hb dX7_isOver_38 (by decide) (fun c_5 => ?_) (fun c_5 => ?_)
        · exact absurd c_5 (by rw [hM, nI_leI (by omega) (by omega)]; omega)
        · skip
          refine lv_iload_n hx hb dX7_isOver_41 rfl (lv_at hl 2 rfl) ?_
          refine lv_if_eq (tgt := 66) hx hb dX7_isOver_42 (by decide) (fun c_6 => ?_) (fun c_6 => ?_)
          · skip
            try rw [if_pos c_6] at hR
            refine lv_iconst (v := 0) hx hb dX7_isOver_66 (by decide) ?_
            refine lv_istore_n (lv' := [(2, .int 0), (0, .ref (G.2.2.1 12 0)), (1, .int (nI s9)), (3, .int (nI k))]) hx hb dX7_isOver_67 rfl hl (by decide) rfl (fun ls hl => ?_)
            refine lv_iinc (v := nI (k + 1)) (lv' := [(3, .int (nI (k + 1))), (2, .int 0), (0, .ref (G.2.2.1 12 0)), (1, .int (nI s9))]) hx hb dX7_isOver_68 hl (k := 3) rfl (nI_1 _) (by decide) rfl (fun ls hl => ?_)
            refine lv_goto (tgt := 30) hx hb dX7_isOver_71 (by decide) ?_
            exact ih (k + 1) 0 (by omega) (Or.inl rfl) hR _ _ _ hW hS (lv_sub hl [2, 3, 1, 0] rfl)
          · skip
            try rw [if_neg c_6] at hR
            refine lv_aload_n hx hb dX7_isOver_45 rfl (lv_at hl 0 rfl) ?_
            refine wr_get hC hinRX7 hW (vM (by decide)) ce_m0 rfl 0 (by decide) hk0 rfl dX7_isOver_46 ?_
            refine lv_bipush (v := 64) hx hb dX7_isOver_49 (by decide) ?_
            refine lv_iconst (v := 3) hx hb dX7_isOver_51 (by decide) ?_
            refine lv_iload_n hx hb dX7_isOver_52 rfl (lv_at hl 3 rfl) ?_
            refine lv_imul hx hb dX7_isOver_53 ?_
            refine lv_re (y := nI (3 * k)) (pk_mul 3 k) ?_
            refine lv_iadd hx hb dX7_isOver_54 ?_
            refine lv_re (y := nI (64 + (3 * k))) (nI_add 64 (3 * k)) ?_
            refine lv_iconst (v := 1) hx hb dX7_isOver_55 (by decide) ?_
            refine lv_iadd hx hb dX7_isOver_56 ?_
            refine lv_re (y := nI ((64 + (3 * k)) + 1)) (nI_add (64 + (3 * k)) 1) ?_
            refine wr_ald (kA := 0) hC hW (vM (by decide)) ce_m1 rfl (vp_in_nI (show ((64 + (3 * k)) + 1) < 100 by omega) (by decide)) dX7_isOver_57 ?_
            refine lv_re (y := B 1 ((64 + (3 * k)) + 1)) ((congrArg (B 1) (nI_clamp (by omega)))) ?_
            refine lv_iload_n hx hb dX7_isOver_58 rfl (lv_at hl 1 rfl) ?_
            refine lv_icmp_eq (tgt := 66) hx hb dX7_isOver_59 (by decide) (fun c_7 => ?_) (fun c_7 => ?_)
            · skip
              try rw [if_pos c_7] at hR
              refine lv_iconst (v := 0) hx hb dX7_isOver_66 (by decide) ?_
              refine lv_istore_n (lv' := [(2, .int 0), (0, .ref (G.2.2.1 12 0)), (1, .int (nI s9)), (3, .int (nI k))]) hx hb dX7_isOver_67 rfl hl (by decide) rfl (fun ls hl => ?_)
              refine lv_iinc (v := nI (k + 1)) (lv' := [(3, .int (nI (k + 1))), (2, .int 0), (0, .ref (G.2.2.1 12 0)), (1, .int (nI s9))]) hx hb dX7_isOver_68 hl (k := 3) rfl (nI_1 _) (by decide) rfl (fun ls hl => ?_)
              refine lv_goto (tgt := 30) hx hb dX7_isOver_71 (by decide) ?_
              exact ih (k + 1) 0 (by omega) (Or.inl rfl) hR _ _ _ hW hS (lv_sub hl [2, 3, 1, 0] rfl)
            · skip
              try rw [if_neg c_7] at hR
              refine lv_iconst (v := 1) hx hb dX7_isOver_62 (by decide) ?_
              refine lv_goto (tgt := 67) hx hb dX7_isOver_63 (by decide) ?_
              refine lv_istore_n (lv' := [(2, .int 1), (0, .ref (G.2.2.1 12 0)), (1, .int (nI s9)), (3, .int (nI k))]) hx hb dX7_isOver_67 rfl hl (by decide) rfl (fun ls hl => ?_)
              refine lv_iinc (v := nI (k + 1)) (lv' := [(3, .int (nI (k + 1))), (2, .int 1), (0, .ref (G.2.2.1 12 0)), (1, .int (nI s9))]) hx hb dX7_isOver_68 hl (k := 3) rfl (nI_1 _) (by decide) rfl (fun ls hl => ?_)
              refine lv_goto (tgt := 30) hx hb dX7_isOver_71 (by decide) ?_
              exact ih (k + 1) 1 (by omega) (Or.inr rfl) hR _ _ _ hW hS (lv_sub hl [2, 3, 1, 0] rfl)
    exact hlp_3 M 0 0 (Nat.zero_add _) (Or.inl rfl) hR _ _ _ hW hS (lv_sub hl [2, 3, 1, 0] rfl)
  · skip
    try rw [if_neg c_2] at hR
    refine lv_aload_n hx hb dX7_isOver_8 rfl (lv_at hl 0 rfl) ?_
    refine wr_get hC hinRX7 hW (vM (by decide)) ce_m0 rfl 0 (by decide) hk0 rfl dX7_isOver_9 ?_
    refine lv_iload_n hx hb dX7_isOver_12 rfl (lv_at hl 1 rfl) ?_
    refine lv_bipush (v := 8) hx hb dX7_isOver_13 (by decide) ?_
    refine wc_s hC hml (kX7_at l G (wset Z 12 B) s9 8) (cwS 2 hts gX7_isOver_X7_at rfl rfl rfl (by decide +kernel) ⟨Nat.le_of_ble_eq_true rfl, Nat.le_of_ble_eq_true rfl⟩) hW hS rfl rfl hl.1 (Nat.le_of_ble_eq_true rfl) dX7_isOver_15 (fun H locs hW hS => ?_)
    refine lv_re (y := nI (7 + 14 * s9 + 8)) rfl ?_
    refine wr_ald (kA := 0) hC hW (vM (by decide)) ce_m1 rfl (vp_in_nI (show (7 + 14 * s9 + 8) < 100 by omega) (by decide)) dX7_isOver_18 ?_
    refine lv_re (y := B 1 (7 + 14 * s9 + 8)) ((congrArg (B 1) (nI_clamp (by omega)))) ?_
    refine lv_if_ne (tgt := 26) hx hb dX7_isOver_19 (by decide) (fun c_8 => ?_) (fun c_8 => ?_)
    · skip
      try rw [if_neg c_8] at hR
      refine lv_iconst (v := 0) hx hb dX7_isOver_26 (by decide) ?_
      refine lv_istore_n (lv' := [(2, .int 0), (0, .ref (G.2.2.1 12 0)), (1, .int (nI s9))]) hx hb dX7_isOver_27 rfl hl (by decide) rfl (fun ls hl => ?_)
      refine lv_iconst (v := 0) hx hb dX7_isOver_28 (by decide) ?_
      refine lv_istore_n (lv' := [(3, .int 0), (2, .int 0), (0, .ref (G.2.2.1 12 0)), (1, .int (nI s9))]) hx hb dX7_isOver_29 rfl hl (by decide) rfl (fun ls hl => ?_)
      have hlp_9 : ∀ (u : Nat) (k : Nat) (x : Int32), (hk : k + u = M) → (h01 : x = 0 ∨ x = 1) → R = LX7_io B s9 u k x → ∀ (H : Heap) (locs : List Loc) (ls : Array Slot), wW G (wset Z 12 B) H → va_S (wA G) s.heap H locs → lv_has ls 4 [(0, .ref (G.2.2.1 12 0)), (1, .int (nI s9)), (2, .int x), (3, .int (nI k))] → W p l e (headSpec wsX7_isOver rX7_isOver).room s m ([.ref (G.2.2.1 12 0), .int (nI s9)] : List Value).toArray below meth c H locs 0 0 (qI below ([.ref (G.2.2.1 12 0), .int (nI s9)] : List Value).toArray s G R (wset Z 12 B)) (F0 m 30 ls []) := by
        intro u
        induction u with
        | zero =>
          intro k x hk h01 hR H locs ls hW hS hl
          have hk4 : k = M := by omega
          simp only [LX7_io] at hR
          refine lv_iload_n hx hb dX7_isOver_30 rfl (lv_at hl 3 rfl) ?_
          refine lv_aload_n hx hb dX7_isOver_31 rfl (lv_at hl 0 rfl) ?_
          refine wr_get hC hinRX7 hW (vM (by decide)) ce_m0 rfl 0 (by decide) hk0 rfl dX7_isOver_32 ?_
          refine lv_bipush (v := 63) hx hb dX7_isOver_35 (by decide) ?_
          refine wr_ald (kA := 0) hC hW (vM (by decide)) ce_m1 rfl (vp_in_iff.mpr (by decide)) dX7_isOver_37 ?_
          refine lv_re (y := B 1 63) ((congrArg (B 1) (show (63 : Int32).toNatClampNeg = 63 by decide))) ?_
          refine lv_icmp_ge (tgt := 74) hx hb dX7_isOver_38 (by decide) (fun c_10 => ?_) (fun c_10 => ?_)
          · skip
            refine lv_iload_n hx hb dX7_isOver_74 rfl (lv_at hl 2 rfl) ?_
            exact we_z hC hr hlocks (nb01 h01) (v := x) (hR.symm) rfl hW hS dX7_isOver_75
          · exact absurd (by rw [hM, nI_leI (by omega) (by omega)]; omega) c_10
        | succ u ih =>
          intro k x hk h01 hR H locs ls hW hS hl
          simp only [LX7_io] at hR
          refine lv_iload_n hx hb dX7_isOver_30 rfl (lv_at hl 3 rfl) ?_
          refine lv_aload_n hx hb dX7_isOver_31 rfl (lv_at hl 0 rfl) ?_
          refine wr_get hC hinRX7 hW (vM (by decide)) ce_m0 rfl 0 (by decide) hk0 rfl dX7_isOver_32 ?_
          refine lv_bipush (v := 63) hx hb dX7_isOver_35 (by decide) ?_
          refine wr_ald (kA := 0) hC hW (vM (by decide)) ce_m1 rfl (vp_in_iff.mpr (by decide)) dX7_isOver_37 ?_
          refine lv_re (y := B 1 63) ((congrArg (B 1) (show (63 : Int32).toNatClampNeg = 63 by decide))) ?_
          refine lv_icmp_ge (tgt := 74) hx hb dX7_isOver_38 (by decide) (fun c_11 => ?_) (fun c_11 => ?_)
          · exact absurd c_11 (by rw [hM, nI_leI (by omega) (by omega)]; omega)
          · skip
            refine lv_iload_n hx hb dX7_isOver_41 rfl (lv_at hl 2 rfl) ?_
            refine lv_if_eq (tgt := 66) hx hb dX7_isOver_42 (by decide) (fun c_12 => ?_) (fun c_12 => ?_)
            · skip
              try rw [if_pos c_12] at hR
              refine lv_iconst (v := 0) hx hb dX7_isOver_66 (by decide) ?_
              refine lv_istore_n (lv' := [(2, .int 0), (0, .ref (G.2.2.1 12 0)), (1, .int (nI s9)), (3, .int (nI k))]) hx hb dX7_isOver_67 rfl hl (by decide) rfl (fun ls hl => ?_)
              refine lv_iinc (v := nI (k + 1)) (lv' := [(3, .int (nI (k + 1))), (2, .int 0), (0, .ref (G.2.2.1 12 0)), (1, .int (nI s9))]) hx hb dX7_isOver_68 hl (k := 3) rfl (nI_1 _) (by decide) rfl (fun ls hl => ?_)
              refine lv_goto (tgt := 30) hx hb dX7_isOver_71 (by decide) ?_
              exact ih (k + 1) 0 (by omega) (Or.inl rfl) hR _ _ _ hW hS (lv_sub hl [2, 3, 1, 0] rfl)
            · skip
              try rw [if_neg c_12] at hR
              refine lv_aload_n hx hb dX7_isOver_45 rfl (lv_at hl 0 rfl) ?_
              refine wr_get hC hinRX7 hW (vM (by decide)) ce_m0 rfl 0 (by decide) hk0 rfl dX7_isOver_46 ?_
              refine lv_bipush (v := 64) hx hb dX7_isOver_49 (by decide) ?_
              refine lv_iconst (v := 3) hx hb dX7_isOver_51 (by decide) ?_
              refine lv_iload_n hx hb dX7_isOver_52 rfl (lv_at hl 3 rfl) ?_
              refine lv_imul hx hb dX7_isOver_53 ?_
              refine lv_re (y := nI (3 * k)) (pk_mul 3 k) ?_
              refine lv_iadd hx hb dX7_isOver_54 ?_
              refine lv_re (y := nI (64 + (3 * k))) (nI_add 64 (3 * k)) ?_
              refine lv_iconst (v := 1) hx hb dX7_isOver_55 (by decide) ?_
              refine lv_iadd hx hb dX7_isOver_56 ?_
              refine lv_re (y := nI ((64 + (3 * k)) + 1)) (nI_add (64 + (3 * k)) 1) ?_
              refine wr_ald (kA := 0) hC hW (vM (by decide)) ce_m1 rfl (vp_in_nI (show ((64 + (3 * k)) + 1) < 100 by omega) (by decide)) dX7_isOver_57 ?_
              refine lv_re (y := B 1 ((64 + (3 * k)) + 1)) ((congrArg (B 1) (nI_clamp (by omega)))) ?_
              refine lv_iload_n hx hb dX7_isOver_58 rfl (lv_at hl 1 rfl) ?_
              refine lv_icmp_eq (tgt := 66) hx hb dX7_isOver_59 (by decide) (fun c_13 => ?_) (fun c_13 => ?_)
              · skip
                try rw [if_pos c_13] at hR
                refine lv_iconst (v := 0) hx hb dX7_isOver_66 (by decide) ?_
                refine lv_istore_n (lv' := [(2, .int 0), (0, .ref (G.2.2.1 12 0)), (1, .int (nI s9)), (3, .int (nI k))]) hx hb dX7_isOver_67 rfl hl (by decide) rfl (fun ls hl => ?_)
                refine lv_iinc (v := nI (k + 1)) (lv' := [(3, .int (nI (k + 1))), (2, .int 0), (0, .ref (G.2.2.1 12 0)), (1, .int (nI s9))]) hx hb dX7_isOver_68 hl (k := 3) rfl (nI_1 _) (by decide) rfl (fun ls hl => ?_)
                refine lv_goto (tgt := 30) hx hb dX7_isOver_71 (by decide) ?_
                exact ih (k + 1) 0 (by omega) (Or.inl rfl) hR _ _ _ hW hS (lv_sub hl [2, 3, 1, 0] rfl)
              · skip
                try rw [if_neg c_13] at hR
                refine lv_iconst (v := 1) hx hb dX7_isOver_62 (by decide) ?_
                refine lv_goto (tgt := 67) hx hb dX7_isOver_63 (by decide) ?_
                refine lv_istore_n (lv' := [(2, .int 1), (0, .ref (G.2.2.1 12 0)), (1, .int (nI s9)), (3, .int (nI k))]) hx hb dX7_isOver_67 rfl hl (by decide) rfl (fun ls hl => ?_)
                refine lv_iinc (v := nI (k + 1)) (lv' := [(3, .int (nI (k + 1))), (2, .int 1), (0, .ref (G.2.2.1 12 0)), (1, .int (nI s9))]) hx hb dX7_isOver_68 hl (k := 3) rfl (nI_1 _) (by decide) rfl (fun ls hl => ?_)
                refine lv_goto (tgt := 30) hx hb dX7_isOver_71 (by decide) ?_
                exact ih (k + 1) 1 (by omega) (Or.inr rfl) hR _ _ _ hW hS (lv_sub hl [2, 3, 1, 0] rfl)
      exact hlp_9 M 0 0 (Nat.zero_add _) (Or.inl rfl) hR _ _ _ hW hS (lv_sub hl [2, 3, 1, 0] rfl)
    · skip
      try rw [if_pos c_8] at hR
      refine lv_iconst (v := 1) hx hb dX7_isOver_22 (by decide) ?_
      refine lv_goto (tgt := 27) hx hb dX7_isOver_23 (by decide) ?_
      refine lv_istore_n (lv' := [(2, .int 1), (0, .ref (G.2.2.1 12 0)), (1, .int (nI s9))]) hx hb dX7_isOver_27 rfl hl (by decide) rfl (fun ls hl => ?_)
      refine lv_iconst (v := 0) hx hb dX7_isOver_28 (by decide) ?_
      refine lv_istore_n (lv' := [(3, .int 0), (2, .int 1), (0, .ref (G.2.2.1 12 0)), (1, .int (nI s9))]) hx hb dX7_isOver_29 rfl hl (by decide) rfl (fun ls hl => ?_)
      have hlp_14 : ∀ (u : Nat) (k : Nat) (x : Int32), (hk : k + u = M) → (h01 : x = 0 ∨ x = 1) → R = LX7_io B s9 u k x → ∀ (H : Heap) (locs : List Loc) (ls : Array Slot), wW G (wset Z 12 B) H → va_S (wA G) s.heap H locs → lv_has ls 4 [(0, .ref (G.2.2.1 12 0)), (1, .int (nI s9)), (2, .int x), (3, .int (nI k))] → W p l e (headSpec wsX7_isOver rX7_isOver).room s m ([.ref (G.2.2.1 12 0), .int (nI s9)] : List Value).toArray below meth c H locs 0 0 (qI below ([.ref (G.2.2.1 12 0), .int (nI s9)] : List Value).toArray s G R (wset Z 12 B)) (F0 m 30 ls []) := by
        intro u
        induction u with
        | zero =>
          intro k x hk h01 hR H locs ls hW hS hl
          have hk4 : k = M := by omega
          simp only [LX7_io] at hR
          refine lv_iload_n hx hb dX7_isOver_30 rfl (lv_at hl 3 rfl) ?_
          refine lv_aload_n hx hb dX7_isOver_31 rfl (lv_at hl 0 rfl) ?_
          refine wr_get hC hinRX7 hW (vM (by decide)) ce_m0 rfl 0 (by decide) hk0 rfl dX7_isOver_32 ?_
          refine lv_bipush (v := 63) hx hb dX7_isOver_35 (by decide) ?_
          refine wr_ald (kA := 0) hC hW (vM (by decide)) ce_m1 rfl (vp_in_iff.mpr (by decide)) dX7_isOver_37 ?_
          refine lv_re (y := B 1 63) ((congrArg (B 1) (show (63 : Int32).toNatClampNeg = 63 by decide))) ?_
          refine lv_icmp_ge (tgt := 74) hx hb dX7_isOver_38 (by decide) (fun c_15 => ?_) (fun c_15 => ?_)
          · skip
            refine lv_iload_n hx hb dX7_isOver_74 rfl (lv_at hl 2 rfl) ?_
            exact we_z hC hr hlocks (nb01 h01) (v := x) (hR.symm) rfl hW hS dX7_isOver_75
          · exact absurd (by rw [hM, nI_leI (by omega) (by omega)]; omega) c_15
        | succ u ih =>
          intro k x hk h01 hR H locs ls hW hS hl
          simp only [LX7_io] at hR
          refine lv_iload_n hx hb dX7_isOver_30 rfl (lv_at hl 3 rfl) ?_
          refine lv_aload_n hx hb dX7_isOver_31 rfl (lv_at hl 0 rfl) ?_
          refine wr_get hC hinRX7 hW (vM (by decide)) ce_m0 rfl 0 (by decide) hk0 rfl dX7_isOver_32 ?_
          refine lv_bipush (v := 63) hx hb dX7_isOver_35 (by decide) ?_
          refine wr_ald (kA := 0) hC hW (vM (by decide)) ce_m1 rfl (vp_in_iff.mpr (by decide)) dX7_isOver_37 ?_
          refine lv_re (y := B 1 63) ((congrArg (B 1) (show (63 : Int32).toNatClampNeg = 63 by decide))) ?_
          refine lv_icmp_ge (tgt := 74) hx hb dX7_isOver_38 (by decide) (fun c_16 => ?_) (fun c_16 => ?_)
          · exact absurd c_16 (by rw [hM, nI_leI (by omega) (by omega)]; omega)
          · skip
            refine lv_iload_n hx hb dX7_isOver_41 rfl (lv_at hl 2 rfl) ?_
            refine lv_if_eq (tgt := 66) hx hb dX7_isOver_42 (by decide) (fun c_17 => ?_) (fun c_17 => ?_)
            · skip
              try rw [if_pos c_17] at hR
              refine lv_iconst (v := 0) hx hb dX7_isOver_66 (by decide) ?_
              refine lv_istore_n (lv' := [(2, .int 0), (0, .ref (G.2.2.1 12 0)), (1, .int (nI s9)), (3, .int (nI k))]) hx hb dX7_isOver_67 rfl hl (by decide) rfl (fun ls hl => ?_)
              refine lv_iinc (v := nI (k + 1)) (lv' := [(3, .int (nI (k + 1))), (2, .int 0), (0, .ref (G.2.2.1 12 0)), (1, .int (nI s9))]) hx hb dX7_isOver_68 hl (k := 3) rfl (nI_1 _) (by decide) rfl (fun ls hl => ?_)
              refine lv_goto (tgt := 30) hx hb dX7_isOver_71 (by decide) ?_
              exact ih (k + 1) 0 (by omega) (Or.inl rfl) hR _ _ _ hW hS (lv_sub hl [2, 3, 1, 0] rfl)
            · skip
              try rw [if_neg c_17] at hR
              refine lv_aload_n hx hb dX7_isOver_45 rfl (lv_at hl 0 rfl) ?_
              refine wr_get hC hinRX7 hW (vM (by decide)) ce_m0 rfl 0 (by decide) hk0 rfl dX7_isOver_46 ?_
              refine lv_bipush (v := 64) hx hb dX7_isOver_49 (by decide) ?_
              refine lv_iconst (v := 3) hx hb dX7_isOver_51 (by decide) ?_
              refine lv_iload_n hx hb dX7_isOver_52 rfl (lv_at hl 3 rfl) ?_
              refine lv_imul hx hb dX7_isOver_53 ?_
              refine lv_re (y := nI (3 * k)) (pk_mul 3 k) ?_
              refine lv_iadd hx hb dX7_isOver_54 ?_
              refine lv_re (y := nI (64 + (3 * k))) (nI_add 64 (3 * k)) ?_
              refine lv_iconst (v := 1) hx hb dX7_isOver_55 (by decide) ?_
              refine lv_iadd hx hb dX7_isOver_56 ?_
              refine lv_re (y := nI ((64 + (3 * k)) + 1)) (nI_add (64 + (3 * k)) 1) ?_
              refine wr_ald (kA := 0) hC hW (vM (by decide)) ce_m1 rfl (vp_in_nI (show ((64 + (3 * k)) + 1) < 100 by omega) (by decide)) dX7_isOver_57 ?_
              refine lv_re (y := B 1 ((64 + (3 * k)) + 1)) ((congrArg (B 1) (nI_clamp (by omega)))) ?_
              refine lv_iload_n hx hb dX7_isOver_58 rfl (lv_at hl 1 rfl) ?_
              refine lv_icmp_eq (tgt := 66) hx hb dX7_isOver_59 (by decide) (fun c_18 => ?_) (fun c_18 => ?_)
              · skip
                try rw [if_pos c_18] at hR
                refine lv_iconst (v := 0) hx hb dX7_isOver_66 (by decide) ?_
                refine lv_istore_n (lv' := [(2, .int 0), (0, .ref (G.2.2.1 12 0)), (1, .int (nI s9)), (3, .int (nI k))]) hx hb dX7_isOver_67 rfl hl (by decide) rfl (fun ls hl => ?_)
                refine lv_iinc (v := nI (k + 1)) (lv' := [(3, .int (nI (k + 1))), (2, .int 0), (0, .ref (G.2.2.1 12 0)), (1, .int (nI s9))]) hx hb dX7_isOver_68 hl (k := 3) rfl (nI_1 _) (by decide) rfl (fun ls hl => ?_)
                refine lv_goto (tgt := 30) hx hb dX7_isOver_71 (by decide) ?_
                exact ih (k + 1) 0 (by omega) (Or.inl rfl) hR _ _ _ hW hS (lv_sub hl [2, 3, 1, 0] rfl)
              · skip
                try rw [if_neg c_18] at hR
                refine lv_iconst (v := 1) hx hb dX7_isOver_62 (by decide) ?_
                refine lv_goto (tgt := 67) hx hb dX7_isOver_63 (by decide) ?_
                refine lv_istore_n (lv' := [(2, .int 1), (0, .ref (G.2.2.1 12 0)), (1, .int (nI s9)), (3, .int (nI k))]) hx hb dX7_isOver_67 rfl hl (by decide) rfl (fun ls hl => ?_)
                refine lv_iinc (v := nI (k + 1)) (lv' := [(3, .int (nI (k + 1))), (2, .int 1), (0, .ref (G.2.2.1 12 0)), (1, .int (nI s9))]) hx hb dX7_isOver_68 hl (k := 3) rfl (nI_1 _) (by decide) rfl (fun ls hl => ?_)
                refine lv_goto (tgt := 30) hx hb dX7_isOver_71 (by decide) ?_
                exact ih (k + 1) 1 (by omega) (Or.inr rfl) hR _ _ _ hW hS (lv_sub hl [2, 3, 1, 0] rfl)
      exact hlp_14 M 0 1 (Nat.zero_add _) (Or.inr rfl) hR _ _ _ hW hS (lv_sub hl [2, 3, 1, 0] rfl)
def LX7_oa5 (B : wB) : Nat → Nat → Int32 → Int32
  | 0, _, x => x
  | u + 1, k, x => if fX7_rests B k = 0 then LX7_oa5 B u (k + 1) (x ||| (1 <<< ((nI k) &&& 31))) else LX7_oa5 B u (k + 1) (x ||| 0)
def fX7_overAll5 (B : wB) : Int32 := LX7_oa5 B (B 1 6).toNatClampNeg 0 0
abbrev rX7_overAll : Room := { frames := 2, cells := 0, slots := 0, locals := 42 }
set_option maxHeartbeats 4000000 in
set_option maxRecDepth 100000 in
theorem kX7_overAll5 (l : Launch) (G : wG) (Z : wZ) (B : wB)  (M4 : Nat) (hM4 : B 1 6 = nI M4) (hM44 : M4 ≤ 4) : mI l yX7_overAll wsX7_overAll rX7_overAll G [.ref (G.2.2.1 12 0), .int 5] (wset Z 12 B) (fX7_overAll5 B) (wset Z 12 B) := by
  refine Met.ofW (cc := cX7_overAll) (maxL := 5) (ret := (some .int)) (by decide) rfl ?_
  intro p e s m args below meth c s₁ B0 hml hv
  obtain ⟨rfl, hW, hK, hL⟩ := hv
  have hlocks := B0.notSynchronized
  have hr := B0.returns
  have hC : wX p s m c cX7_overAll _ wsX7_overAll RX7 G := ⟨B0.exec, B0.bytes, findClass_of_methodNamed B0.named, atoms_spec (ws := wsX7_overAll) B0.pre, hK, hL⟩
  have hx := hC.1
  have hb := hC.2.1
  have hts := hC.2.2.2.1
  have hinRX7 : ∀ w ∈ wsX70, w ∈ wsX7_overAll := by decide +kernel
  have hk0 := hts (.fieldLink RX7 7 "RampShaftsModel" "s" "[I") (by decide +kernel)
  have hS : va_S (wA G) s.heap s.heap [] := va_S.rf
  have hl := lv_entry ([.ref (G.2.2.1 12 0), .int 5]) (n := 5) (Nat.le_of_ble_eq_true rfl)
  rw [lg_entry_eq]
  generalize (lg_sl ([.ref (G.2.2.1 12 0), .int 5]) ++ List.replicate (5 - (lg_sl ([.ref (G.2.2.1 12 0), .int 5])).length) Slot.unset).toArray = ls at hl ⊢
  have hl : lv_has ls 5 [(0, .ref (G.2.2.1 12 0)), (1, .int 5)] := hl
  obtain ⟨R, hR⟩ : ∃ R, R = fX7_overAll5 B := ⟨_, rfl⟩
  rw [← hR]
  unfold fX7_overAll5 at hR
  have hq9 : (B 1 6).toNatClampNeg = M4 := by rw [hM4, nI_clamp (by omega)]
  rw [hq9] at hR
  refine lv_iconst (v := 0) hx hb dX7_overAll_0 (by decide) ?_
  refine lv_istore_n (lv' := [(2, .int 0), (0, .ref (G.2.2.1 12 0)), (1, .int 5)]) hx hb dX7_overAll_1 rfl hl (by decide) rfl (fun ls hl => ?_)
  refine lv_iconst (v := 0) hx hb dX7_overAll_2 (by decide) ?_
  refine lv_istore_n (lv' := [(3, .int 0), (2, .int 0), (0, .ref (G.2.2.1 12 0)), (1, .int 5)]) hx hb dX7_overAll_3 rfl hl (by decide) rfl (fun ls hl => ?_)
  have hlp_1 : ∀ (u : Nat) (k : Nat) (x : Int32), (hk : k + u = M4) → R = LX7_oa5 B u k x → ∀ (H : Heap) (locs : List Loc) (ls : Array Slot), wW G (wset Z 12 B) H → va_S (wA G) s.heap H locs → lv_has ls 5 [(0, .ref (G.2.2.1 12 0)), (1, .int 5), (2, .int x), (3, .int (nI k))] → W p l e (headSpec wsX7_overAll rX7_overAll).room s m ([.ref (G.2.2.1 12 0), .int 5] : List Value).toArray below meth c H locs 0 0 (qI below ([.ref (G.2.2.1 12 0), .int 5] : List Value).toArray s G R (wset Z 12 B)) (F0 m 4 ls []) := by
    intro u
    induction u with
    | zero =>
      intro k x hk hR H locs ls hW hS hl
      have hk4 : k = M4 := by omega
      simp only [LX7_oa5] at hR
      refine lv_iload_n hx hb dX7_overAll_4 rfl (lv_at hl 3 rfl) ?_
      refine lv_aload_n hx hb dX7_overAll_5 rfl (lv_at hl 0 rfl) ?_
      refine wr_get hC hinRX7 hW (vM (by decide)) ce_m0 rfl 0 (by decide) hk0 rfl dX7_overAll_6 ?_
      refine lv_bipush (v := 6) hx hb dX7_overAll_9 (by decide) ?_
      refine wr_ald (kA := 0) hC hW (vM (by decide)) ce_m1 rfl (vp_in_iff.mpr (by decide)) dX7_overAll_11 ?_
      refine lv_re (y := B 1 6) ((congrArg (B 1) (show (6 : Int32).toNatClampNeg = 6 by decide))) ?_
      refine lv_icmp_ge (tgt := 113) hx hb dX7_overAll_12 (by decide) (fun c_2 => ?_) (fun c_2 => ?_)
      · skip
        refine lv_iload_n hx hb dX7_overAll_113 rfl (lv_at hl 2 rfl) ?_
        exact we_i hC hr hlocks (v := x) (hR.symm) rfl hW hS dX7_overAll_114
      · exact absurd (by rw [hM4, nI_leI (by omega) (by omega)]; omega) c_2
    | succ u ih =>
      intro k x hk hR H locs ls hW hS hl
      simp only [LX7_oa5] at hR
      refine lv_iload_n hx hb dX7_overAll_4 rfl (lv_at hl 3 rfl) ?_
      refine lv_aload_n hx hb dX7_overAll_5 rfl (lv_at hl 0 rfl) ?_
      refine wr_get hC hinRX7 hW (vM (by decide)) ce_m0 rfl 0 (by decide) hk0 rfl dX7_overAll_6 ?_
      refine lv_bipush (v := 6) hx hb dX7_overAll_9 (by decide) ?_
      refine wr_ald (kA := 0) hC hW (vM (by decide)) ce_m1 rfl (vp_in_iff.mpr (by decide)) dX7_overAll_11 ?_
      refine lv_re (y := B 1 6) ((congrArg (B 1) (show (6 : Int32).toNatClampNeg = 6 by decide))) ?_
      refine lv_icmp_ge (tgt := 113) hx hb dX7_overAll_12 (by decide) (fun c_3 => ?_) (fun c_3 => ?_)
      · exact absurd c_3 (by rw [hM4, nI_leI (by omega) (by omega)]; omega)
      · skip
        refine lv_iload_n hx hb dX7_overAll_15 rfl (lv_at hl 1 rfl) ?_
        refine lv_iconst (v := 5) hx hb dX7_overAll_16 (by decide) ?_
        refine lv_icmp_eq (tgt := 25) hx hb dX7_overAll_17 (by decide) (fun c_4 => ?_) (fun c_4 => ?_)
        · skip
          refine lv_iload_n hx hb dX7_overAll_25 rfl (lv_at hl 1 rfl) ?_
          refine lv_iconst (v := 5) hx hb dX7_overAll_26 (by decide) ?_
          refine lv_icmp_ne (tgt := 46) hx hb dX7_overAll_27 (by decide) (fun c_5 => ?_) (fun c_5 => ?_)
          · exact absurd c_5 (by decide)
          · skip
            refine lv_aload_n hx hb dX7_overAll_30 rfl (lv_at hl 0 rfl) ?_
            refine lv_iload_n hx hb dX7_overAll_31 rfl (lv_at hl 3 rfl) ?_
            refine wc_i hC hml (kX7_rests l G Z B k (by first | assumption | omega)) (cwV 1 hts gX7_overAll_X7_rests rfl rfl rfl (by decide +kernel) ⟨Nat.le_of_ble_eq_true rfl, Nat.le_of_ble_eq_true rfl⟩) hW hS (vM (by decide)) ce_m0 rfl rfl rfl rfl hl.1 (Nat.le_of_ble_eq_true rfl) dX7_overAll_32 (fun H locs hW hS => ?_)
            refine lv_topi (fun x_6 ex_6 => ?_)
            try rw [← ex_6] at hR
            refine lv_if_ne (tgt := 42) hx hb dX7_overAll_35 (by decide) (fun c_7 => ?_) (fun c_7 => ?_)
            · skip
              try rw [if_neg c_7] at hR
              refine lv_iconst (v := 0) hx hb dX7_overAll_42 (by decide) ?_
              refine lv_goto (tgt := 74) hx hb dX7_overAll_43 (by decide) ?_
              refine lv_istore (lv' := [(4, .int 0), (0, .ref (G.2.2.1 12 0)), (1, .int 5), (2, .int x), (3, .int (nI k))]) hx hb dX7_overAll_74 hl (by decide) rfl (fun ls hl => ?_)
              refine lv_iload_n hx hb dX7_overAll_76 rfl (lv_at hl 3 rfl) ?_
              refine lv_iload hx hb dX7_overAll_77 (lv_at hl 0 rfl) ?_
              refine lv_if_eq (tgt := 88) hx hb dX7_overAll_79 (by decide) (fun c_8 => ?_) (fun c_8 => ?_)
              · skip
                refine lv_iconst (v := 0) hx hb dX7_overAll_88 (by decide) ?_
                refine lv_ior hx hb dX7_overAll_89 ?_
                refine lv_topi (fun x_9 ex_9 => ?_)
                try rw [← ex_9] at hR
                refine lv_istore_n (lv' := [(2, .int x_9), (4, .int 0), (0, .ref (G.2.2.1 12 0)), (1, .int 5), (3, .int (nI k))]) hx hb dX7_overAll_90 rfl hl (by decide) rfl (fun ls hl => ?_)
                refine lv_goto (tgt := 107) hx hb dX7_overAll_91 (by decide) ?_
                refine lv_iinc (v := nI (k + 1)) (lv' := [(3, .int (nI (k + 1))), (2, .int x_9), (4, .int 0), (0, .ref (G.2.2.1 12 0)), (1, .int 5)]) hx hb dX7_overAll_107 hl (k := 4) rfl (nI_1 _) (by decide) rfl (fun ls hl => ?_)
                refine lv_goto (tgt := 4) hx hb dX7_overAll_110 (by decide) ?_
                exact ih (k + 1) x_9 (by omega) hR _ _ _ hW hS (lv_sub hl [3, 4, 1, 0] rfl)
              · exact absurd c_8 (by decide)
            · skip
              try rw [if_pos c_7] at hR
              refine lv_iconst (v := 1) hx hb dX7_overAll_38 (by decide) ?_
              refine lv_goto (tgt := 74) hx hb dX7_overAll_39 (by decide) ?_
              refine lv_istore (lv' := [(4, .int 1), (0, .ref (G.2.2.1 12 0)), (1, .int 5), (2, .int x), (3, .int (nI k))]) hx hb dX7_overAll_74 hl (by decide) rfl (fun ls hl => ?_)
              refine lv_iload_n hx hb dX7_overAll_76 rfl (lv_at hl 3 rfl) ?_
              refine lv_iload hx hb dX7_overAll_77 (lv_at hl 0 rfl) ?_
              refine lv_if_eq (tgt := 88) hx hb dX7_overAll_79 (by decide) (fun c_10 => ?_) (fun c_10 => ?_)
              · exact absurd c_10 (by decide)
              · skip
                refine lv_iconst (v := 1) hx hb dX7_overAll_82 (by decide) ?_
                refine lv_iload_n hx hb dX7_overAll_83 rfl (lv_at hl 4 rfl) ?_
                refine lv_ishl hx hb dX7_overAll_84 ?_
                refine lv_goto (tgt := 89) hx hb dX7_overAll_85 (by decide) ?_
                refine lv_ior hx hb dX7_overAll_89 ?_
                refine lv_topi (fun x_11 ex_11 => ?_)
                try rw [← ex_11] at hR
                refine lv_istore_n (lv' := [(2, .int x_11), (4, .int 1), (0, .ref (G.2.2.1 12 0)), (1, .int 5), (3, .int (nI k))]) hx hb dX7_overAll_90 rfl hl (by decide) rfl (fun ls hl => ?_)
                refine lv_goto (tgt := 107) hx hb dX7_overAll_91 (by decide) ?_
                refine lv_iinc (v := nI (k + 1)) (lv' := [(3, .int (nI (k + 1))), (2, .int x_11), (4, .int 1), (0, .ref (G.2.2.1 12 0)), (1, .int 5)]) hx hb dX7_overAll_107 hl (k := 4) rfl (nI_1 _) (by decide) rfl (fun ls hl => ?_)
                refine lv_goto (tgt := 4) hx hb dX7_overAll_110 (by decide) ?_
                exact ih (k + 1) x_11 (by omega) hR _ _ _ hW hS (lv_sub hl [3, 4, 1, 0] rfl)
        · exact absurd c_4 (by decide)
  exact hlp_1 M4 0 0 (Nat.zero_add _) hR _ _ _ hW hS (lv_sub hl [2, 3, 1, 0] rfl)
def LX7_oa2 (B : wB) : Nat → Nat → Int32 → Int32
  | 0, _, x => x
  | u + 1, k, x => if B 1 (7 + 14 * k + 2) = B 1 (7 + 14 * k + 3) then LX7_oa2 B u (k + 1) (x ||| 0) else LX7_oa2 B u (k + 1) (x ||| (1 <<< ((nI k) &&& 31)))
def fX7_overAll2 (B : wB) : Int32 := LX7_oa2 B (B 1 6).toNatClampNeg 0 0
set_option maxHeartbeats 4000000 in
set_option maxRecDepth 100000 in
theorem kX7_overAll2 (l : Launch) (G : wG) (Z : wZ) (B : wB)  (M4 : Nat) (hM4 : B 1 6 = nI M4) (hM44 : M4 ≤ 4) : mI l yX7_overAll wsX7_overAll rX7_overAll G [.ref (G.2.2.1 12 0), .int 2] (wset Z 12 B) (fX7_overAll2 B) (wset Z 12 B) := by
  refine Met.ofW (cc := cX7_overAll) (maxL := 5) (ret := (some .int)) (by decide) rfl ?_
  intro p e s m args below meth c s₁ B0 hml hv
  obtain ⟨rfl, hW, hK, hL⟩ := hv
  have hlocks := B0.notSynchronized
  have hr := B0.returns
  have hC : wX p s m c cX7_overAll _ wsX7_overAll RX7 G := ⟨B0.exec, B0.bytes, findClass_of_methodNamed B0.named, atoms_spec (ws := wsX7_overAll) B0.pre, hK, hL⟩
  have hx := hC.1
  have hb := hC.2.1
  have hts := hC.2.2.2.1
  have hinRX7 : ∀ w ∈ wsX70, w ∈ wsX7_overAll := by decide +kernel
  have hk0 := hts (.fieldLink RX7 7 "RampShaftsModel" "s" "[I") (by decide +kernel)
  have hS : va_S (wA G) s.heap s.heap [] := va_S.rf
  have hl := lv_entry ([.ref (G.2.2.1 12 0), .int 2]) (n := 5) (Nat.le_of_ble_eq_true rfl)
  rw [lg_entry_eq]
  generalize (lg_sl ([.ref (G.2.2.1 12 0), .int 2]) ++ List.replicate (5 - (lg_sl ([.ref (G.2.2.1 12 0), .int 2])).length) Slot.unset).toArray = ls at hl ⊢
  have hl : lv_has ls 5 [(0, .ref (G.2.2.1 12 0)), (1, .int 2)] := hl
  obtain ⟨R, hR⟩ : ∃ R, R = fX7_overAll2 B := ⟨_, rfl⟩
  rw [← hR]
  unfold fX7_overAll2 at hR
  have hq9 : (B 1 6).toNatClampNeg = M4 := by rw [hM4, nI_clamp (by omega)]
  rw [hq9] at hR
  refine lv_iconst (v := 0) hx hb dX7_overAll_0 (by decide) ?_
  refine lv_istore_n (lv' := [(2, .int 0), (0, .ref (G.2.2.1 12 0)), (1, .int 2)]) hx hb dX7_overAll_1 rfl hl (by decide) rfl (fun ls hl => ?_)
  refine lv_iconst (v := 0) hx hb dX7_overAll_2 (by decide) ?_
  refine lv_istore_n (lv' := [(3, .int 0), (2, .int 0), (0, .ref (G.2.2.1 12 0)), (1, .int 2)]) hx hb dX7_overAll_3 rfl hl (by decide) rfl (fun ls hl => ?_)
  have hlp_1 : ∀ (u : Nat) (k : Nat) (x : Int32), (hk : k + u = M4) → R = LX7_oa2 B u k x → ∀ (H : Heap) (locs : List Loc) (ls : Array Slot), wW G (wset Z 12 B) H → va_S (wA G) s.heap H locs → lv_has ls 5 [(0, .ref (G.2.2.1 12 0)), (1, .int 2), (2, .int x), (3, .int (nI k))] → W p l e (headSpec wsX7_overAll rX7_overAll).room s m ([.ref (G.2.2.1 12 0), .int 2] : List Value).toArray below meth c H locs 0 0 (qI below ([.ref (G.2.2.1 12 0), .int 2] : List Value).toArray s G R (wset Z 12 B)) (F0 m 4 ls []) := by
    intro u
    induction u with
    | zero =>
      intro k x hk hR H locs ls hW hS hl
      have hk4 : k = M4 := by omega
      simp only [LX7_oa2] at hR
      refine lv_iload_n hx hb dX7_overAll_4 rfl (lv_at hl 3 rfl) ?_
      refine lv_aload_n hx hb dX7_overAll_5 rfl (lv_at hl 0 rfl) ?_
      refine wr_get hC hinRX7 hW (vM (by decide)) ce_m0 rfl 0 (by decide) hk0 rfl dX7_overAll_6 ?_
      refine lv_bipush (v := 6) hx hb dX7_overAll_9 (by decide) ?_
      refine wr_ald (kA := 0) hC hW (vM (by decide)) ce_m1 rfl (vp_in_iff.mpr (by decide)) dX7_overAll_11 ?_
      refine lv_re (y := B 1 6) ((congrArg (B 1) (show (6 : Int32).toNatClampNeg = 6 by decide))) ?_
      refine lv_icmp_ge (tgt := 113) hx hb dX7_overAll_12 (by decide) (fun c_2 => ?_) (fun c_2 => ?_)
      · skip
        refine lv_iload_n hx hb dX7_overAll_113 rfl (lv_at hl 2 rfl) ?_
        exact we_i hC hr hlocks (v := x) (hR.symm) rfl hW hS dX7_overAll_114
      · exact absurd (by rw [hM4, nI_leI (by omega) (by omega)]; omega) c_2
    | succ u ih =>
      intro k x hk hR H locs ls hW hS hl
      simp only [LX7_oa2] at hR
      refine lv_iload_n hx hb dX7_overAll_4 rfl (lv_at hl 3 rfl) ?_
      refine lv_aload_n hx hb dX7_overAll_5 rfl (lv_at hl 0 rfl) ?_
      refine wr_get hC hinRX7 hW (vM (by decide)) ce_m0 rfl 0 (by decide) hk0 rfl dX7_overAll_6 ?_
      refine lv_bipush (v := 6) hx hb dX7_overAll_9 (by decide) ?_
      refine wr_ald (kA := 0) hC hW (vM (by decide)) ce_m1 rfl (vp_in_iff.mpr (by decide)) dX7_overAll_11 ?_
      refine lv_re (y := B 1 6) ((congrArg (B 1) (show (6 : Int32).toNatClampNeg = 6 by decide))) ?_
      refine lv_icmp_ge (tgt := 113) hx hb dX7_overAll_12 (by decide) (fun c_3 => ?_) (fun c_3 => ?_)
      · exact absurd c_3 (by rw [hM4, nI_leI (by omega) (by omega)]; omega)
      · skip
        refine lv_iload_n hx hb dX7_overAll_15 rfl (lv_at hl 1 rfl) ?_
        refine lv_iconst (v := 5) hx hb dX7_overAll_16 (by decide) ?_
        refine lv_icmp_eq (tgt := 25) hx hb dX7_overAll_17 (by decide) (fun c_4 => ?_) (fun c_4 => ?_)
        · exact absurd c_4 (by decide)
        · skip
          refine lv_iload_n hx hb dX7_overAll_20 rfl (lv_at hl 1 rfl) ?_
          refine lv_iconst (v := 2) hx hb dX7_overAll_21 (by decide) ?_
          refine lv_icmp_ne (tgt := 94) hx hb dX7_overAll_22 (by decide) (fun c_5 => ?_) (fun c_5 => ?_)
          · exact absurd c_5 (by decide)
          · skip
            refine lv_iload_n hx hb dX7_overAll_25 rfl (lv_at hl 1 rfl) ?_
            refine lv_iconst (v := 5) hx hb dX7_overAll_26 (by decide) ?_
            refine lv_icmp_ne (tgt := 46) hx hb dX7_overAll_27 (by decide) (fun c_6 => ?_) (fun c_6 => ?_)
            · skip
              refine lv_aload_n hx hb dX7_overAll_46 rfl (lv_at hl 0 rfl) ?_
              refine wr_get hC hinRX7 hW (vM (by decide)) ce_m0 rfl 0 (by decide) hk0 rfl dX7_overAll_47 ?_
              refine lv_iload_n hx hb dX7_overAll_50 rfl (lv_at hl 3 rfl) ?_
              refine lv_iconst (v := 2) hx hb dX7_overAll_51 (by decide) ?_
              refine wc_s hC hml (kX7_at l G (wset Z 12 B) k 2) (cwS 2 hts gX7_overAll_X7_at rfl rfl rfl (by decide +kernel) ⟨Nat.le_of_ble_eq_true rfl, Nat.le_of_ble_eq_true rfl⟩) hW hS rfl rfl hl.1 (Nat.le_of_ble_eq_true rfl) dX7_overAll_52 (fun H locs hW hS => ?_)
              refine lv_re (y := nI (7 + 14 * k + 2)) rfl ?_
              refine wr_ald (kA := 0) hC hW (vM (by decide)) ce_m1 rfl (vp_in_nI (show (7 + 14 * k + 2) < 100 by omega) (by decide)) dX7_overAll_55 ?_
              refine lv_re (y := B 1 (7 + 14 * k + 2)) ((congrArg (B 1) (nI_clamp (by omega)))) ?_
              refine lv_aload_n hx hb dX7_overAll_56 rfl (lv_at hl 0 rfl) ?_
              refine wr_get hC hinRX7 hW (vM (by decide)) ce_m0 rfl 0 (by decide) hk0 rfl dX7_overAll_57 ?_
              refine lv_iload_n hx hb dX7_overAll_60 rfl (lv_at hl 3 rfl) ?_
              refine lv_iconst (v := 3) hx hb dX7_overAll_61 (by decide) ?_
              refine wc_s hC hml (kX7_at l G (wset Z 12 B) k 3) (cwS 2 hts gX7_overAll_X7_at rfl rfl rfl (by decide +kernel) ⟨Nat.le_of_ble_eq_true rfl, Nat.le_of_ble_eq_true rfl⟩) hW hS rfl rfl hl.1 (Nat.le_of_ble_eq_true rfl) dX7_overAll_62 (fun H locs hW hS => ?_)
              refine lv_re (y := nI (7 + 14 * k + 3)) rfl ?_
              refine wr_ald (kA := 0) hC hW (vM (by decide)) ce_m1 rfl (vp_in_nI (show (7 + 14 * k + 3) < 100 by omega) (by decide)) dX7_overAll_65 ?_
              refine lv_re (y := B 1 (7 + 14 * k + 3)) ((congrArg (B 1) (nI_clamp (by omega)))) ?_
              refine lv_icmp_eq (tgt := 73) hx hb dX7_overAll_66 (by decide) (fun c_7 => ?_) (fun c_7 => ?_)
              · skip
                try rw [if_pos c_7] at hR
                refine lv_iconst (v := 0) hx hb dX7_overAll_73 (by decide) ?_
                refine lv_istore (lv' := [(4, .int 0), (0, .ref (G.2.2.1 12 0)), (1, .int 2), (2, .int x), (3, .int (nI k))]) hx hb dX7_overAll_74 hl (by decide) rfl (fun ls hl => ?_)
                refine lv_iload_n hx hb dX7_overAll_76 rfl (lv_at hl 3 rfl) ?_
                refine lv_iload hx hb dX7_overAll_77 (lv_at hl 0 rfl) ?_
                refine lv_if_eq (tgt := 88) hx hb dX7_overAll_79 (by decide) (fun c_8 => ?_) (fun c_8 => ?_)
                · skip
                  refine lv_iconst (v := 0) hx hb dX7_overAll_88 (by decide) ?_
                  refine lv_ior hx hb dX7_overAll_89 ?_
                  refine lv_topi (fun x_9 ex_9 => ?_)
                  try rw [← ex_9] at hR
                  refine lv_istore_n (lv' := [(2, .int x_9), (4, .int 0), (0, .ref (G.2.2.1 12 0)), (1, .int 2), (3, .int (nI k))]) hx hb dX7_overAll_90 rfl hl (by decide) rfl (fun ls hl => ?_)
                  refine lv_goto (tgt := 107) hx hb dX7_overAll_91 (by decide) ?_
                  refine lv_iinc (v := nI (k + 1)) (lv' := [(3, .int (nI (k + 1))), (2, .int x_9), (4, .int 0), (0, .ref (G.2.2.1 12 0)), (1, .int 2)]) hx hb dX7_overAll_107 hl (k := 4) rfl (nI_1 _) (by decide) rfl (fun ls hl => ?_)
                  refine lv_goto (tgt := 4) hx hb dX7_overAll_110 (by decide) ?_
                  exact ih (k + 1) x_9 (by omega) hR _ _ _ hW hS (lv_sub hl [3, 4, 1, 0] rfl)
                · exact absurd c_8 (by decide)
              · skip
                try rw [if_neg c_7] at hR
                refine lv_iconst (v := 1) hx hb dX7_overAll_69 (by decide) ?_
                refine lv_goto (tgt := 74) hx hb dX7_overAll_70 (by decide) ?_
                refine lv_istore (lv' := [(4, .int 1), (0, .ref (G.2.2.1 12 0)), (1, .int 2), (2, .int x), (3, .int (nI k))]) hx hb dX7_overAll_74 hl (by decide) rfl (fun ls hl => ?_)
                refine lv_iload_n hx hb dX7_overAll_76 rfl (lv_at hl 3 rfl) ?_
                refine lv_iload hx hb dX7_overAll_77 (lv_at hl 0 rfl) ?_
                refine lv_if_eq (tgt := 88) hx hb dX7_overAll_79 (by decide) (fun c_10 => ?_) (fun c_10 => ?_)
                · exact absurd c_10 (by decide)
                · skip
                  refine lv_iconst (v := 1) hx hb dX7_overAll_82 (by decide) ?_
                  refine lv_iload_n hx hb dX7_overAll_83 rfl (lv_at hl 4 rfl) ?_
                  refine lv_ishl hx hb dX7_overAll_84 ?_
                  refine lv_goto (tgt := 89) hx hb dX7_overAll_85 (by decide) ?_
                  refine lv_ior hx hb dX7_overAll_89 ?_
                  refine lv_topi (fun x_11 ex_11 => ?_)
                  try rw [← ex_11] at hR
                  refine lv_istore_n (lv' := [(2, .int x_11), (4, .int 1), (0, .ref (G.2.2.1 12 0)), (1, .int 2), (3, .int (nI k))]) hx hb dX7_overAll_90 rfl hl (by decide) rfl (fun ls hl => ?_)
                  refine lv_goto (tgt := 107) hx hb dX7_overAll_91 (by decide) ?_
                  refine lv_iinc (v := nI (k + 1)) (lv' := [(3, .int (nI (k + 1))), (2, .int x_11), (4, .int 1), (0, .ref (G.2.2.1 12 0)), (1, .int 2)]) hx hb dX7_overAll_107 hl (k := 4) rfl (nI_1 _) (by decide) rfl (fun ls hl => ?_)
                  refine lv_goto (tgt := 4) hx hb dX7_overAll_110 (by decide) ?_
                  exact ih (k + 1) x_11 (by omega) hR _ _ _ hW hS (lv_sub hl [3, 4, 1, 0] rfl)
            · exact absurd c_6 (by decide)
  exact hlp_1 M4 0 0 (Nat.zero_add _) hR _ _ _ hW hS (lv_sub hl [2, 3, 1, 0] rfl)
def LX7_oa12 (B : wB) : Nat → Nat → Int32 → Int32
  | 0, _, x => x
  | u + 1, k, x => LX7_oa12 B u (k + 1) (x + B 1 (7 + 14 * k + 12))
def fX7_overAll12 (B : wB) : Int32 := LX7_oa12 B (B 1 6).toNatClampNeg 0 0
set_option maxHeartbeats 4000000 in
set_option maxRecDepth 100000 in
theorem kX7_overAll12 (l : Launch) (G : wG) (Z : wZ) (B : wB)  (M4 : Nat) (hM4 : B 1 6 = nI M4) (hM44 : M4 ≤ 4) : mI l yX7_overAll wsX7_overAll rX7_overAll G [.ref (G.2.2.1 12 0), .int 12] (wset Z 12 B) (fX7_overAll12 B) (wset Z 12 B) := by
  refine Met.ofW (cc := cX7_overAll) (maxL := 5) (ret := (some .int)) (by decide) rfl ?_
  intro p e s m args below meth c s₁ B0 hml hv
  obtain ⟨rfl, hW, hK, hL⟩ := hv
  have hlocks := B0.notSynchronized
  have hr := B0.returns
  have hC : wX p s m c cX7_overAll _ wsX7_overAll RX7 G := ⟨B0.exec, B0.bytes, findClass_of_methodNamed B0.named, atoms_spec (ws := wsX7_overAll) B0.pre, hK, hL⟩
  have hx := hC.1
  have hb := hC.2.1
  have hts := hC.2.2.2.1
  have hinRX7 : ∀ w ∈ wsX70, w ∈ wsX7_overAll := by decide +kernel
  have hk0 := hts (.fieldLink RX7 7 "RampShaftsModel" "s" "[I") (by decide +kernel)
  have hS : va_S (wA G) s.heap s.heap [] := va_S.rf
  have hl := lv_entry ([.ref (G.2.2.1 12 0), .int 12]) (n := 5) (Nat.le_of_ble_eq_true rfl)
  rw [lg_entry_eq]
  generalize (lg_sl ([.ref (G.2.2.1 12 0), .int 12]) ++ List.replicate (5 - (lg_sl ([.ref (G.2.2.1 12 0), .int 12])).length) Slot.unset).toArray = ls at hl ⊢
  have hl : lv_has ls 5 [(0, .ref (G.2.2.1 12 0)), (1, .int 12)] := hl
  obtain ⟨R, hR⟩ : ∃ R, R = fX7_overAll12 B := ⟨_, rfl⟩
  rw [← hR]
  unfold fX7_overAll12 at hR
  have hq9 : (B 1 6).toNatClampNeg = M4 := by rw [hM4, nI_clamp (by omega)]
  rw [hq9] at hR
  refine lv_iconst (v := 0) hx hb dX7_overAll_0 (by decide) ?_
  refine lv_istore_n (lv' := [(2, .int 0), (0, .ref (G.2.2.1 12 0)), (1, .int 12)]) hx hb dX7_overAll_1 rfl hl (by decide) rfl (fun ls hl => ?_)
  refine lv_iconst (v := 0) hx hb dX7_overAll_2 (by decide) ?_
  refine lv_istore_n (lv' := [(3, .int 0), (2, .int 0), (0, .ref (G.2.2.1 12 0)), (1, .int 12)]) hx hb dX7_overAll_3 rfl hl (by decide) rfl (fun ls hl => ?_)
  have hlp_1 : ∀ (u : Nat) (k : Nat) (x : Int32), (hk : k + u = M4) → R = LX7_oa12 B u k x → ∀ (H : Heap) (locs : List Loc) (ls : Array Slot), wW G (wset Z 12 B) H → va_S (wA G) s.heap H locs → lv_has ls 5 [(0, .ref (G.2.2.1 12 0)), (1, .int 12), (2, .int x), (3, .int (nI k))] → W p l e (headSpec wsX7_overAll rX7_overAll).room s m ([.ref (G.2.2.1 12 0), .int 12] : List Value).toArray below meth c H locs 0 0 (qI below ([.ref (G.2.2.1 12 0), .int 12] : List Value).toArray s G R (wset Z 12 B)) (F0 m 4 ls []) := by
    intro u
    induction u with
    | zero =>
      intro k x hk hR H locs ls hW hS hl
      have hk4 : k = M4 := by omega
      simp only [LX7_oa12] at hR
      refine lv_iload_n hx hb dX7_overAll_4 rfl (lv_at hl 3 rfl) ?_
      refine lv_aload_n hx hb dX7_overAll_5 rfl (lv_at hl 0 rfl) ?_
      refine wr_get hC hinRX7 hW (vM (by decide)) ce_m0 rfl 0 (by decide) hk0 rfl dX7_overAll_6 ?_
      refine lv_bipush (v := 6) hx hb dX7_overAll_9 (by decide) ?_
      refine wr_ald (kA := 0) hC hW (vM (by decide)) ce_m1 rfl (vp_in_iff.mpr (by decide)) dX7_overAll_11 ?_
      refine lv_re (y := B 1 6) ((congrArg (B 1) (show (6 : Int32).toNatClampNeg = 6 by decide))) ?_
      refine lv_icmp_ge (tgt := 113) hx hb dX7_overAll_12 (by decide) (fun c_2 => ?_) (fun c_2 => ?_)
      · skip
        refine lv_iload_n hx hb dX7_overAll_113 rfl (lv_at hl 2 rfl) ?_
        exact we_i hC hr hlocks (v := x) (hR.symm) rfl hW hS dX7_overAll_114
      · exact absurd (by rw [hM4, nI_leI (by omega) (by omega)]; omega) c_2
    | succ u ih =>
      intro k x hk hR H locs ls hW hS hl
      simp only [LX7_oa12] at hR
      refine lv_iload_n hx hb dX7_overAll_4 rfl (lv_at hl 3 rfl) ?_
      refine lv_aload_n hx hb dX7_overAll_5 rfl (lv_at hl 0 rfl) ?_
      refine wr_get hC hinRX7 hW (vM (by decide)) ce_m0 rfl 0 (by decide) hk0 rfl dX7_overAll_6 ?_
      refine lv_bipush (v := 6) hx hb dX7_overAll_9 (by decide) ?_
      refine wr_ald (kA := 0) hC hW (vM (by decide)) ce_m1 rfl (vp_in_iff.mpr (by decide)) dX7_overAll_11 ?_
      refine lv_re (y := B 1 6) ((congrArg (B 1) (show (6 : Int32).toNatClampNeg = 6 by decide))) ?_
      refine lv_icmp_ge (tgt := 113) hx hb dX7_overAll_12 (by decide) (fun c_3 => ?_) (fun c_3 => ?_)
      · exact absurd c_3 (by rw [hM4, nI_leI (by omega) (by omega)]; omega)
      · skip
        refine lv_iload_n hx hb dX7_overAll_15 rfl (lv_at hl 1 rfl) ?_
        refine lv_iconst (v := 5) hx hb dX7_overAll_16 (by decide) ?_
        refine lv_icmp_eq (tgt := 25) hx hb dX7_overAll_17 (by decide) (fun c_4 => ?_) (fun c_4 => ?_)
        · exact absurd c_4 (by decide)
        · skip
          refine lv_iload_n hx hb dX7_overAll_20 rfl (lv_at hl 1 rfl) ?_
          refine lv_iconst (v := 2) hx hb dX7_overAll_21 (by decide) ?_
          refine lv_icmp_ne (tgt := 94) hx hb dX7_overAll_22 (by decide) (fun c_5 => ?_) (fun c_5 => ?_)
          · skip
            refine lv_iload_n hx hb dX7_overAll_94 rfl (lv_at hl 2 rfl) ?_
            refine lv_aload_n hx hb dX7_overAll_95 rfl (lv_at hl 0 rfl) ?_
            refine wr_get hC hinRX7 hW (vM (by decide)) ce_m0 rfl 0 (by decide) hk0 rfl dX7_overAll_96 ?_
            refine lv_iload_n hx hb dX7_overAll_99 rfl (lv_at hl 3 rfl) ?_
            refine lv_iload_n hx hb dX7_overAll_100 rfl (lv_at hl 1 rfl) ?_
            refine wc_s hC hml (kX7_at l G (wset Z 12 B) k 12) (cwS 2 hts gX7_overAll_X7_at rfl rfl rfl (by decide +kernel) ⟨Nat.le_of_ble_eq_true rfl, Nat.le_of_ble_eq_true rfl⟩) hW hS rfl rfl hl.1 (Nat.le_of_ble_eq_true rfl) dX7_overAll_101 (fun H locs hW hS => ?_)
            refine lv_re (y := nI (7 + 14 * k + 12)) rfl ?_
            refine wr_ald (kA := 0) hC hW (vM (by decide)) ce_m1 rfl (vp_in_nI (show (7 + 14 * k + 12) < 100 by omega) (by decide)) dX7_overAll_104 ?_
            refine lv_re (y := B 1 (7 + 14 * k + 12)) ((congrArg (B 1) (nI_clamp (by omega)))) ?_
            refine lv_iadd hx hb dX7_overAll_105 ?_
            refine lv_topi (fun x_6 ex_6 => ?_)
            try rw [← ex_6] at hR
            refine lv_istore_n (lv' := [(2, .int x_6), (0, .ref (G.2.2.1 12 0)), (1, .int 12), (3, .int (nI k))]) hx hb dX7_overAll_106 rfl hl (by decide) rfl (fun ls hl => ?_)
            refine lv_iinc (v := nI (k + 1)) (lv' := [(3, .int (nI (k + 1))), (2, .int x_6), (0, .ref (G.2.2.1 12 0)), (1, .int 12)]) hx hb dX7_overAll_107 hl (k := 3) rfl (nI_1 _) (by decide) rfl (fun ls hl => ?_)
            refine lv_goto (tgt := 4) hx hb dX7_overAll_110 (by decide) ?_
            exact ih (k + 1) x_6 (by omega) hR _ _ _ hW hS (lv_sub hl [2, 3, 1, 0] rfl)
          · exact absurd c_5 (by decide)
  exact hlp_1 M4 0 0 (Nat.zero_add _) hR _ _ _ hW hS (lv_sub hl [2, 3, 1, 0] rfl)
def LX7_oa13 (B : wB) : Nat → Nat → Int32 → Int32
  | 0, _, x => x
  | u + 1, k, x => LX7_oa13 B u (k + 1) (x + B 1 (7 + 14 * k + 13))
def fX7_overAll13 (B : wB) : Int32 := LX7_oa13 B (B 1 6).toNatClampNeg 0 0
set_option maxHeartbeats 4000000 in
set_option maxRecDepth 100000 in
theorem kX7_overAll13 (l : Launch) (G : wG) (Z : wZ) (B : wB)  (M4 : Nat) (hM4 : B 1 6 = nI M4) (hM44 : M4 ≤ 4) : mI l yX7_overAll wsX7_overAll rX7_overAll G [.ref (G.2.2.1 12 0), .int 13] (wset Z 12 B) (fX7_overAll13 B) (wset Z 12 B) := by
  refine Met.ofW (cc := cX7_overAll) (maxL := 5) (ret := (some .int)) (by decide) rfl ?_
  intro p e s m args below meth c s₁ B0 hml hv
  obtain ⟨rfl, hW, hK, hL⟩ := hv
  have hlocks := B0.notSynchronized
  have hr := B0.returns
  have hC : wX p s m c cX7_overAll _ wsX7_overAll RX7 G := ⟨B0.exec, B0.bytes, findClass_of_methodNamed B0.named, atoms_spec (ws := wsX7_overAll) B0.pre, hK, hL⟩
  have hx := hC.1
  have hb := hC.2.1
  have hts := hC.2.2.2.1
  have hinRX7 : ∀ w ∈ wsX70, w ∈ wsX7_overAll := by decide +kernel
  have hk0 := hts (.fieldLink RX7 7 "RampShaftsModel" "s" "[I") (by decide +kernel)
  have hS : va_S (wA G) s.heap s.heap [] := va_S.rf
  have hl := lv_entry ([.ref (G.2.2.1 12 0), .int 13]) (n := 5) (Nat.le_of_ble_eq_true rfl)
  rw [lg_entry_eq]
  generalize (lg_sl ([.ref (G.2.2.1 12 0), .int 13]) ++ List.replicate (5 - (lg_sl ([.ref (G.2.2.1 12 0), .int 13])).length) Slot.unset).toArray = ls at hl ⊢
  have hl : lv_has ls 5 [(0, .ref (G.2.2.1 12 0)), (1, .int 13)] := hl
  obtain ⟨R, hR⟩ : ∃ R, R = fX7_overAll13 B := ⟨_, rfl⟩
  rw [← hR]
  unfold fX7_overAll13 at hR
  have hq9 : (B 1 6).toNatClampNeg = M4 := by rw [hM4, nI_clamp (by omega)]
  rw [hq9] at hR
  refine lv_iconst (v := 0) hx hb dX7_overAll_0 (by decide) ?_
  refine lv_istore_n (lv' := [(2, .int 0), (0, .ref (G.2.2.1 12 0)), (1, .int 13)]) hx hb dX7_overAll_1 rfl hl (by decide) rfl (fun ls hl => ?_)
  refine lv_iconst (v := 0) hx hb dX7_overAll_2 (by decide) ?_
  refine lv_istore_n (lv' := [(3, .int 0), (2, .int 0), (0, .ref (G.2.2.1 12 0)), (1, .int 13)]) hx hb dX7_overAll_3 rfl hl (by decide) rfl (fun ls hl => ?_)
  have hlp_1 : ∀ (u : Nat) (k : Nat) (x : Int32), (hk : k + u = M4) → R = LX7_oa13 B u k x → ∀ (H : Heap) (locs : List Loc) (ls : Array Slot), wW G (wset Z 12 B) H → va_S (wA G) s.heap H locs → lv_has ls 5 [(0, .ref (G.2.2.1 12 0)), (1, .int 13), (2, .int x), (3, .int (nI k))] → W p l e (headSpec wsX7_overAll rX7_overAll).room s m ([.ref (G.2.2.1 12 0), .int 13] : List Value).toArray below meth c H locs 0 0 (qI below ([.ref (G.2.2.1 12 0), .int 13] : List Value).toArray s G R (wset Z 12 B)) (F0 m 4 ls []) := by
    intro u
    induction u with
    | zero =>
      intro k x hk hR H locs ls hW hS hl
      have hk4 : k = M4 := by omega
      simp only [LX7_oa13] at hR
      refine lv_iload_n hx hb dX7_overAll_4 rfl (lv_at hl 3 rfl) ?_
      refine lv_aload_n hx hb dX7_overAll_5 rfl (lv_at hl 0 rfl) ?_
      refine wr_get hC hinRX7 hW (vM (by decide)) ce_m0 rfl 0 (by decide) hk0 rfl dX7_overAll_6 ?_
      refine lv_bipush (v := 6) hx hb dX7_overAll_9 (by decide) ?_
      refine wr_ald (kA := 0) hC hW (vM (by decide)) ce_m1 rfl (vp_in_iff.mpr (by decide)) dX7_overAll_11 ?_
      refine lv_re (y := B 1 6) ((congrArg (B 1) (show (6 : Int32).toNatClampNeg = 6 by decide))) ?_
      refine lv_icmp_ge (tgt := 113) hx hb dX7_overAll_12 (by decide) (fun c_2 => ?_) (fun c_2 => ?_)
      · skip
        refine lv_iload_n hx hb dX7_overAll_113 rfl (lv_at hl 2 rfl) ?_
        exact we_i hC hr hlocks (v := x) (hR.symm) rfl hW hS dX7_overAll_114
      · exact absurd (by rw [hM4, nI_leI (by omega) (by omega)]; omega) c_2
    | succ u ih =>
      intro k x hk hR H locs ls hW hS hl
      simp only [LX7_oa13] at hR
      refine lv_iload_n hx hb dX7_overAll_4 rfl (lv_at hl 3 rfl) ?_
      refine lv_aload_n hx hb dX7_overAll_5 rfl (lv_at hl 0 rfl) ?_
      refine wr_get hC hinRX7 hW (vM (by decide)) ce_m0 rfl 0 (by decide) hk0 rfl dX7_overAll_6 ?_
      refine lv_bipush (v := 6) hx hb dX7_overAll_9 (by decide) ?_
      refine wr_ald (kA := 0) hC hW (vM (by decide)) ce_m1 rfl (vp_in_iff.mpr (by decide)) dX7_overAll_11 ?_
      refine lv_re (y := B 1 6) ((congrArg (B 1) (show (6 : Int32).toNatClampNeg = 6 by decide))) ?_
      refine lv_icmp_ge (tgt := 113) hx hb dX7_overAll_12 (by decide) (fun c_3 => ?_) (fun c_3 => ?_)
      · exact absurd c_3 (by rw [hM4, nI_leI (by omega) (by omega)]; omega)
      · skip
        refine lv_iload_n hx hb dX7_overAll_15 rfl (lv_at hl 1 rfl) ?_
        refine lv_iconst (v := 5) hx hb dX7_overAll_16 (by decide) ?_
        refine lv_icmp_eq (tgt := 25) hx hb dX7_overAll_17 (by decide) (fun c_4 => ?_) (fun c_4 => ?_)
        · exact absurd c_4 (by decide)
        · skip
          refine lv_iload_n hx hb dX7_overAll_20 rfl (lv_at hl 1 rfl) ?_
          refine lv_iconst (v := 2) hx hb dX7_overAll_21 (by decide) ?_
          refine lv_icmp_ne (tgt := 94) hx hb dX7_overAll_22 (by decide) (fun c_5 => ?_) (fun c_5 => ?_)
          · skip
            refine lv_iload_n hx hb dX7_overAll_94 rfl (lv_at hl 2 rfl) ?_
            refine lv_aload_n hx hb dX7_overAll_95 rfl (lv_at hl 0 rfl) ?_
            refine wr_get hC hinRX7 hW (vM (by decide)) ce_m0 rfl 0 (by decide) hk0 rfl dX7_overAll_96 ?_
            refine lv_iload_n hx hb dX7_overAll_99 rfl (lv_at hl 3 rfl) ?_
            refine lv_iload_n hx hb dX7_overAll_100 rfl (lv_at hl 1 rfl) ?_
            refine wc_s hC hml (kX7_at l G (wset Z 12 B) k 13) (cwS 2 hts gX7_overAll_X7_at rfl rfl rfl (by decide +kernel) ⟨Nat.le_of_ble_eq_true rfl, Nat.le_of_ble_eq_true rfl⟩) hW hS rfl rfl hl.1 (Nat.le_of_ble_eq_true rfl) dX7_overAll_101 (fun H locs hW hS => ?_)
            refine lv_re (y := nI (7 + 14 * k + 13)) rfl ?_
            refine wr_ald (kA := 0) hC hW (vM (by decide)) ce_m1 rfl (vp_in_nI (show (7 + 14 * k + 13) < 100 by omega) (by decide)) dX7_overAll_104 ?_
            refine lv_re (y := B 1 (7 + 14 * k + 13)) ((congrArg (B 1) (nI_clamp (by omega)))) ?_
            refine lv_iadd hx hb dX7_overAll_105 ?_
            refine lv_topi (fun x_6 ex_6 => ?_)
            try rw [← ex_6] at hR
            refine lv_istore_n (lv' := [(2, .int x_6), (0, .ref (G.2.2.1 12 0)), (1, .int 13), (3, .int (nI k))]) hx hb dX7_overAll_106 rfl hl (by decide) rfl (fun ls hl => ?_)
            refine lv_iinc (v := nI (k + 1)) (lv' := [(3, .int (nI (k + 1))), (2, .int x_6), (0, .ref (G.2.2.1 12 0)), (1, .int 13)]) hx hb dX7_overAll_107 hl (k := 3) rfl (nI_1 _) (by decide) rfl (fun ls hl => ?_)
            refine lv_goto (tgt := 4) hx hb dX7_overAll_110 (by decide) ?_
            exact ih (k + 1) x_6 (by omega) hR _ _ _ hW hS (lv_sub hl [2, 3, 1, 0] rfl)
          · exact absurd c_5 (by decide)
  exact hlp_1 M4 0 0 (Nat.zero_add _) hR _ _ _ hW hS (lv_sub hl [2, 3, 1, 0] rfl)
def fX7_count (B : wB) (a1 : Int32) : Int32 :=
  if a1 = 0 then B 1 5
  else if a1 = 1 then B 1 6
  else if a1 = 2 then (let x_4 := fX7_overAll5 B
    x_4)
  else if a1 = 3 then (let x_6 := fX7_overAll2 B
    x_6)
  else if a1 = 4 then B 1 63
  else if a1 = 5 then (let x_9 := fX7_overAll12 B
    x_9)
  else if a1 = 6 then (let x_11 := fX7_overAll13 B
    x_11)
  else if a1 = 7 then (let x_13 := fX7_highestBy B (B 1 2)
    x_13)
  else if a1 = 8 then B 1 0
  else if a1 = 9 then B 1 1
  else if a1 = 10 then B 1 2
  else if a1 = 11 then B 1 3
  else if a1 = 12 then B 1 4
  else if a1 = 13 then B 0 1
  else if a1 = 14 then B 0 0
  else (-2)
abbrev rX7_count : Room := { frames := 3, cells := 0, slots := 0, locals := 66 }
set_option maxHeartbeats 4000000 in
set_option maxRecDepth 100000 in
theorem kX7_count (l : Launch) (G : wG) (Z : wZ) (B : wB) (a1 : Int32) (M4 : Nat) (hM4 : B 1 6 = nI M4) (hM44 : M4 ≤ 4) (hg : ¬ B 1 2 = 0) : mI l yX7_count wsX7_count rX7_count G [.ref (G.2.2.1 12 0), .int a1] (wset Z 12 B) (fX7_count B a1) (wset Z 12 B) := by
  refine Met.ofW (cc := cX7_count) (maxL := 2) (ret := (some .int)) (by decide) rfl ?_
  intro p e s m args below meth c s₁ B0 hml hv
  obtain ⟨rfl, hW, hK, hL⟩ := hv
  have hlocks := B0.notSynchronized
  have hr := B0.returns
  have hC : wX p s m c cX7_count _ wsX7_count RX7 G := ⟨B0.exec, B0.bytes, findClass_of_methodNamed B0.named, atoms_spec (ws := wsX7_count) B0.pre, hK, hL⟩
  have hx := hC.1
  have hb := hC.2.1
  have hts := hC.2.2.2.1
  have hinRX7 : ∀ w ∈ wsX70, w ∈ wsX7_count := by decide +kernel
  have hk0 := hts (.fieldLink RX7 7 "RampShaftsModel" "s" "[I") (by decide +kernel)
  have hk1 := hts (.fieldLink RX7 149 "RampShaftsModel" "length" "I") (by decide +kernel)
  have hk2 := hts (.fieldLink RX7 41 "RampShaftsModel" "known" "I") (by decide +kernel)
  have hS : va_S (wA G) s.heap s.heap [] := va_S.rf
  have hl := lv_entry ([.ref (G.2.2.1 12 0), .int a1]) (n := 2) (Nat.le_of_ble_eq_true rfl)
  rw [lg_entry_eq]
  generalize (lg_sl ([.ref (G.2.2.1 12 0), .int a1]) ++ List.replicate (2 - (lg_sl ([.ref (G.2.2.1 12 0), .int a1])).length) Slot.unset).toArray = ls at hl ⊢
  have hl : lv_has ls 2 [(0, .ref (G.2.2.1 12 0)), (1, .int a1)] := hl
  refine lv_iload_n hx hb dX7_count_0 rfl (lv_at hl 1 rfl) ?_
  by_cases c_1 : a1 = 0
  · refine lv_re c_1 ?_
    refine lv_tableIn (tgt := 76) (off := 75) hx hb dX7_count_1 (by decide) (by decide) (by decide) (by decide) ?_
    refine lv_aload_n hx hb dX7_count_76 rfl (lv_at hl 0 rfl) ?_
    refine wr_get hC hinRX7 hW (vM (by decide)) ce_m0 rfl 0 (by decide) hk0 rfl dX7_count_77 ?_
    refine lv_iconst (v := 5) hx hb dX7_count_80 (by decide) ?_
    refine wr_ald (kA := 0) hC hW (vM (by decide)) ce_m1 rfl (vp_in_iff.mpr (by decide)) dX7_count_81 ?_
    refine lv_re (y := B 1 5) ((congrArg (B 1) (show (5 : Int32).toNatClampNeg = 5 by decide))) ?_
    have hf : fX7_count B a1 = B 1 5 := (if_pos c_1).trans rfl
    exact we_i hC hr hlocks hf.symm rfl hW hS dX7_count_82
  by_cases c_2 : a1 = 1
  · refine lv_re c_2 ?_
    refine lv_tableIn (tgt := 83) (off := 82) hx hb dX7_count_1 (by decide) (by decide) (by decide) (by decide) ?_
    refine lv_aload_n hx hb dX7_count_83 rfl (lv_at hl 0 rfl) ?_
    refine wr_get hC hinRX7 hW (vM (by decide)) ce_m0 rfl 0 (by decide) hk0 rfl dX7_count_84 ?_
    refine lv_bipush (v := 6) hx hb dX7_count_87 (by decide) ?_
    refine wr_ald (kA := 0) hC hW (vM (by decide)) ce_m1 rfl (vp_in_iff.mpr (by decide)) dX7_count_89 ?_
    refine lv_re (y := B 1 6) ((congrArg (B 1) (show (6 : Int32).toNatClampNeg = 6 by decide))) ?_
    have hf : fX7_count B a1 = B 1 6 := (if_neg c_1).trans ((if_pos c_2).trans rfl)
    exact we_i hC hr hlocks hf.symm rfl hW hS dX7_count_90
  by_cases c_3 : a1 = 2
  · refine lv_re c_3 ?_
    refine lv_tableIn (tgt := 91) (off := 90) hx hb dX7_count_1 (by decide) (by decide) (by decide) (by decide) ?_
    refine lv_aload_n hx hb dX7_count_91 rfl (lv_at hl 0 rfl) ?_
    refine lv_iconst (v := 5) hx hb dX7_count_92 (by decide) ?_
    refine wc_i hC hml (kX7_overAll5 l G Z B M4 hM4 hM44) (cwV 1 hts gX7_count_X7_overAll rfl rfl rfl (by decide +kernel) ⟨Nat.le_of_ble_eq_true rfl, Nat.le_of_ble_eq_true rfl⟩) hW hS (vM (by decide)) ce_m0 rfl rfl rfl rfl hl.1 (Nat.le_of_ble_eq_true rfl) dX7_count_93 (fun H locs hW hS => ?_)
    refine lv_topi (fun x_4 ex_4 => ?_)
    have hf : fX7_count B a1 = x_4 := by
      subst ex_4
      exact (if_neg c_1).trans ((if_neg c_2).trans ((if_pos c_3).trans rfl))
    exact we_i hC hr hlocks hf.symm rfl hW hS dX7_count_96
  by_cases c_5 : a1 = 3
  · refine lv_re c_5 ?_
    refine lv_tableIn (tgt := 97) (off := 96) hx hb dX7_count_1 (by decide) (by decide) (by decide) (by decide) ?_
    refine lv_aload_n hx hb dX7_count_97 rfl (lv_at hl 0 rfl) ?_
    refine lv_iconst (v := 2) hx hb dX7_count_98 (by decide) ?_
    refine wc_i hC hml (kX7_overAll2 l G Z B M4 hM4 hM44) (cwV 1 hts gX7_count_X7_overAll rfl rfl rfl (by decide +kernel) ⟨Nat.le_of_ble_eq_true rfl, Nat.le_of_ble_eq_true rfl⟩) hW hS (vM (by decide)) ce_m0 rfl rfl rfl rfl hl.1 (Nat.le_of_ble_eq_true rfl) dX7_count_99 (fun H locs hW hS => ?_)
    refine lv_topi (fun x_6 ex_6 => ?_)
    have hf : fX7_count B a1 = x_6 := by
      subst ex_6
      exact (if_neg c_1).trans ((if_neg c_2).trans ((if_neg c_3).trans ((if_pos c_5).trans rfl)))
    exact we_i hC hr hlocks hf.symm rfl hW hS dX7_count_102
  by_cases c_7 : a1 = 4
  · refine lv_re c_7 ?_
    refine lv_tableIn (tgt := 103) (off := 102) hx hb dX7_count_1 (by decide) (by decide) (by decide) (by decide) ?_
    refine lv_aload_n hx hb dX7_count_103 rfl (lv_at hl 0 rfl) ?_
    refine wr_get hC hinRX7 hW (vM (by decide)) ce_m0 rfl 0 (by decide) hk0 rfl dX7_count_104 ?_
    refine lv_bipush (v := 63) hx hb dX7_count_107 (by decide) ?_
    refine wr_ald (kA := 0) hC hW (vM (by decide)) ce_m1 rfl (vp_in_iff.mpr (by decide)) dX7_count_109 ?_
    refine lv_re (y := B 1 63) ((congrArg (B 1) (show (63 : Int32).toNatClampNeg = 63 by decide))) ?_
    have hf : fX7_count B a1 = B 1 63 := (if_neg c_1).trans ((if_neg c_2).trans ((if_neg c_3).trans ((if_neg c_5).trans ((if_pos c_7).trans rfl))))
    exact we_i hC hr hlocks hf.symm rfl hW hS dX7_count_110
  by_cases c_8 : a1 = 5
  · refine lv_re c_8 ?_
    refine lv_tableIn (tgt := 111) (off := 110) hx hb dX7_count_1 (by decide) (by decide) (by decide) (by decide) ?_
    refine lv_aload_n hx hb dX7_count_111 rfl (lv_at hl 0 rfl) ?_
    refine lv_bipush (v := 12) hx hb dX7_count_112 (by decide) ?_
    refine wc_i hC hml (kX7_overAll12 l G Z B M4 hM4 hM44) (cwV 1 hts gX7_count_X7_overAll rfl rfl rfl (by decide +kernel) ⟨Nat.le_of_ble_eq_true rfl, Nat.le_of_ble_eq_true rfl⟩) hW hS (vM (by decide)) ce_m0 rfl rfl rfl rfl hl.1 (Nat.le_of_ble_eq_true rfl) dX7_count_114 (fun H locs hW hS => ?_)
    refine lv_topi (fun x_9 ex_9 => ?_)
    have hf : fX7_count B a1 = x_9 := by
      subst ex_9
      exact (if_neg c_1).trans ((if_neg c_2).trans ((if_neg c_3).trans ((if_neg c_5).trans ((if_neg c_7).trans ((if_pos c_8).trans rfl)))))
    exact we_i hC hr hlocks hf.symm rfl hW hS dX7_count_117
  by_cases c_10 : a1 = 6
  · refine lv_re c_10 ?_
    refine lv_tableIn (tgt := 118) (off := 117) hx hb dX7_count_1 (by decide) (by decide) (by decide) (by decide) ?_
    refine lv_aload_n hx hb dX7_count_118 rfl (lv_at hl 0 rfl) ?_
    refine lv_bipush (v := 13) hx hb dX7_count_119 (by decide) ?_
    refine wc_i hC hml (kX7_overAll13 l G Z B M4 hM4 hM44) (cwV 1 hts gX7_count_X7_overAll rfl rfl rfl (by decide +kernel) ⟨Nat.le_of_ble_eq_true rfl, Nat.le_of_ble_eq_true rfl⟩) hW hS (vM (by decide)) ce_m0 rfl rfl rfl rfl hl.1 (Nat.le_of_ble_eq_true rfl) dX7_count_121 (fun H locs hW hS => ?_)
    refine lv_topi (fun x_11 ex_11 => ?_)
    have hf : fX7_count B a1 = x_11 := by
      subst ex_11
      exact (if_neg c_1).trans ((if_neg c_2).trans ((if_neg c_3).trans ((if_neg c_5).trans ((if_neg c_7).trans ((if_neg c_8).trans ((if_pos c_10).trans rfl))))))
    exact we_i hC hr hlocks hf.symm rfl hW hS dX7_count_124
  by_cases c_12 : a1 = 7
  · refine lv_re c_12 ?_
    refine lv_tableIn (tgt := 125) (off := 124) hx hb dX7_count_1 (by decide) (by decide) (by decide) (by decide) ?_
    refine lv_aload_n hx hb dX7_count_125 rfl (lv_at hl 0 rfl) ?_
    refine lv_aload_n hx hb dX7_count_126 rfl (lv_at hl 0 rfl) ?_
    refine wr_get hC hinRX7 hW (vM (by decide)) ce_m0 rfl 0 (by decide) hk0 rfl dX7_count_127 ?_
    refine lv_iconst (v := 2) hx hb dX7_count_130 (by decide) ?_
    refine wr_ald (kA := 0) hC hW (vM (by decide)) ce_m1 rfl (vp_in_iff.mpr (by decide)) dX7_count_131 ?_
    refine lv_re (y := B 1 2) ((congrArg (B 1) (show (2 : Int32).toNatClampNeg = 2 by decide))) ?_
    refine wc_i hC hml (kX7_highestBy l G Z B (B 1 2) hg) (cwV 1 hts gX7_count_X7_highestBy rfl rfl rfl (by decide +kernel) ⟨Nat.le_of_ble_eq_true rfl, Nat.le_of_ble_eq_true rfl⟩) hW hS (vM (by decide)) ce_m0 rfl rfl rfl rfl hl.1 (Nat.le_of_ble_eq_true rfl) dX7_count_132 (fun H locs hW hS => ?_)
    refine lv_topi (fun x_13 ex_13 => ?_)
    have hf : fX7_count B a1 = x_13 := by
      subst ex_13
      exact (if_neg c_1).trans ((if_neg c_2).trans ((if_neg c_3).trans ((if_neg c_5).trans ((if_neg c_7).trans ((if_neg c_8).trans ((if_neg c_10).trans ((if_pos c_12).trans rfl)))))))
    exact we_i hC hr hlocks hf.symm rfl hW hS dX7_count_135
  by_cases c_14 : a1 = 8
  · refine lv_re c_14 ?_
    refine lv_tableIn (tgt := 136) (off := 135) hx hb dX7_count_1 (by decide) (by decide) (by decide) (by decide) ?_
    refine lv_aload_n hx hb dX7_count_136 rfl (lv_at hl 0 rfl) ?_
    refine wr_get hC hinRX7 hW (vM (by decide)) ce_m0 rfl 0 (by decide) hk0 rfl dX7_count_137 ?_
    refine lv_iload_n hx hb dX7_count_140 rfl (lv_at hl 1 rfl) ?_
    refine lv_bipush (v := 8) hx hb dX7_count_141 (by decide) ?_
    refine lv_isub hx hb dX7_count_143 ?_
    refine lv_re (y := 0) (by rw [c_14]; decide) ?_
    refine wr_ald (kA := 0) hC hW (vM (by decide)) ce_m1 rfl (vp_in_iff.mpr (by decide)) dX7_count_144 ?_
    refine lv_re (y := B 1 0) ((congrArg (B 1) (show (0 : Int32).toNatClampNeg = 0 by decide))) ?_
    have hf : fX7_count B a1 = B 1 0 := (if_neg c_1).trans ((if_neg c_2).trans ((if_neg c_3).trans ((if_neg c_5).trans ((if_neg c_7).trans ((if_neg c_8).trans ((if_neg c_10).trans ((if_neg c_12).trans ((if_pos c_14).trans rfl))))))))
    exact we_i hC hr hlocks hf.symm rfl hW hS dX7_count_145
  by_cases c_15 : a1 = 9
  · refine lv_re c_15 ?_
    refine lv_tableIn (tgt := 136) (off := 135) hx hb dX7_count_1 (by decide) (by decide) (by decide) (by decide) ?_
    refine lv_aload_n hx hb dX7_count_136 rfl (lv_at hl 0 rfl) ?_
    refine wr_get hC hinRX7 hW (vM (by decide)) ce_m0 rfl 0 (by decide) hk0 rfl dX7_count_137 ?_
    refine lv_iload_n hx hb dX7_count_140 rfl (lv_at hl 1 rfl) ?_
    refine lv_bipush (v := 8) hx hb dX7_count_141 (by decide) ?_
    refine lv_isub hx hb dX7_count_143 ?_
    refine lv_re (y := 1) (by rw [c_15]; decide) ?_
    refine wr_ald (kA := 0) hC hW (vM (by decide)) ce_m1 rfl (vp_in_iff.mpr (by decide)) dX7_count_144 ?_
    refine lv_re (y := B 1 1) ((congrArg (B 1) (show (1 : Int32).toNatClampNeg = 1 by decide))) ?_
    have hf : fX7_count B a1 = B 1 1 := (if_neg c_1).trans ((if_neg c_2).trans ((if_neg c_3).trans ((if_neg c_5).trans ((if_neg c_7).trans ((if_neg c_8).trans ((if_neg c_10).trans ((if_neg c_12).trans ((if_neg c_14).trans ((if_pos c_15).trans rfl)))))))))
    exact we_i hC hr hlocks hf.symm rfl hW hS dX7_count_145
  by_cases c_16 : a1 = 10
  · refine lv_re c_16 ?_
    refine lv_tableIn (tgt := 136) (off := 135) hx hb dX7_count_1 (by decide) (by decide) (by decide) (by decide) ?_
    refine lv_aload_n hx hb dX7_count_136 rfl (lv_at hl 0 rfl) ?_
    refine wr_get hC hinRX7 hW (vM (by decide)) ce_m0 rfl 0 (by decide) hk0 rfl dX7_count_137 ?_
    refine lv_iload_n hx hb dX7_count_140 rfl (lv_at hl 1 rfl) ?_
    refine lv_bipush (v := 8) hx hb dX7_count_141 (by decide) ?_
    refine lv_isub hx hb dX7_count_143 ?_
    refine lv_re (y := 2) (by rw [c_16]; decide) ?_
    refine wr_ald (kA := 0) hC hW (vM (by decide)) ce_m1 rfl (vp_in_iff.mpr (by decide)) dX7_count_144 ?_
    refine lv_re (y := B 1 2) ((congrArg (B 1) (show (2 : Int32).toNatClampNeg = 2 by decide))) ?_
    have hf : fX7_count B a1 = B 1 2 := (if_neg c_1).trans ((if_neg c_2).trans ((if_neg c_3).trans ((if_neg c_5).trans ((if_neg c_7).trans ((if_neg c_8).trans ((if_neg c_10).trans ((if_neg c_12).trans ((if_neg c_14).trans ((if_neg c_15).trans ((if_pos c_16).trans rfl))))))))))
    exact we_i hC hr hlocks hf.symm rfl hW hS dX7_count_145
  by_cases c_17 : a1 = 11
  · refine lv_re c_17 ?_
    refine lv_tableIn (tgt := 136) (off := 135) hx hb dX7_count_1 (by decide) (by decide) (by decide) (by decide) ?_
    refine lv_aload_n hx hb dX7_count_136 rfl (lv_at hl 0 rfl) ?_
    refine wr_get hC hinRX7 hW (vM (by decide)) ce_m0 rfl 0 (by decide) hk0 rfl dX7_count_137 ?_
    refine lv_iload_n hx hb dX7_count_140 rfl (lv_at hl 1 rfl) ?_
    refine lv_bipush (v := 8) hx hb dX7_count_141 (by decide) ?_
    refine lv_isub hx hb dX7_count_143 ?_
    refine lv_re (y := 3) (by rw [c_17]; decide) ?_
    refine wr_ald (kA := 0) hC hW (vM (by decide)) ce_m1 rfl (vp_in_iff.mpr (by decide)) dX7_count_144 ?_
    refine lv_re (y := B 1 3) ((congrArg (B 1) (show (3 : Int32).toNatClampNeg = 3 by decide))) ?_
    have hf : fX7_count B a1 = B 1 3 := (if_neg c_1).trans ((if_neg c_2).trans ((if_neg c_3).trans ((if_neg c_5).trans ((if_neg c_7).trans ((if_neg c_8).trans ((if_neg c_10).trans ((if_neg c_12).trans ((if_neg c_14).trans ((if_neg c_15).trans ((if_neg c_16).trans ((if_pos c_17).trans rfl)))))))))))
    exact we_i hC hr hlocks hf.symm rfl hW hS dX7_count_145
  by_cases c_18 : a1 = 12
  · refine lv_re c_18 ?_
    refine lv_tableIn (tgt := 136) (off := 135) hx hb dX7_count_1 (by decide) (by decide) (by decide) (by decide) ?_
    refine lv_aload_n hx hb dX7_count_136 rfl (lv_at hl 0 rfl) ?_
    refine wr_get hC hinRX7 hW (vM (by decide)) ce_m0 rfl 0 (by decide) hk0 rfl dX7_count_137 ?_
    refine lv_iload_n hx hb dX7_count_140 rfl (lv_at hl 1 rfl) ?_
    refine lv_bipush (v := 8) hx hb dX7_count_141 (by decide) ?_
    refine lv_isub hx hb dX7_count_143 ?_
    refine lv_re (y := 4) (by rw [c_18]; decide) ?_
    refine wr_ald (kA := 0) hC hW (vM (by decide)) ce_m1 rfl (vp_in_iff.mpr (by decide)) dX7_count_144 ?_
    refine lv_re (y := B 1 4) ((congrArg (B 1) (show (4 : Int32).toNatClampNeg = 4 by decide))) ?_
    have hf : fX7_count B a1 = B 1 4 := (if_neg c_1).trans ((if_neg c_2).trans ((if_neg c_3).trans ((if_neg c_5).trans ((if_neg c_7).trans ((if_neg c_8).trans ((if_neg c_10).trans ((if_neg c_12).trans ((if_neg c_14).trans ((if_neg c_15).trans ((if_neg c_16).trans ((if_neg c_17).trans ((if_pos c_18).trans rfl))))))))))))
    exact we_i hC hr hlocks hf.symm rfl hW hS dX7_count_145
  by_cases c_19 : a1 = 13
  · refine lv_re c_19 ?_
    refine lv_tableIn (tgt := 146) (off := 145) hx hb dX7_count_1 (by decide) (by decide) (by decide) (by decide) ?_
    refine lv_aload_n hx hb dX7_count_146 rfl (lv_at hl 0 rfl) ?_
    refine wr_get hC hinRX7 hW (vM (by decide)) ce_m0 rfl 7 (by decide) hk1 rfl dX7_count_147 ?_
    have hf : fX7_count B a1 = B 0 1 := (if_neg c_1).trans ((if_neg c_2).trans ((if_neg c_3).trans ((if_neg c_5).trans ((if_neg c_7).trans ((if_neg c_8).trans ((if_neg c_10).trans ((if_neg c_12).trans ((if_neg c_14).trans ((if_neg c_15).trans ((if_neg c_16).trans ((if_neg c_17).trans ((if_neg c_18).trans ((if_pos c_19).trans rfl)))))))))))))
    exact we_i hC hr hlocks hf.symm rfl hW hS dX7_count_150
  by_cases c_20 : a1 = 14
  · refine lv_re c_20 ?_
    refine lv_tableIn (tgt := 151) (off := 150) hx hb dX7_count_1 (by decide) (by decide) (by decide) (by decide) ?_
    refine lv_aload_n hx hb dX7_count_151 rfl (lv_at hl 0 rfl) ?_
    refine wr_get hC hinRX7 hW (vM (by decide)) ce_m0 rfl 3 (by decide) hk2 rfl dX7_count_152 ?_
    have hf : fX7_count B a1 = B 0 0 := (if_neg c_1).trans ((if_neg c_2).trans ((if_neg c_3).trans ((if_neg c_5).trans ((if_neg c_7).trans ((if_neg c_8).trans ((if_neg c_10).trans ((if_neg c_12).trans ((if_neg c_14).trans ((if_neg c_15).trans ((if_neg c_16).trans ((if_neg c_17).trans ((if_neg c_18).trans ((if_neg c_19).trans ((if_pos c_20).trans rfl))))))))))))))
    exact we_i hC hr hlocks hf.symm rfl hW hS dX7_count_155
  refine lv_tableOut (tgt := 156) hx hb dX7_count_1 (by
    have hz : ∀ k : Int32, ¬ a1 = k → ¬ a1.toInt = k.toInt := fun k h q => h (Int32.toInt_inj.mp q)
    have c_1z : ¬ a1.toInt = 0 := fun q => hz 0 c_1 (q.trans (by decide))
    have c_2z : ¬ a1.toInt = 1 := fun q => hz 1 c_2 (q.trans (by decide))
    have c_3z : ¬ a1.toInt = 2 := fun q => hz 2 c_3 (q.trans (by decide))
    have c_5z : ¬ a1.toInt = 3 := fun q => hz 3 c_5 (q.trans (by decide))
    have c_7z : ¬ a1.toInt = 4 := fun q => hz 4 c_7 (q.trans (by decide))
    have c_8z : ¬ a1.toInt = 5 := fun q => hz 5 c_8 (q.trans (by decide))
    have c_10z : ¬ a1.toInt = 6 := fun q => hz 6 c_10 (q.trans (by decide))
    have c_12z : ¬ a1.toInt = 7 := fun q => hz 7 c_12 (q.trans (by decide))
    have c_14z : ¬ a1.toInt = 8 := fun q => hz 8 c_14 (q.trans (by decide))
    have c_15z : ¬ a1.toInt = 9 := fun q => hz 9 c_15 (q.trans (by decide))
    have c_16z : ¬ a1.toInt = 10 := fun q => hz 10 c_16 (q.trans (by decide))
    have c_17z : ¬ a1.toInt = 11 := fun q => hz 11 c_17 (q.trans (by decide))
    have c_18z : ¬ a1.toInt = 12 := fun q => hz 12 c_18 (q.trans (by decide))
    have c_19z : ¬ a1.toInt = 13 := fun q => hz 13 c_19 (q.trans (by decide))
    have c_20z : ¬ a1.toInt = 14 := fun q => hz 14 c_20 (q.trans (by decide))
    omega) (by decide) ?_
  refine lv_bipush (v := (-2)) hx hb dX7_count_156 (by decide) ?_
  have hf : fX7_count B a1 = (-2) := (if_neg c_1).trans ((if_neg c_2).trans ((if_neg c_3).trans ((if_neg c_5).trans ((if_neg c_7).trans ((if_neg c_8).trans ((if_neg c_10).trans ((if_neg c_12).trans ((if_neg c_14).trans ((if_neg c_15).trans ((if_neg c_16).trans ((if_neg c_17).trans ((if_neg c_18).trans ((if_neg c_19).trans ((if_neg c_20).trans rfl))))))))))))))
  exact we_i hC hr hlocks hf.symm rfl hW hS dX7_count_158

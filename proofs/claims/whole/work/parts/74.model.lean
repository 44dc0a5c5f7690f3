def LX7_pc : Nat → Nat → Nat → wB → Nat × wB
  | 0, _, q, B => (q, B)
  | u + 1, k, q, B => if B 1 (64 + (3 * k)) = B 1 5 then LX7_pc u (k + 1) q (fX7_comes B (B 1 ((64 + (3 * k)) + 1)).toNatClampNeg (B 1 ((64 + (3 * k)) + 2)))
    else LX7_pc u (k + 1) (q + 1) (bput (bput (bput B 1 ((64 + (3 * q)) + 0) (B 1 ((64 + (3 * k)) + 0))) 1 ((64 + (3 * q)) + 1) (B 1 ((64 + (3 * k)) + 1))) 1 ((64 + (3 * q)) + 2) (B 1 ((64 + (3 * k)) + 2)))
def gX7_pc (r : Nat × wB) : wB := bput (rcp r.2 1 (64 + (3 * r.1)) (fun _ => 0) (100 - (64 + (3 * r.1)))) 1 63 (nI r.1)
def fX7_plansCome (B : wB) : wB := gX7_pc (LX7_pc (B 1 63).toNatClampNeg 0 0 B)
abbrev rX7_plansCome : Room := { frames := 3, cells := 0, slots := 0, locals := 69 }
set_option maxHeartbeats 4000000 in
set_option maxRecDepth 100000 in
theorem kX7_plansCome (l : Launch) (G : wG) (Z : wZ) (B : wB)  (M : Nat) (hM : B 1 63 = nI M) (hM12 : M ≤ 12) (M4 : Nat) (hT : tI B M4) (hI : pI B 0 M M4) : mV l yX7_plansCome wsX7_plansCome rX7_plansCome G [.ref (G.2.2.1 12 0)] (wset Z 12 B) (wset Z 12 (fX7_plansCome B)) := by
  refine Met.ofW (cc := cX7_plansCome) (maxL := 6) (ret := none) (by decide) rfl ?_
  intro p e s m args below meth c s₁ B0 hml hv
  obtain ⟨rfl, hW, hK, hL⟩ := hv
  have hlocks := B0.notSynchronized
  have hr := B0.returns
  have hC : wX p s m c cX7_plansCome _ wsX7_plansCome RX7 G := ⟨B0.exec, B0.bytes, findClass_of_methodNamed B0.named, atoms_spec (ws := wsX7_plansCome) B0.pre, hK, hL⟩
  have hx := hC.1
  have hb := hC.2.1
  have hts := hC.2.2.2.1
  have hinRX7 : ∀ w ∈ wsX70, w ∈ wsX7_plansCome := by decide +kernel
  have hk0 := hts (.fieldLink RX7 7 "RampShaftsModel" "s" "[I") (by decide +kernel)
  have hS : va_S (wA G) s.heap s.heap [] := va_S.rf
  have hl := lv_entry ([.ref (G.2.2.1 12 0)]) (n := 6) (Nat.le_of_ble_eq_true rfl)
  rw [lg_entry_eq]
  generalize (lg_sl ([.ref (G.2.2.1 12 0)]) ++ List.replicate (6 - (lg_sl ([.ref (G.2.2.1 12 0)])).length) Slot.unset).toArray = ls at hl ⊢
  have hl : lv_has ls 6 [(0, .ref (G.2.2.1 12 0))] := hl
  obtain ⟨R, hR⟩ : ∃ R, R = fX7_plansCome B := ⟨_, rfl⟩
  rw [← hR]
  unfold fX7_plansCome at hR
  refine lv_iconst (v := 0) hx hb dX7_plansCome_0 (by decide) ?_
  refine lv_istore_n (lv' := [(1, .int 0), (0, .ref (G.2.2.1 12 0))]) hx hb dX7_plansCome_1 rfl hl (by decide) rfl (fun ls hl => ?_)
  refine lv_aload_n hx hb dX7_plansCome_2 rfl (lv_at hl 1 rfl) ?_
  refine wr_get hC hinRX7 hW (vM (by decide)) ce_m0 rfl 0 (by decide) hk0 rfl dX7_plansCome_3 ?_
  refine lv_bipush (v := 63) hx hb dX7_plansCome_6 (by decide) ?_
  refine wr_ald (kA := 0) hC hW (vM (by decide)) ce_m1 rfl (vp_in_iff.mpr (by decide)) dX7_plansCome_8 ?_
  refine lv_re (y := B 1 63) ((congrArg (B 1) (show (63 : Int32).toNatClampNeg = 63 by decide))) ?_
  have hq9 : (B 1 63).toNatClampNeg = M := by rw [hM, nI_clamp (by omega)]
  rw [hq9] at hR
  refine lv_re hM ?_
  refine lv_istore_n (lv' := [(2, .int (nI M)), (1, .int 0), (0, .ref (G.2.2.1 12 0))]) hx hb dX7_plansCome_9 rfl hl (by decide) rfl (fun ls hl => ?_)
  refine lv_iconst (v := 0) hx hb dX7_plansCome_10 (by decide) ?_
  refine lv_istore_n (lv' := [(3, .int 0), (2, .int (nI M)), (1, .int 0), (0, .ref (G.2.2.1 12 0))]) hx hb dX7_plansCome_11 rfl hl (by decide) rfl (fun ls hl => ?_)
  have hlp_1 : ∀ (u : Nat) (k : Nat) (q9 : Nat) (C : wB), (hk : k + u = M) → (hqk : q9 ≤ k) → (hT : tI C M4) → (hI : pI C k M M4) → R = gX7_pc (LX7_pc u k q9 C) → ∀ (H : Heap) (locs : List Loc) (ls : Array Slot), wW G (wset Z 12 C) H → va_S (wA G) s.heap H locs → lv_has ls 6 [(0, .ref (G.2.2.1 12 0)), (1, .int (nI q9)), (2, .int (nI M)), (3, .int (nI k))] → W p l e (headSpec wsX7_plansCome rX7_plansCome).room s m ([.ref (G.2.2.1 12 0)] : List Value).toArray below meth c H locs 0 0 (qV below ([.ref (G.2.2.1 12 0)] : List Value).toArray s G (wset Z 12 R)) (F0 m 12 ls []) := by
    intro u
    induction u with
    | zero =>
      intro k q9 C hk hqk hT hI hR H locs ls hW hS hl
      have hk4 : k = M := by omega
      simp only [LX7_pc] at hR
      refine lv_iload_n hx hb dX7_plansCome_12 rfl (lv_at hl 3 rfl) ?_
      refine lv_iload_n hx hb dX7_plansCome_13 rfl (lv_at hl 2 rfl) ?_
      refine lv_icmp_ge (tgt := 114) hx hb dX7_plansCome_14 (by decide) (fun c_2 => ?_) (fun c_2 => ?_)
      · skip
        unfold gX7_pc at hR
        simp only at hR
        rw [show wset Z 12 C = wset Z 12 (rcp C 1 (64 + (3 * q9)) (fun _ => 0) 0) from by rw [rcp_0]] at hW
        refine lv_bipush (v := 64) hx hb dX7_plansCome_114 (by decide) ?_
        refine lv_iconst (v := 3) hx hb dX7_plansCome_116 (by decide) ?_
        refine lv_iload_n hx hb dX7_plansCome_117 rfl (lv_at hl 1 rfl) ?_
        refine lv_imul hx hb dX7_plansCome_118 ?_
        refine lv_re (y := nI (3 * q9)) (pk_mul 3 q9) ?_
        refine lv_iadd hx hb dX7_plansCome_119 ?_
        refine lv_re (y := nI (64 + (3 * q9))) (nI_add 64 (3 * q9)) ?_
        refine lv_re (y := nI ((64 + (3 * q9)) + 0)) rfl ?_
        refine lv_istore_n (lv' := [(3, .int (nI ((64 + (3 * q9)) + 0))), (0, .ref (G.2.2.1 12 0)), (1, .int (nI q9)), (2, .int (nI M))]) hx hb dX7_plansCome_120 rfl hl (by decide) rfl (fun ls hl => ?_)
        have hlp_3 : ∀ (u : Nat) (v : Nat), (hv : 64 + 3 * q9 + v + u = 100) → R = bput (rcp C 1 (64 + (3 * q9)) (fun _ => 0) (100 - (64 + (3 * q9)))) 1 63 (nI q9) → ∀ (H : Heap) (locs : List Loc) (ls : Array Slot), wW G (wset Z 12 (rcp C 1 (64 + (3 * q9)) (fun _ => 0) v)) H → va_S (wA G) s.heap H locs → lv_has ls 6 [(0, .ref (G.2.2.1 12 0)), (1, .int (nI q9)), (3, .int (nI ((64 + (3 * q9)) + v)))] → W p l e (headSpec wsX7_plansCome rX7_plansCome).room s m ([.ref (G.2.2.1 12 0)] : List Value).toArray below meth c H locs 0 0 (qV below ([.ref (G.2.2.1 12 0)] : List Value).toArray s G (wset Z 12 R)) (F0 m 121 ls []) := by
          intro u
          induction u with
          | zero =>
            intro v hv hR H locs ls hW hS hl
            have hv4 : v = 100 - (64 + (3 * q9)) := by omega
            rw [hv4] at hW
            refine lv_iload_n hx hb dX7_plansCome_121 rfl (lv_at hl 2 rfl) ?_
            refine lv_bipush (v := 100) hx hb dX7_plansCome_122 (by decide) ?_
            refine lv_icmp_ge (tgt := 140) hx hb dX7_plansCome_124 (by decide) (fun c_4 => ?_) (fun c_4 => ?_)
            · skip
              refine lv_aload_n hx hb dX7_plansCome_140 rfl (lv_at hl 0 rfl) ?_
              refine wr_get hC hinRX7 hW (vM (by decide)) ce_m0 rfl 0 (by decide) hk0 rfl dX7_plansCome_141 ?_
              refine lv_bipush (v := 63) hx hb dX7_plansCome_144 (by decide) ?_
              refine lv_iload_n hx hb dX7_plansCome_146 rfl (lv_at hl 1 rfl) ?_
              refine wr_ast (kA := 0) (Z' := wset Z 12 (bput (rcp C 1 (64 + (3 * q9)) (fun _ => 0) (100 - (64 + (3 * q9)))) 1 (63 : Int32).toNatClampNeg (nI q9))) hC hW hS (vM (by decide)) ce_m1 rfl (vp_in_iff.mpr (by decide)) wset_off pu_m1 dX7_plansCome_147 (fun H locs hW hS => ?_)
              have hW : wW G (wset Z 12 (bput (rcp C 1 (64 + (3 * q9)) (fun _ => 0) (100 - (64 + (3 * q9)))) 1 63 (nI q9))) H := hW
              exact we_v hC hr hlocks (congrArg (wset Z 12) hR).symm hW hS dX7_plansCome_148
            · exact absurd ((nI_leI (a := 100) (by decide) (by omega)).mpr (by omega)) c_4
          | succ u ih =>
            intro v hv hR H locs ls hW hS hl
            refine lv_iload_n hx hb dX7_plansCome_121 rfl (lv_at hl 2 rfl) ?_
            refine lv_bipush (v := 100) hx hb dX7_plansCome_122 (by decide) ?_
            refine lv_icmp_ge (tgt := 140) hx hb dX7_plansCome_124 (by decide) (fun c_5 => ?_) (fun c_5 => ?_)
            · exact absurd ((nI_leI (a := 100) (by decide) (by omega)).mp c_5) (by omega)
            · skip
              refine lv_aload_n hx hb dX7_plansCome_127 rfl (lv_at hl 0 rfl) ?_
              refine wr_get hC hinRX7 hW (vM (by decide)) ce_m0 rfl 0 (by decide) hk0 rfl dX7_plansCome_128 ?_
              refine lv_iload_n hx hb dX7_plansCome_131 rfl (lv_at hl 2 rfl) ?_
              refine lv_iconst (v := 0) hx hb dX7_plansCome_132 (by decide) ?_
              refine wr_ast (kA := 0) (Z' := wset Z 12 (bput (rcp C 1 (64 + (3 * q9)) (fun _ => 0) v) 1 (nI ((64 + (3 * q9)) + v)).toNatClampNeg 0)) hC hW hS (vM (by decide)) ce_m1 rfl (vp_in_nI (show ((64 + (3 * q9)) + v) < 100 by omega) (by decide)) wset_off pu_m1 dX7_plansCome_133 (fun H locs hW hS => ?_)
              rw [nI_clamp (show ((64 + (3 * q9)) + v) < 2 ^ 31 by omega)] at hW
              refine lv_iinc (v := nI (((64 + (3 * q9)) + v) + 1)) (lv' := [(3, .int (nI (((64 + (3 * q9)) + v) + 1))), (0, .ref (G.2.2.1 12 0)), (1, .int (nI q9))]) hx hb dX7_plansCome_134 hl (k := 2) rfl (nI_1 _) (by decide) rfl (fun ls hl => ?_)
              refine lv_goto (tgt := 121) hx hb dX7_plansCome_137 (by decide) ?_
              try rw [rcp_s (j := 1) (o := 64 + (3 * q9)) (f := fun _ => 0) (n := v) (by omega) rfl] at hW
              exact ih (v + 1) (by omega) hR _ _ _ hW hS (lv_sub hl [1, 2, 0] rfl)
        exact hlp_3 (100 - (64 + (3 * q9))) 0 (by omega) hR _ _ _ hW hS (lv_sub hl [1, 2, 0] rfl)
      · exact absurd ((nI_leI (by omega) (by omega)).mpr (by omega)) c_2
    | succ u ih =>
      intro k q9 C hk hqk hT hI hR H locs ls hW hS hl
      simp only [LX7_pc] at hR
      refine lv_iload_n hx hb dX7_plansCome_12 rfl (lv_at hl 3 rfl) ?_
      refine lv_iload_n hx hb dX7_plansCome_13 rfl (lv_at hl 2 rfl) ?_
      refine lv_icmp_ge (tgt := 114) hx hb dX7_plansCome_14 (by decide) (fun c_6 => ?_) (fun c_6 => ?_)
      · exact absurd ((nI_leI (by omega) (by omega)).mp c_6) (by omega)
      · skip
        refine lv_bipush (v := 64) hx hb dX7_plansCome_17 (by decide) ?_
        refine lv_iconst (v := 3) hx hb dX7_plansCome_19 (by decide) ?_
        refine lv_iload_n hx hb dX7_plansCome_20 rfl (lv_at hl 3 rfl) ?_
        refine lv_imul hx hb dX7_plansCome_21 ?_
        refine lv_re (y := nI (3 * k)) (pk_mul 3 k) ?_
        refine lv_iadd hx hb dX7_plansCome_22 ?_
        refine lv_re (y := nI (64 + (3 * k))) (nI_add 64 (3 * k)) ?_
        refine lv_istore (lv' := [(4, .int (nI (64 + (3 * k)))), (0, .ref (G.2.2.1 12 0)), (1, .int (nI q9)), (2, .int (nI M)), (3, .int (nI k))]) hx hb dX7_plansCome_23 hl (by decide) rfl (fun ls hl => ?_)
        refine lv_aload_n hx hb dX7_plansCome_25 rfl (lv_at hl 1 rfl) ?_
        refine wr_get hC hinRX7 hW (vM (by decide)) ce_m0 rfl 0 (by decide) hk0 rfl dX7_plansCome_26 ?_
        refine lv_iload hx hb dX7_plansCome_29 (lv_at hl 0 rfl) ?_
        refine wr_ald (kA := 0) hC hW (vM (by decide)) ce_m1 rfl (vp_in_nI (show (64 + (3 * k)) < 100 by omega) (by decide)) dX7_plansCome_31 ?_
        refine lv_re (y := C 1 (64 + (3 * k))) ((congrArg (C 1) (nI_clamp (by omega)))) ?_
        refine lv_aload_n hx hb dX7_plansCome_32 rfl (lv_at hl 1 rfl) ?_
        refine wr_get hC hinRX7 hW (vM (by decide)) ce_m0 rfl 0 (by decide) hk0 rfl dX7_plansCome_33 ?_
        refine lv_iconst (v := 5) hx hb dX7_plansCome_36 (by decide) ?_
        refine wr_ald (kA := 0) hC hW (vM (by decide)) ce_m1 rfl (vp_in_iff.mpr (by decide)) dX7_plansCome_37 ?_
        refine lv_re (y := C 1 5) ((congrArg (C 1) (show (5 : Int32).toNatClampNeg = 5 by decide))) ?_
        refine lv_icmp_ne (tgt := 66) hx hb dX7_plansCome_38 (by decide) (fun c_7 => ?_) (fun c_7 => ?_)
        · skip
          try rw [if_neg c_7] at hR
          refine lv_iconst (v := 0) hx hb dX7_plansCome_66 (by decide) ?_
          refine lv_istore (lv' := [(5, .int 0), (4, .int (nI (64 + (3 * k)))), (0, .ref (G.2.2.1 12 0)), (1, .int (nI q9)), (2, .int (nI M)), (3, .int (nI k))]) hx hb dX7_plansCome_67 hl (by decide) rfl (fun ls hl => ?_)
          refine lv_iload hx hb dX7_plansCome_69 (lv_at hl 0 rfl) ?_
          refine lv_iconst (v := 3) hx hb dX7_plansCome_71 (by decide) ?_
          refine lv_icmp_ge (tgt := 105) hx hb dX7_plansCome_72 (by decide) (fun c_8 => ?_) (fun c_8 => ?_)
          · exact absurd c_8 (by decide)
          · skip
            refine lv_aload_n hx hb dX7_plansCome_75 rfl (lv_at hl 2 rfl) ?_
            refine wr_get hC hinRX7 hW (vM (by decide)) ce_m0 rfl 0 (by decide) hk0 rfl dX7_plansCome_76 ?_
            refine lv_bipush (v := 64) hx hb dX7_plansCome_79 (by decide) ?_
            refine lv_iconst (v := 3) hx hb dX7_plansCome_81 (by decide) ?_
            refine lv_iload_n hx hb dX7_plansCome_82 rfl (lv_at hl 3 rfl) ?_
            refine lv_imul hx hb dX7_plansCome_83 ?_
            refine lv_re (y := nI (3 * q9)) (pk_mul 3 q9) ?_
            refine lv_iadd hx hb dX7_plansCome_84 ?_
            refine lv_re (y := nI (64 + (3 * q9))) (nI_add 64 (3 * q9)) ?_
            refine lv_iload hx hb dX7_plansCome_85 (lv_at hl 0 rfl) ?_
            refine lv_iadd hx hb dX7_plansCome_87 ?_
            refine lv_re (y := nI ((64 + (3 * q9)) + 0)) (nI_add (64 + (3 * q9)) 0) ?_
            refine lv_aload_n hx hb dX7_plansCome_88 rfl (lv_at hl 2 rfl) ?_
            refine wr_get hC hinRX7 hW (vM (by decide)) ce_m0 rfl 0 (by decide) hk0 rfl dX7_plansCome_89 ?_
            refine lv_iload hx hb dX7_plansCome_92 (lv_at hl 1 rfl) ?_
            refine lv_iload hx hb dX7_plansCome_94 (lv_at hl 0 rfl) ?_
            refine lv_iadd hx hb dX7_plansCome_96 ?_
            refine lv_re (y := nI ((64 + (3 * k)) + 0)) (nI_add (64 + (3 * k)) 0) ?_
            refine wr_ald (kA := 0) hC hW (vM (by decide)) ce_m1 rfl (vp_in_nI (show ((64 + (3 * k)) + 0) < 100 by omega) (by decide)) dX7_plansCome_97 ?_
            refine lv_re (y := C 1 ((64 + (3 * k)) + 0)) ((congrArg (C 1) (nI_clamp (by omega)))) ?_
            refine wr_ast (kA := 0) (Z' := wset Z 12 (bput C 1 (nI ((64 + (3 * q9)) + 0)).toNatClampNeg (C 1 ((64 + (3 * k)) + 0)))) hC hW hS (vM (by decide)) ce_m1 rfl (vp_in_nI (show ((64 + (3 * q9)) + 0) < 100 by omega) (by decide)) wset_off pu_m1 dX7_plansCome_98 (fun H locs hW hS => ?_)
            rw [nI_clamp (show ((64 + (3 * q9)) + 0) < 2 ^ 31 by omega)] at hW
            refine lv_iinc (v := 1) (lv' := [(5, .int 1), (4, .int (nI (64 + (3 * k)))), (0, .ref (G.2.2.1 12 0)), (1, .int (nI q9)), (2, .int (nI M)), (3, .int (nI k))]) hx hb dX7_plansCome_99 hl (k := 0) rfl (by decide) (by decide) rfl (fun ls hl => ?_)
            refine lv_goto (tgt := 69) hx hb dX7_plansCome_102 (by decide) ?_
            refine lv_iload hx hb dX7_plansCome_69 (lv_at hl 0 rfl) ?_
            refine lv_iconst (v := 3) hx hb dX7_plansCome_71 (by decide) ?_
            refine lv_icmp_ge (tgt := 105) hx hb dX7_plansCome_72 (by decide) (fun c_9 => ?_) (fun c_9 => ?_)
            · exact absurd c_9 (by decide)
            · skip
              refine lv_aload_n hx hb dX7_plansCome_75 rfl (lv_at hl 2 rfl) ?_
              refine wr_get hC hinRX7 hW (vM (by decide)) ce_m0 rfl 0 (by decide) hk0 rfl dX7_plansCome_76 ?_
              refine lv_bipush (v := 64) hx hb dX7_plansCome_79 (by decide) ?_
              refine lv_iconst (v := 3) hx hb dX7_plansCome_81 (by decide) ?_
              refine lv_iload_n hx hb dX7_plansCome_82 rfl (lv_at hl 3 rfl) ?_
              refine lv_imul hx hb dX7_plansCome_83 ?_
              refine lv_re (y := nI (3 * q9)) (pk_mul 3 q9) ?_
              refine lv_iadd hx hb dX7_plansCome_84 ?_
              refine lv_re (y := nI (64 + (3 * q9))) (nI_add 64 (3 * q9)) ?_
              refine lv_iload hx hb dX7_plansCome_85 (lv_at hl 0 rfl) ?_
              refine lv_iadd hx hb dX7_plansCome_87 ?_
              refine lv_re (y := nI ((64 + (3 * q9)) + 1)) (nI_add (64 + (3 * q9)) 1) ?_
              refine lv_aload_n hx hb dX7_plansCome_88 rfl (lv_at hl 2 rfl) ?_
              refine wr_get hC hinRX7 hW (vM (by decide)) ce_m0 rfl 0 (by decide) hk0 rfl dX7_plansCome_89 ?_
              refine lv_iload hx hb dX7_plansCome_92 (lv_at hl 1 rfl) ?_
              refine lv_iload hx hb dX7_plansCome_94 (lv_at hl 0 rfl) ?_
              refine lv_iadd hx hb dX7_plansCome_96 ?_
              refine lv_re (y := nI ((64 + (3 * k)) + 1)) (nI_add (64 + (3 * k)) 1) ?_
              refine wr_ald (kA := 0) hC hW (vM (by decide)) ce_m1 rfl (vp_in_nI (show ((64 + (3 * k)) + 1) < 100 by omega) (by decide)) dX7_plansCome_97 ?_
              refine lv_re (y := C 1 ((64 + (3 * k)) + 1)) (((congrArg ((bput C 1 ((64 + (3 * q9)) + 0) (C 1 ((64 + (3 * k)) + 0))) 1) (nI_clamp (by omega)))).trans (bput_q (by omega))) ?_
              refine wr_ast (kA := 0) (Z' := wset Z 12 (bput (bput C 1 ((64 + (3 * q9)) + 0) (C 1 ((64 + (3 * k)) + 0))) 1 (nI ((64 + (3 * q9)) + 1)).toNatClampNeg (C 1 ((64 + (3 * k)) + 1)))) hC hW hS (vM (by decide)) ce_m1 rfl (vp_in_nI (show ((64 + (3 * q9)) + 1) < 100 by omega) (by decide)) wset_off pu_m1 dX7_plansCome_98 (fun H locs hW hS => ?_)
              rw [nI_clamp (show ((64 + (3 * q9)) + 1) < 2 ^ 31 by omega)] at hW
              refine lv_iinc (v := 2) (lv' := [(5, .int 2), (4, .int (nI (64 + (3 * k)))), (0, .ref (G.2.2.1 12 0)), (1, .int (nI q9)), (2, .int (nI M)), (3, .int (nI k))]) hx hb dX7_plansCome_99 hl (k := 0) rfl (by decide) (by decide) rfl (fun ls hl => ?_)
              refine lv_goto (tgt := 69) hx hb dX7_plansCome_102 (by decide) ?_
              refine lv_iload hx hb dX7_plansCome_69 (lv_at hl 0 rfl) ?_
              refine lv_iconst (v := 3) hx hb dX7_plansCome_71 (by decide) ?_
              refine lv_icmp_ge (tgt := 105) hx hb dX7_plansCome_72 (by decide) (fun c_10 => ?_) (fun c_10 => ?_)
              · exact absurd c_10 (by decide)
              · skip
                refine lv_aload_n hx hb dX7_plansCome_75 rfl (lv_at hl 2 rfl) ?_
                refine wr_get hC hinRX7 hW (vM (by decide)) ce_m0 rfl 0 (by decide) hk0 rfl dX7_plansCome_76 ?_
                refine lv_bipush (v := 64) hx hb dX7_plansCome_79 (by decide) ?_
                refine lv_iconst (v := 3) hx hb dX7_plansCome_81 (by decide) ?_
                refine lv_iload_n hx hb dX7_plansCome_82 rfl (lv_at hl 3 rfl) ?_
                refine lv_imul hx hb dX7_plansCome_83 ?_
                refine lv_re (y := nI (3 * q9)) (pk_mul 3 q9) ?_
                refine lv_iadd hx hb dX7_plansCome_84 ?_
                refine lv_re (y := nI (64 + (3 * q9))) (nI_add 64 (3 * q9)) ?_
                refine lv_iload hx hb dX7_plansCome_85 (lv_at hl 0 rfl) ?_
                refine lv_iadd hx hb dX7_plansCome_87 ?_
                refine lv_re (y := nI ((64 + (3 * q9)) + 2)) (nI_add (64 + (3 * q9)) 2) ?_
                refine lv_aload_n hx hb dX7_plansCome_88 rfl (lv_at hl 2 rfl) ?_
                refine wr_get hC hinRX7 hW (vM (by decide)) ce_m0 rfl 0 (by decide) hk0 rfl dX7_plansCome_89 ?_
                refine lv_iload hx hb dX7_plansCome_92 (lv_at hl 1 rfl) ?_
                refine lv_iload hx hb dX7_plansCome_94 (lv_at hl 0 rfl) ?_
                refine lv_iadd hx hb dX7_plansCome_96 ?_
                refine lv_re (y := nI ((64 + (3 * k)) + 2)) (nI_add (64 + (3 * k)) 2) ?_
                refine wr_ald (kA := 0) hC hW (vM (by decide)) ce_m1 rfl (vp_in_nI (show ((64 + (3 * k)) + 2) < 100 by omega) (by decide)) dX7_plansCome_97 ?_
                refine lv_re (y := C 1 ((64 + (3 * k)) + 2)) ((((congrArg ((bput (bput C 1 ((64 + (3 * q9)) + 0) (C 1 ((64 + (3 * k)) + 0))) 1 ((64 + (3 * q9)) + 1) (C 1 ((64 + (3 * k)) + 1))) 1) (nI_clamp (by omega)))).trans (bput_q (by omega))).trans (bput_q (by omega))) ?_
                refine wr_ast (kA := 0) (Z' := wset Z 12 (bput (bput (bput C 1 ((64 + (3 * q9)) + 0) (C 1 ((64 + (3 * k)) + 0))) 1 ((64 + (3 * q9)) + 1) (C 1 ((64 + (3 * k)) + 1))) 1 (nI ((64 + (3 * q9)) + 2)).toNatClampNeg (C 1 ((64 + (3 * k)) + 2)))) hC hW hS (vM (by decide)) ce_m1 rfl (vp_in_nI (show ((64 + (3 * q9)) + 2) < 100 by omega) (by decide)) wset_off pu_m1 dX7_plansCome_98 (fun H locs hW hS => ?_)
                rw [nI_clamp (show ((64 + (3 * q9)) + 2) < 2 ^ 31 by omega)] at hW
                refine lv_iinc (v := 3) (lv' := [(5, .int 3), (4, .int (nI (64 + (3 * k)))), (0, .ref (G.2.2.1 12 0)), (1, .int (nI q9)), (2, .int (nI M)), (3, .int (nI k))]) hx hb dX7_plansCome_99 hl (k := 0) rfl (by decide) (by decide) rfl (fun ls hl => ?_)
                refine lv_goto (tgt := 69) hx hb dX7_plansCome_102 (by decide) ?_
                refine lv_iload hx hb dX7_plansCome_69 (lv_at hl 0 rfl) ?_
                refine lv_iconst (v := 3) hx hb dX7_plansCome_71 (by decide) ?_
                refine lv_icmp_ge (tgt := 105) hx hb dX7_plansCome_72 (by decide) (fun c_11 => ?_) (fun c_11 => ?_)
                · skip
                  refine lv_iinc (v := nI (q9 + 1)) (lv' := [(1, .int (nI (q9 + 1))), (5, .int 3), (4, .int (nI (64 + (3 * k)))), (0, .ref (G.2.2.1 12 0)), (2, .int (nI M)), (3, .int (nI k))]) hx hb dX7_plansCome_105 hl (k := 3) rfl (nI_1 _) (by decide) rfl (fun ls hl => ?_)
                  refine lv_iinc (v := nI (k + 1)) (lv' := [(3, .int (nI (k + 1))), (1, .int (nI (q9 + 1))), (5, .int 3), (4, .int (nI (64 + (3 * k)))), (0, .ref (G.2.2.1 12 0)), (2, .int (nI M))]) hx hb dX7_plansCome_108 hl (k := 5) rfl (nI_1 _) (by decide) rfl (fun ls hl => ?_)
                  refine lv_goto (tgt := 12) hx hb dX7_plansCome_111 (by decide) ?_
                  try rw [rcp_s (j := 1) (o := 64 + (3 * q9)) (f := fun _ => 0) (n := v) (by omega) rfl] at hW
                  exact ih (k + 1) (q9 + 1) (bput (bput (bput C 1 ((64 + (3 * q9)) + 0) (C 1 ((64 + (3 * k)) + 0))) 1 ((64 + (3 * q9)) + 1) (C 1 ((64 + (3 * k)) + 1))) 1 ((64 + (3 * q9)) + 2) (C 1 ((64 + (3 * k)) + 2))) (by omega) (by omega) (tI_put (tI_put (tI_put hT (by omega)) (by omega)) (by omega)) (pI_put (pI_put (pI_put (pI_mono hI) (by omega) (by omega)) (by omega) (by omega)) (by omega) (by omega)) hR _ _ _ hW hS (lv_sub hl [4, 1, 5, 0] rfl)
                · exact absurd c_11 (by decide)
        · skip
          try rw [if_pos c_7] at hR
          refine lv_aload_n hx hb dX7_plansCome_41 rfl (lv_at hl 1 rfl) ?_
          refine lv_aload_n hx hb dX7_plansCome_42 rfl (lv_at hl 1 rfl) ?_
          refine wr_get hC hinRX7 hW (vM (by decide)) ce_m0 rfl 0 (by decide) hk0 rfl dX7_plansCome_43 ?_
          refine lv_iload hx hb dX7_plansCome_46 (lv_at hl 0 rfl) ?_
          refine lv_iconst (v := 1) hx hb dX7_plansCome_48 (by decide) ?_
          refine lv_iadd hx hb dX7_plansCome_49 ?_
          refine lv_re (y := nI ((64 + (3 * k)) + 1)) (nI_add (64 + (3 * k)) 1) ?_
          refine wr_ald (kA := 0) hC hW (vM (by decide)) ce_m1 rfl (vp_in_nI (show ((64 + (3 * k)) + 1) < 100 by omega) (by decide)) dX7_plansCome_50 ?_
          refine lv_re (y := C 1 ((64 + (3 * k)) + 1)) ((congrArg (C 1) (nI_clamp (by omega)))) ?_
          obtain ⟨j9, hj9, ej9⟩ := hI k (Nat.le_refl k) (by omega)
          have hj4 : j9 < 4 := by have := hT.2.1; omega
          have hjc : (C 1 ((64 + (3 * k)) + 1)).toNatClampNeg = j9 := by rw [ej9, nI_clamp (by omega)]
          rw [hjc] at hR
          refine lv_re ej9 ?_
          refine lv_aload_n hx hb dX7_plansCome_51 rfl (lv_at hl 1 rfl) ?_
          refine wr_get hC hinRX7 hW (vM (by decide)) ce_m0 rfl 0 (by decide) hk0 rfl dX7_plansCome_52 ?_
          refine lv_iload hx hb dX7_plansCome_55 (lv_at hl 0 rfl) ?_
          refine lv_iconst (v := 2) hx hb dX7_plansCome_57 (by decide) ?_
          refine lv_iadd hx hb dX7_plansCome_58 ?_
          refine lv_re (y := nI ((64 + (3 * k)) + 2)) (nI_add (64 + (3 * k)) 2) ?_
          refine wr_ald (kA := 0) hC hW (vM (by decide)) ce_m1 rfl (vp_in_nI (show ((64 + (3 * k)) + 2) < 100 by omega) (by decide)) dX7_plansCome_59 ?_
          refine lv_re (y := C 1 ((64 + (3 * k)) + 2)) ((congrArg (C 1) (nI_clamp (by omega)))) ?_
          refine wc_v hC hml (kX7_comes l G Z C j9 (C 1 ((64 + (3 * k)) + 2)) hj4 (hT.2.2.1 j9 hj9) (tn_of (hT.2.2.2.1 j9 hj4).1).1) (cwV 2 hts gX7_plansCome_X7_comes rfl rfl rfl (by decide +kernel) ⟨Nat.le_of_ble_eq_true rfl, Nat.le_of_ble_eq_true rfl⟩) hW hS (vM (by decide)) ce_m0 rfl rfl rfl rfl hl.1 (Nat.le_of_ble_eq_true rfl) dX7_plansCome_60 (fun H locs hW hS => ?_)
          obtain ⟨B_12, eB_12⟩ : ∃ y, y = fX7_comes C j9 (C 1 ((64 + (3 * k)) + 2)) := ⟨_, rfl⟩
          rw [← eB_12] at hW
          try rw [← eB_12] at hR
          refine lv_goto (tgt := 108) hx hb dX7_plansCome_63 (by decide) ?_
          refine lv_iinc (v := nI (k + 1)) (lv' := [(3, .int (nI (k + 1))), (4, .int (nI (64 + (3 * k)))), (0, .ref (G.2.2.1 12 0)), (1, .int (nI q9)), (2, .int (nI M))]) hx hb dX7_plansCome_108 hl (k := 4) rfl (nI_1 _) (by decide) rfl (fun ls hl => ?_)
          refine lv_goto (tgt := 12) hx hb dX7_plansCome_111 (by decide) ?_
          try rw [rcp_s (j := 1) (o := 64 + (3 * q9)) (f := fun _ => 0) (n := v) (by omega) rfl] at hW
          exact ih (k + 1) q9 B_12 (by omega) (by omega) (by rw [eB_12]; exact tI_se hj4 hT (se_comes (k := j9) (B := C) (a := C 1 ((64 + (3 * k)) + 2)) (tn_of (hT.2.2.2.1 j9 hj4).1).1) (wb_comes (hT.2.2.2.1 j9 hj4))) (by rw [eB_12]; exact pI_mono (pI_se hj4 hI (se_comes (k := j9) (B := C) (a := C 1 ((64 + (3 * k)) + 2)) (tn_of (hT.2.2.2.1 j9 hj4).1).1))) hR _ _ _ hW hS (lv_sub hl [2, 3, 4, 0] rfl)
  exact hlp_1 M 0 0 B (Nat.zero_add _) (Nat.le_refl 0) hT hI hR _ _ _ hW hS (lv_sub hl [3, 2, 1, 0] rfl)

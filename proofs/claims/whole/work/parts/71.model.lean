theorem len_in {B : wB} {u : Nat} (h : 0 ≤ (B 0 1).toInt ∧ (B 0 1).toInt + ((u : Int) + 1) ≤ 80) : vp_in (B 0 1) 80 := by
  rw [vp_in_iff]
  omega
theorem len_s {B : wB} {u q : Nat} {v : Int32} (h : 0 ≤ (B 0 1).toInt ∧ (B 0 1).toInt + ((u : Int) + 1) ≤ 80) : 0 ≤ ((bput (bput B 6 q v) 0 1 (B 0 1 + 1)) 0 1).toInt ∧ ((bput (bput B 6 q v) 0 1 (B 0 1 + 1)) 0 1).toInt + (u : Int) ≤ 80 := by
  rw [bput_h, (ti_add (by rw [t1]; omega) (by rw [t1]; omega)).trans (by rw [t1])]
  omega
def LX7_ct : Nat → Nat → Int32 → Int64 → Nat × Int32 × Int64
  | 0, k, b, x => (k, b, x)
  | u + 1, k, b, x => if lg_cmp (x &&& 255) 0 = 0 then (k, b, x) else if b = 0 then (if fX7_in (x &&& 255).toInt32 33 126 = 0 then LX7_ct u (k + 1) 1 ((x.toUInt64 >>> ((8 : Int32).toInt64.toUInt64 &&& Int64.toUInt64 63)).toInt64) else LX7_ct u (k + 1) 0 ((x.toUInt64 >>> ((8 : Int32).toInt64.toUInt64 &&& Int64.toUInt64 63)).toInt64)) else LX7_ct u (k + 1) 1 ((x.toUInt64 >>> ((8 : Int32).toInt64.toUInt64 &&& Int64.toUInt64 63)).toInt64)
def LX7_pp (a1 : Int64) : Nat → wB → wB
  | 0, B => B
  | u + 1, B => LX7_pp a1 u (bput (bput B 6 (B 0 1).toNatClampNeg (((((a1.toUInt64 >>> ((nI (8 * u)).toInt64.toUInt64 &&& Int64.toUInt64 63)).toInt64) &&& 255)).toInt32)) 0 1 (B 0 1 + 1))
def gX7_pe (C : wB) : wB × Int32 := (C, C 0 1)
def gX7_put (B : wB) (a1 : Int64) (q : Nat × Int32 × Int64) : wB × Int32 :=
  if q.2.1 = 0 then (if nI q.1 = 0 then (B, -2) else if lg_cmp q.2.2 0 = 0 then (if B 0 1 + nI q.1 ≤ 80 then gX7_pe (LX7_pp a1 q.1 B) else (B, -4)) else (B, -2)) else (B, -2)
def fX7_put (B : wB) (a1 : Int64) : wB × Int32 := gX7_put B a1 (LX7_ct 8 0 0 a1)
abbrev rX7_put : Room := { frames := 1, cells := 0, slots := 0, locals := 22 }
set_option maxHeartbeats 4000000 in
set_option maxRecDepth 100000 in
theorem kX7_put (l : Launch) (G : wG) (Z : wZ) (B : wB) (a1 : Int64) (hln : 0 ≤ (B 0 1).toInt ∧ (B 0 1).toInt ≤ 80) : mI l yX7_put wsX7_put rX7_put G [.ref (G.2.2.1 12 0), .long a1] (wset Z 12 B) (fX7_put B a1).2 (wset Z 12 (fX7_put B a1).1) := by
  refine Met.ofW (cc := cX7_put) (maxL := 8) (ret := (some .int)) (by decide) rfl ?_
  intro p e s m args below meth c s₁ B0 hml hv
  obtain ⟨rfl, hW, hK, hL⟩ := hv
  have hlocks := B0.notSynchronized
  have hr := B0.returns
  have hC : wX p s m c cX7_put _ wsX7_put RX7 G := ⟨B0.exec, B0.bytes, findClass_of_methodNamed B0.named, atoms_spec (ws := wsX7_put) B0.pre, hK, hL⟩
  have hx := hC.1
  have hb := hC.2.1
  have hts := hC.2.2.2.1
  have hinRX7 : ∀ w ∈ wsX70, w ∈ wsX7_put := by decide +kernel
  have hk0 := hts (.fieldLink RX7 149 "RampShaftsModel" "length" "I") (by decide +kernel)
  have hk1 := hts (.fieldLink RX7 26 "RampShaftsModel" "pad" "[I") (by decide +kernel)
  have hk2 := hts (.constantLong RX7 158 (255)) (by decide +kernel)
  have hS : va_S (wA G) s.heap s.heap [] := va_S.rf
  have hl := lv_entry ([.ref (G.2.2.1 12 0), .long a1]) (n := 8) (Nat.le_of_ble_eq_true rfl)
  rw [lg_entry_eq]
  generalize (lg_sl ([.ref (G.2.2.1 12 0), .long a1]) ++ List.replicate (8 - (lg_sl ([.ref (G.2.2.1 12 0), .long a1])).length) Slot.unset).toArray = ls at hl ⊢
  have hl : lv_has ls 8 [(0, .ref (G.2.2.1 12 0)), (1, .long a1)] := hl
  obtain ⟨R, hR⟩ : ∃ R, R = fX7_put B a1 := ⟨_, rfl⟩
  rw [← hR]
  unfold fX7_put at hR
  refine lv_iconst (v := 0) hx hb dX7_put_0 (by decide) ?_
  refine lv_istore_n (lv' := [(3, .int 0), (0, .ref (G.2.2.1 12 0)), (1, .long a1)]) hx hb dX7_put_1 rfl hl (by decide) rfl (fun ls hl => ?_)
  refine lv_iconst (v := 0) hx hb dX7_put_2 (by decide) ?_
  refine lv_istore (lv' := [(4, .int 0), (3, .int 0), (0, .ref (G.2.2.1 12 0)), (1, .long a1)]) hx hb dX7_put_3 hl (by decide) rfl (fun ls hl => ?_)
  refine lv_lload_n hx hb dX7_put_5 rfl (lv_at hl 3 rfl) ?_
  refine lv_lstore (lv' := [(5, .long a1), (4, .int 0), (3, .int 0), (0, .ref (G.2.2.1 12 0)), (1, .long a1)]) hx hb dX7_put_6 hl (by decide) rfl (fun ls hl => ?_)
  have hlp_1 : ∀ (u : Nat) (k : Nat) (b : Int32) (x : Int64), (hk : k + u = 8) → R = gX7_put B a1 (LX7_ct u k b x) → ∀ (H : Heap) (locs : List Loc) (ls : Array Slot), wW G (wset Z 12 B) H → va_S (wA G) s.heap H locs → lv_has ls 8 [(0, .ref (G.2.2.1 12 0)), (1, .long a1), (3, .int (nI k)), (4, .int b), (5, .long x)] → W p l e (headSpec wsX7_put rX7_put).room s m ([.ref (G.2.2.1 12 0), .long a1] : List Value).toArray below meth c H locs 0 0 (qI below ([.ref (G.2.2.1 12 0), .long a1] : List Value).toArray s G R.2 (wset Z 12 R.1)) (F0 m 8 ls []) := by
    intro u
    induction u with
    | zero =>
      intro k b x hk hR H locs ls hW hS hl
      have hk4 : k = 8 := by omega
      simp only [LX7_ct] at hR
      refine lv_iload_n hx hb dX7_put_8 rfl (lv_at hl 2 rfl) ?_
      refine lv_bipush (v := 8) hx hb dX7_put_9 (by decide) ?_
      refine lv_icmp_ge (tgt := 67) hx hb dX7_put_11 (by decide) (fun c_2 => ?_) (fun c_2 => ?_)
      · skip
        unfold gX7_put at hR
        simp only at hR
        refine lv_iload hx hb dX7_put_67 (lv_at hl 3 rfl) ?_
        refine lv_if_ne (tgt := 83) hx hb dX7_put_69 (by decide) (fun c_3 => ?_) (fun c_3 => ?_)
        · skip
          try rw [if_neg c_3] at hR
          refine lv_bipush (v := (-2)) hx hb dX7_put_83 (by decide) ?_
          exact we_i hC hr hlocks (congrArg Prod.snd hR).symm (congrArg (fun u => wset Z 12 u.1) hR).symm hW hS dX7_put_85
        · skip
          try rw [if_pos c_3] at hR
          refine lv_iload_n hx hb dX7_put_72 rfl (lv_at hl 2 rfl) ?_
          refine lv_if_eq (tgt := 83) hx hb dX7_put_73 (by decide) (fun c_4 => ?_) (fun c_4 => ?_)
          · skip
            try rw [if_pos c_4] at hR
            refine lv_bipush (v := (-2)) hx hb dX7_put_83 (by decide) ?_
            exact we_i hC hr hlocks (congrArg Prod.snd hR).symm (congrArg (fun u => wset Z 12 u.1) hR).symm hW hS dX7_put_85
          · skip
            try rw [if_neg c_4] at hR
            refine lv_lload hx hb dX7_put_76 (lv_at hl 4 rfl) ?_
            refine lv_lconst (v := 0) hx hb dX7_put_78 (by decide) ?_
            refine W.lcmp hx hb dX7_put_79 ?_
            refine lv_if_eq (tgt := 86) hx hb dX7_put_80 (by decide) (fun c_5 => ?_) (fun c_5 => ?_)
            · skip
              try rw [if_pos c_5] at hR
              refine lv_aload_n hx hb dX7_put_86 rfl (lv_at hl 0 rfl) ?_
              refine wr_get hC hinRX7 hW (vM (by decide)) ce_m0 rfl 7 (by decide) hk0 rfl dX7_put_87 ?_
              refine lv_iload_n hx hb dX7_put_90 rfl (lv_at hl 2 rfl) ?_
              refine lv_iadd hx hb dX7_put_91 ?_
              refine lv_bipush (v := 80) hx hb dX7_put_92 (by decide) ?_
              refine lv_icmp_le (tgt := 100) hx hb dX7_put_94 (by decide) (fun c_6 => ?_) (fun c_6 => ?_)
              · skip
                try rw [if_pos c_6] at hR
                refine lv_iload_n hx hb dX7_put_100 rfl (lv_at hl 2 rfl) ?_
                refine lv_iconst (v := 1) hx hb dX7_put_101 (by decide) ?_
                refine lv_isub hx hb dX7_put_102 ?_
                refine lv_re (y := nI k + (-1)) (Int32.sub_eq_add_neg ..) ?_
                have hk8 : k ≤ 8 := by omega
                have hkk : 0 ≤ (B 0 1).toInt ∧ (B 0 1).toInt + (k : Int) ≤ 80 := by
                  have h9 := c_6
                  rw [Int32.le_iff_toInt_le, ti_add (by rw [nI_toInt (by omega)]; omega) (by rw [nI_toInt (by omega)]; omega), nI_toInt (by omega), show (80 : Int32).toInt = 80 by decide] at h9
                  exact ⟨hln.1, h9⟩
                refine lv_istore (lv' := [(7, .int (nI k + (-1))), (0, .ref (G.2.2.1 12 0)), (1, .long a1), (3, .int (nI k)), (4, .int b), (5, .long x)]) hx hb dX7_put_103 hl (by decide) rfl (fun ls hl => ?_)
                have hlp_7 : ∀ (u : Nat) (B : wB), (hu : u < 2 ^ 31) → (hlu : 0 ≤ (B 0 1).toInt ∧ (B 0 1).toInt + (u : Int) ≤ 80) → R = gX7_pe (LX7_pp a1 u B) → ∀ (H : Heap) (locs : List Loc) (ls : Array Slot), wW G (wset Z 12 B) H → va_S (wA G) s.heap H locs → lv_has ls 8 [(0, .ref (G.2.2.1 12 0)), (1, .long a1), (7, .int (nI u + (-1)))] → W p l e (headSpec wsX7_put rX7_put).room s m ([.ref (G.2.2.1 12 0), .long a1] : List Value).toArray below meth c H locs 0 0 (qI below ([.ref (G.2.2.1 12 0), .long a1] : List Value).toArray s G R.2 (wset Z 12 R.1)) (F0 m 105 ls []) := by
                  intro u
                  induction u with
                  | zero =>
                    intro B hu hlu hR H locs ls hW hS hl
                    simp only [LX7_pp, gX7_pe] at hR
                    refine lv_iload hx hb dX7_put_105 (lv_at hl 2 rfl) ?_
                    refine lv_if_lt (tgt := 147) hx hb dX7_put_107 (by decide) (fun c_8 => ?_) (fun c_8 => ?_)
                    · skip
                      refine lv_aload_n hx hb dX7_put_147 rfl (lv_at hl 0 rfl) ?_
                      refine wr_get hC hinRX7 hW (vM (by decide)) ce_m0 rfl 7 (by decide) hk0 rfl dX7_put_148 ?_
                      exact we_i hC hr hlocks (congrArg Prod.snd hR).symm (congrArg (fun u => wset Z 12 u.1) hR).symm hW hS dX7_put_151
                    · exact absurd (show (nI 0 + (-1) : Int32) < 0 by decide) c_8
                  | succ u ih =>
                    intro B hu hlu hR H locs ls hW hS hl
                    simp only [LX7_pp] at hR
                    rw [pk_m1] at hl
                    rw [show ((u + 1 : Nat) : Int) = (u : Int) + 1 by omega] at hlu
                    refine lv_iload hx hb dX7_put_105 (lv_at hl 2 rfl) ?_
                    refine lv_if_lt (tgt := 147) hx hb dX7_put_107 (by decide) (fun c_9 => ?_) (fun c_9 => ?_)
                    · exact absurd c_9 (nI_pos (by omega))
                    · skip
                      refine lv_aload_n hx hb dX7_put_110 rfl (lv_at hl 0 rfl) ?_
                      refine wr_get hC hinRX7 hW (vM (by decide)) ce_m0 rfl 6 (by decide) hk1 rfl dX7_put_111 ?_
                      refine lv_aload_n hx hb dX7_put_114 rfl (lv_at hl 0 rfl) ?_
                      refine wr_get hC hinRX7 hW (vM (by decide)) ce_m0 rfl 7 (by decide) hk0 rfl dX7_put_115 ?_
                      refine lv_lload_n hx hb dX7_put_118 rfl (lv_at hl 1 rfl) ?_
                      refine lv_bipush (v := 8) hx hb dX7_put_119 (by decide) ?_
                      refine lv_iload hx hb dX7_put_121 (lv_at hl 2 rfl) ?_
                      refine lv_imul hx hb dX7_put_123 ?_
                      refine lv_re (y := nI (8 * u)) (pk_mul 8 u) ?_
                      refine lv_lushr (v := (a1.toUInt64 >>> ((nI (8 * u)).toInt64.toUInt64 &&& Int64.toUInt64 63)).toInt64) hx hb dX7_put_124 rfl ?_
                      refine lv_ldc2 (v := 255) hx hb hC.2.2.1 hk2 dX7_put_125 ?_
                      refine lv_land hx hb dX7_put_128 ?_
                      refine lv_l2i (v := (((a1.toUInt64 >>> ((nI (8 * u)).toInt64.toUInt64 &&& Int64.toUInt64 63)).toInt64) &&& 255).toInt32) hx hb dX7_put_129 rfl ?_
                      refine wr_ast (kA := 0) (Z' := wset Z 12 (bput B 6 (B 0 1).toNatClampNeg ((((a1.toUInt64 >>> ((nI (8 * u)).toInt64.toUInt64 &&& Int64.toUInt64 63)).toInt64) &&& 255).toInt32))) hC hW hS (vM (by decide)) ce_m6 rfl (len_in hlu) wset_off pu_m6 dX7_put_130 (fun H locs hW hS => ?_)
                      refine lv_aload_n hx hb dX7_put_131 rfl (lv_at hl 0 rfl) ?_
                      refine lv_dup hx hb dX7_put_132 rfl ?_
                      refine wr_get hC hinRX7 hW (vM (by decide)) ce_m0 rfl 7 (by decide) hk0 rfl dX7_put_133 ?_
                      refine lv_re (y := B 0 1) (bput_j (by omega)) ?_
                      refine lv_iconst (v := 1) hx hb dX7_put_136 (by decide) ?_
                      refine lv_iadd hx hb dX7_put_137 ?_
                      refine wr_put (Z' := wset Z 12 (bput (bput B 6 (B 0 1).toNatClampNeg ((((a1.toUInt64 >>> ((nI (8 * u)).toInt64.toUInt64 &&& Int64.toUInt64 63)).toInt64) &&& 255).toInt32)) 0 1 ((B 0 1) + 1))) (v := .int ((B 0 1) + 1)) hC hinRX7 tyX7 tyX7_ok nmX7 hW hS (vM (by decide)) ce_m0 rfl 7 (by decide) hk0 rfl (tyX7_ok 7 (by decide)) rfl rfl (Nat.le_of_ble_eq_true rfl) wset_off pu_m0_1 dX7_put_138 (fun H locs hW hS => ?_)
                      refine lv_iinc (v := (nI u) + (-1)) (lv' := [(7, .int ((nI u) + (-1))), (0, .ref (G.2.2.1 12 0)), (1, .long a1)]) hx hb dX7_put_141 hl (k := 2) rfl (rfl) (by decide) rfl (fun ls hl => ?_)
                      refine lv_goto (tgt := 105) hx hb dX7_put_144 (by decide) ?_
                      exact ih (bput (bput B 6 (B 0 1).toNatClampNeg ((((a1.toUInt64 >>> ((nI (8 * u)).toInt64.toUInt64 &&& Int64.toUInt64 63)).toInt64) &&& 255).toInt32)) 0 1 ((B 0 1) + 1)) (by omega) (len_s hlu) hR _ _ _ hW hS (lv_sub hl [1, 2, 0] rfl)
                exact hlp_7 k B (by omega) hkk hR _ _ _ hW hS (lv_sub hl [1, 2, 0] rfl)
              · skip
                try rw [if_neg c_6] at hR
                refine lv_bipush (v := (-4)) hx hb dX7_put_97 (by decide) ?_
                exact we_i hC hr hlocks (congrArg Prod.snd hR).symm (congrArg (fun u => wset Z 12 u.1) hR).symm hW hS dX7_put_99
            · skip
              try rw [if_neg c_5] at hR
              refine lv_bipush (v := (-2)) hx hb dX7_put_83 (by decide) ?_
              exact we_i hC hr hlocks (congrArg Prod.snd hR).symm (congrArg (fun u => wset Z 12 u.1) hR).symm hW hS dX7_put_85
      · exact absurd ((nI_leI (a := 8) (by decide) (by omega)).mpr (by omega)) c_2
    | succ u ih =>
      intro k b x hk hR H locs ls hW hS hl
      simp only [LX7_ct] at hR
      refine lv_iload_n hx hb dX7_put_8 rfl (lv_at hl 2 rfl) ?_
      refine lv_bipush (v := 8) hx hb dX7_put_9 (by decide) ?_
      refine lv_icmp_ge (tgt := 67) hx hb dX7_put_11 (by decide) (fun c_10 => ?_) (fun c_10 => ?_)
      · exact absurd ((nI_leI (a := 8) (by decide) (by omega)).mp c_10) (by omega)
      · skip
        refine lv_lload hx hb dX7_put_14 (lv_at hl 4 rfl) ?_
        refine lv_ldc2 (v := 255) hx hb hC.2.2.1 hk2 dX7_put_16 ?_
        refine lv_land hx hb dX7_put_19 ?_
        refine lv_lconst (v := 0) hx hb dX7_put_20 (by decide) ?_
        refine W.lcmp hx hb dX7_put_21 ?_
        refine lv_if_eq (tgt := 67) hx hb dX7_put_22 (by decide) (fun c_11 => ?_) (fun c_11 => ?_)
        · skip
          try rw [if_pos c_11] at hR
          unfold gX7_put at hR
          simp only at hR
          refine lv_iload hx hb dX7_put_67 (lv_at hl 3 rfl) ?_
          refine lv_if_ne (tgt := 83) hx hb dX7_put_69 (by decide) (fun c_12 => ?_) (fun c_12 => ?_)
          · skip
            try rw [if_neg c_12] at hR
            refine lv_bipush (v := (-2)) hx hb dX7_put_83 (by decide) ?_
            exact we_i hC hr hlocks (congrArg Prod.snd hR).symm (congrArg (fun u => wset Z 12 u.1) hR).symm hW hS dX7_put_85
          · skip
            try rw [if_pos c_12] at hR
            refine lv_iload_n hx hb dX7_put_72 rfl (lv_at hl 2 rfl) ?_
            refine lv_if_eq (tgt := 83) hx hb dX7_put_73 (by decide) (fun c_13 => ?_) (fun c_13 => ?_)
            · skip
              try rw [if_pos c_13] at hR
              refine lv_bipush (v := (-2)) hx hb dX7_put_83 (by decide) ?_
              exact we_i hC hr hlocks (congrArg Prod.snd hR).symm (congrArg (fun u => wset Z 12 u.1) hR).symm hW hS dX7_put_85
            · skip
              try rw [if_neg c_13] at hR
              refine lv_lload hx hb dX7_put_76 (lv_at hl 4 rfl) ?_
              refine lv_lconst (v := 0) hx hb dX7_put_78 (by decide) ?_
              refine W.lcmp hx hb dX7_put_79 ?_
              refine lv_if_eq (tgt := 86) hx hb dX7_put_80 (by decide) (fun c_14 => ?_) (fun c_14 => ?_)
              · skip
                try rw [if_pos c_14] at hR
                refine lv_aload_n hx hb dX7_put_86 rfl (lv_at hl 0 rfl) ?_
                refine wr_get hC hinRX7 hW (vM (by decide)) ce_m0 rfl 7 (by decide) hk0 rfl dX7_put_87 ?_
                refine lv_iload_n hx hb dX7_put_90 rfl (lv_at hl 2 rfl) ?_
                refine lv_iadd hx hb dX7_put_91 ?_
                refine lv_bipush (v := 80) hx hb dX7_put_92 (by decide) ?_
                refine lv_icmp_le (tgt := 100) hx hb dX7_put_94 (by decide) (fun c_15 => ?_) (fun c_15 => ?_)
                · skip
                  try rw [if_pos c_15] at hR
                  refine lv_iload_n hx hb dX7_put_100 rfl (lv_at hl 2 rfl) ?_
                  refine lv_iconst (v := 1) hx hb dX7_put_101 (by decide) ?_
                  refine lv_isub hx hb dX7_put_102 ?_
                  refine lv_re (y := nI k + (-1)) (Int32.sub_eq_add_neg ..) ?_
                  have hk8 : k ≤ 8 := by omega
                  have hkk : 0 ≤ (B 0 1).toInt ∧ (B 0 1).toInt + (k : Int) ≤ 80 := by
                    have h9 := c_15
                    rw [Int32.le_iff_toInt_le, ti_add (by rw [nI_toInt (by omega)]; omega) (by rw [nI_toInt (by omega)]; omega), nI_toInt (by omega), show (80 : Int32).toInt = 80 by decide] at h9
                    exact ⟨hln.1, h9⟩
                  refine lv_istore (lv' := [(7, .int (nI k + (-1))), (0, .ref (G.2.2.1 12 0)), (1, .long a1), (3, .int (nI k)), (4, .int b), (5, .long x)]) hx hb dX7_put_103 hl (by decide) rfl (fun ls hl => ?_)
                  have hlp_16 : ∀ (u : Nat) (B : wB), (hu : u < 2 ^ 31) → (hlu : 0 ≤ (B 0 1).toInt ∧ (B 0 1).toInt + (u : Int) ≤ 80) → R = gX7_pe (LX7_pp a1 u B) → ∀ (H : Heap) (locs : List Loc) (ls : Array Slot), wW G (wset Z 12 B) H → va_S (wA G) s.heap H locs → lv_has ls 8 [(0, .ref (G.2.2.1 12 0)), (1, .long a1), (7, .int (nI u + (-1)))] → W p l e (headSpec wsX7_put rX7_put).room s m ([.ref (G.2.2.1 12 0), .long a1] : List Value).toArray below meth c H locs 0 0 (qI below ([.ref (G.2.2.1 12 0), .long a1] : List Value).toArray s G R.2 (wset Z 12 R.1)) (F0 m 105 ls []) := by
                    intro u
                    induction u with
                    | zero =>
                      intro B hu hlu hR H locs ls hW hS hl
                      simp only [LX7_pp, gX7_pe] at hR
                      refine lv_iload hx hb dX7_put_105 (lv_at hl 2 rfl) ?_
                      refine lv_if_lt (tgt := 147) hx hb dX7_put_107 (by decide) (fun c_17 => ?_) (fun c_17 => ?_)
                      · skip
                        refine lv_aload_n hx hb dX7_put_147 rfl (lv_at hl 0 rfl) ?_
                        refine wr_get hC hinRX7 hW (vM (by decide)) ce_m0 rfl 7 (by decide) hk0 rfl dX7_put_148 ?_
                        exact we_i hC hr hlocks (congrArg Prod.snd hR).symm (congrArg (fun u => wset Z 12 u.1) hR).symm hW hS dX7_put_151
                      · exact absurd (show (nI 0 + (-1) : Int32) < 0 by decide) c_17
                    | succ u ih =>
                      intro B hu hlu hR H locs ls hW hS hl
                      simp only [LX7_pp] at hR
                      rw [pk_m1] at hl
                      rw [show ((u + 1 : Nat) : Int) = (u : Int) + 1 by omega] at hlu
                      refine lv_iload hx hb dX7_put_105 (lv_at hl 2 rfl) ?_
                      refine lv_if_lt (tgt := 147) hx hb dX7_put_107 (by decide) (fun c_18 => ?_) (fun c_18 => ?_)
                      · exact absurd c_18 (nI_pos (by omega))
                      · skip
                        refine lv_aload_n hx hb dX7_put_110 rfl (lv_at hl 0 rfl) ?_
                        refine wr_get hC hinRX7 hW (vM (by decide)) ce_m0 rfl 6 (by decide) hk1 rfl dX7_put_111 ?_
                        refine lv_aload_n hx hb dX7_put_114 rfl (lv_at hl 0 rfl) ?_
                        refine wr_get hC hinRX7 hW (vM (by decide)) ce_m0 rfl 7 (by decide) hk0 rfl dX7_put_115 ?_
                        refine lv_lload_n hx hb dX7_put_118 rfl (lv_at hl 1 rfl) ?_
                        refine lv_bipush (v := 8) hx hb dX7_put_119 (by decide) ?_
                        refine lv_iload hx hb dX7_put_121 (lv_at hl 2 rfl) ?_
                        refine lv_imul hx hb dX7_put_123 ?_
                        refine lv_re (y := nI (8 * u)) (pk_mul 8 u) ?_
                        refine lv_lushr (v := (a1.toUInt64 >>> ((nI (8 * u)).toInt64.toUInt64 &&& Int64.toUInt64 63)).toInt64) hx hb dX7_put_124 rfl ?_
                        refine lv_ldc2 (v := 255) hx hb hC.2.2.1 hk2 dX7_put_125 ?_
                        refine lv_land hx hb dX7_put_128 ?_
                        refine lv_l2i (v := (((a1.toUInt64 >>> ((nI (8 * u)).toInt64.toUInt64 &&& Int64.toUInt64 63)).toInt64) &&& 255).toInt32) hx hb dX7_put_129 rfl ?_
                        refine wr_ast (kA := 0) (Z' := wset Z 12 (bput B 6 (B 0 1).toNatClampNeg ((((a1.toUInt64 >>> ((nI (8 * u)).toInt64.toUInt64 &&& Int64.toUInt64 63)).toInt64) &&& 255).toInt32))) hC hW hS (vM (by decide)) ce_m6 rfl (len_in hlu) wset_off pu_m6 dX7_put_130 (fun H locs hW hS => ?_)
                        refine lv_aload_n hx hb dX7_put_131 rfl (lv_at hl 0 rfl) ?_
                        refine lv_dup hx hb dX7_put_132 rfl ?_
                        refine wr_get hC hinRX7 hW (vM (by decide)) ce_m0 rfl 7 (by decide) hk0 rfl dX7_put_133 ?_
                        refine lv_re (y := B 0 1) (bput_j (by omega)) ?_
                        refine lv_iconst (v := 1) hx hb dX7_put_136 (by decide) ?_
                        refine lv_iadd hx hb dX7_put_137 ?_
                        refine wr_put (Z' := wset Z 12 (bput (bput B 6 (B 0 1).toNatClampNeg ((((a1.toUInt64 >>> ((nI (8 * u)).toInt64.toUInt64 &&& Int64.toUInt64 63)).toInt64) &&& 255).toInt32)) 0 1 ((B 0 1) + 1))) (v := .int ((B 0 1) + 1)) hC hinRX7 tyX7 tyX7_ok nmX7 hW hS (vM (by decide)) ce_m0 rfl 7 (by decide) hk0 rfl (tyX7_ok 7 (by decide)) rfl rfl (Nat.le_of_ble_eq_true rfl) wset_off pu_m0_1 dX7_put_138 (fun H locs hW hS => ?_)
                        refine lv_iinc (v := (nI u) + (-1)) (lv' := [(7, .int ((nI u) + (-1))), (0, .ref (G.2.2.1 12 0)), (1, .long a1)]) hx hb dX7_put_141 hl (k := 2) rfl (rfl) (by decide) rfl (fun ls hl => ?_)
                        refine lv_goto (tgt := 105) hx hb dX7_put_144 (by decide) ?_
                        exact ih (bput (bput B 6 (B 0 1).toNatClampNeg ((((a1.toUInt64 >>> ((nI (8 * u)).toInt64.toUInt64 &&& Int64.toUInt64 63)).toInt64) &&& 255).toInt32)) 0 1 ((B 0 1) + 1)) (by omega) (len_s hlu) hR _ _ _ hW hS (lv_sub hl [1, 2, 0] rfl)
                  exact hlp_16 k B (by omega) hkk hR _ _ _ hW hS (lv_sub hl [1, 2, 0] rfl)
                · skip
                  try rw [if_neg c_15] at hR
                  refine lv_bipush (v := (-4)) hx hb dX7_put_97 (by decide) ?_
                  exact we_i hC hr hlocks (congrArg Prod.snd hR).symm (congrArg (fun u => wset Z 12 u.1) hR).symm hW hS dX7_put_99
              · skip
                try rw [if_neg c_14] at hR
                refine lv_bipush (v := (-2)) hx hb dX7_put_83 (by decide) ?_
                exact we_i hC hr hlocks (congrArg Prod.snd hR).symm (congrArg (fun u => wset Z 12 u.1) hR).symm hW hS dX7_put_85
        · skip
          try rw [if_neg c_11] at hR
          refine lv_iload hx hb dX7_put_25 (lv_at hl 3 rfl) ?_
          refine lv_if_ne (tgt := 47) hx hb dX7_put_27 (by decide) (fun c_19 => ?_) (fun c_19 => ?_)
          · skip
            try rw [if_neg c_19] at hR
            refine lv_iconst (v := 1) hx hb dX7_put_47 (by decide) ?_
            refine lv_goto (tgt := 52) hx hb dX7_put_48 (by decide) ?_
            refine lv_istore (lv' := [(4, .int 1), (0, .ref (G.2.2.1 12 0)), (1, .long a1), (3, .int (nI k)), (5, .long x)]) hx hb dX7_put_52 hl (by decide) rfl (fun ls hl => ?_)
            refine lv_lload hx hb dX7_put_54 (lv_at hl 4 rfl) ?_
            refine lv_bipush (v := 8) hx hb dX7_put_56 (by decide) ?_
            refine lv_lushr (v := (x.toUInt64 >>> ((8 : Int32).toInt64.toUInt64 &&& Int64.toUInt64 63)).toInt64) hx hb dX7_put_58 rfl ?_
            refine lv_topl (fun x_20 ex_20 => ?_)
            try rw [← ex_20] at hR
            refine lv_lstore (lv' := [(5, .long x_20), (4, .int 1), (0, .ref (G.2.2.1 12 0)), (1, .long a1), (3, .int (nI k))]) hx hb dX7_put_59 hl (by decide) rfl (fun ls hl => ?_)
            refine lv_iinc (v := nI (k + 1)) (lv' := [(3, .int (nI (k + 1))), (5, .long x_20), (4, .int 1), (0, .ref (G.2.2.1 12 0)), (1, .long a1)]) hx hb dX7_put_61 hl (k := 4) rfl (nI_1 _) (by decide) rfl (fun ls hl => ?_)
            refine lv_goto (tgt := 8) hx hb dX7_put_64 (by decide) ?_
            exact ih (k + 1) 1 x_20 (by omega) hR _ _ _ hW hS (lv_sub hl [3, 4, 0, 2, 1] rfl)
          · skip
            try rw [if_pos c_19] at hR
            refine lv_lload hx hb dX7_put_30 (lv_at hl 4 rfl) ?_
            refine lv_ldc2 (v := 255) hx hb hC.2.2.1 hk2 dX7_put_32 ?_
            refine lv_land hx hb dX7_put_35 ?_
            refine lv_l2i (v := (x &&& 255).toInt32) hx hb dX7_put_36 rfl ?_
            refine lv_bipush (v := 33) hx hb dX7_put_37 (by decide) ?_
            refine lv_bipush (v := 126) hx hb dX7_put_39 (by decide) ?_
            refine wc_s hC hml (kX7_in l G (wset Z 12 B) ((x &&& 255).toInt32) 33 126) (cwS 3 hts gX7_put_X7_in rfl rfl rfl (by decide +kernel) ⟨Nat.le_of_ble_eq_true rfl, Nat.le_of_ble_eq_true rfl⟩) hW hS rfl rfl hl.1 (Nat.le_of_ble_eq_true rfl) dX7_put_41 (fun H locs hW hS => ?_)
            refine lv_topi (fun x_21 ex_21 => ?_)
            try rw [← ex_21] at hR
            refine lv_if_ne (tgt := 51) hx hb dX7_put_44 (by decide) (fun c_22 => ?_) (fun c_22 => ?_)
            · skip
              try rw [if_neg c_22] at hR
              refine lv_iconst (v := 0) hx hb dX7_put_51 (by decide) ?_
              refine lv_istore (lv' := [(4, .int 0), (0, .ref (G.2.2.1 12 0)), (1, .long a1), (3, .int (nI k)), (5, .long x)]) hx hb dX7_put_52 hl (by decide) rfl (fun ls hl => ?_)
              refine lv_lload hx hb dX7_put_54 (lv_at hl 4 rfl) ?_
              refine lv_bipush (v := 8) hx hb dX7_put_56 (by decide) ?_
              refine lv_lushr (v := (x.toUInt64 >>> ((8 : Int32).toInt64.toUInt64 &&& Int64.toUInt64 63)).toInt64) hx hb dX7_put_58 rfl ?_
              refine lv_topl (fun x_23 ex_23 => ?_)
              try rw [← ex_23] at hR
              refine lv_lstore (lv' := [(5, .long x_23), (4, .int 0), (0, .ref (G.2.2.1 12 0)), (1, .long a1), (3, .int (nI k))]) hx hb dX7_put_59 hl (by decide) rfl (fun ls hl => ?_)
              refine lv_iinc (v := nI (k + 1)) (lv' := [(3, .int (nI (k + 1))), (5, .long x_23), (4, .int 0), (0, .ref (G.2.2.1 12 0)), (1, .long a1)]) hx hb dX7_put_61 hl (k := 4) rfl (nI_1 _) (by decide) rfl (fun ls hl => ?_)
              refine lv_goto (tgt := 8) hx hb dX7_put_64 (by decide) ?_
              exact ih (k + 1) 0 x_23 (by omega) hR _ _ _ hW hS (lv_sub hl [3, 4, 0, 2, 1] rfl)
            · skip
              try rw [if_pos c_22] at hR
              refine lv_iconst (v := 1) hx hb dX7_put_47 (by decide) ?_
              refine lv_goto (tgt := 52) hx hb dX7_put_48 (by decide) ?_
              refine lv_istore (lv' := [(4, .int 1), (0, .ref (G.2.2.1 12 0)), (1, .long a1), (3, .int (nI k)), (5, .long x)]) hx hb dX7_put_52 hl (by decide) rfl (fun ls hl => ?_)
              refine lv_lload hx hb dX7_put_54 (lv_at hl 4 rfl) ?_
              refine lv_bipush (v := 8) hx hb dX7_put_56 (by decide) ?_
              refine lv_lushr (v := (x.toUInt64 >>> ((8 : Int32).toInt64.toUInt64 &&& Int64.toUInt64 63)).toInt64) hx hb dX7_put_58 rfl ?_
              refine lv_topl (fun x_24 ex_24 => ?_)
              try rw [← ex_24] at hR
              refine lv_lstore (lv' := [(5, .long x_24), (4, .int 1), (0, .ref (G.2.2.1 12 0)), (1, .long a1), (3, .int (nI k))]) hx hb dX7_put_59 hl (by decide) rfl (fun ls hl => ?_)
              refine lv_iinc (v := nI (k + 1)) (lv' := [(3, .int (nI (k + 1))), (5, .long x_24), (4, .int 1), (0, .ref (G.2.2.1 12 0)), (1, .long a1)]) hx hb dX7_put_61 hl (k := 4) rfl (nI_1 _) (by decide) rfl (fun ls hl => ?_)
              refine lv_goto (tgt := 8) hx hb dX7_put_64 (by decide) ?_
              exact ih (k + 1) 1 x_24 (by omega) hR _ _ _ hW hS (lv_sub hl [3, 4, 0, 2, 1] rfl)
  exact hlp_1 8 0 0 a1 rfl hR _ _ _ hW hS (lv_sub hl [3, 4, 2, 1, 0] rfl)
theorem many_lt {x : Int32} (h : 0 ≤ x.toInt ∧ x.toInt ≤ 4) (hne : ¬ x = 4) : ¬ x < 0 ∧ x.toNatClampNeg < 4 := by
  have h1 := tn_of h.1
  have h2 : ¬ x.toInt = 4 := fun e => hne (Int32.toInt_inj.mp (e.trans (by decide)))
  exact ⟨h1.1, by omega⟩
def fX7_addsShaft (B : wB) (a1 : Int32) : wB × Int32 :=
  if a1 = 1 then (if (B 1 6) = 4 then (B, (-4))
    else ((bput (bput (bput (bput (bput (bput (bput (bput (bput (bput (bput (bput (bput (bput (bput (bput B 1 (7 + 14 * ((B 1 6).toNatClampNeg) + 0) 0) 1 (7 + 14 * ((B 1 6).toNatClampNeg) + 1) 0) 1 (7 + 14 * ((B 1 6).toNatClampNeg) + 2) 0) 1 (7 + 14 * ((B 1 6).toNatClampNeg) + 3) 0) 1 (7 + 14 * ((B 1 6).toNatClampNeg) + 4) 0) 1 (7 + 14 * ((B 1 6).toNatClampNeg) + 5) 0) 1 (7 + 14 * ((B 1 6).toNatClampNeg) + 6) 0) 1 (7 + 14 * ((B 1 6).toNatClampNeg) + 7) 0) 1 (7 + 14 * ((B 1 6).toNatClampNeg) + 8) 0) 1 (7 + 14 * ((B 1 6).toNatClampNeg) + 9) 0) 1 (7 + 14 * ((B 1 6).toNatClampNeg) + 10) 0) 1 (7 + 14 * ((B 1 6).toNatClampNeg) + 11) 0) 1 (7 + 14 * ((B 1 6).toNatClampNeg) + 12) 0) 1 (7 + 14 * ((B 1 6).toNatClampNeg) + 13) 0) 1 (7 + 14 * ((B 1 6).toNatClampNeg) + 0) a1) 1 6 ((B 1 6) + 1)), ((B 1 6) + 1) - 1))
  else if a1 = 2 then (if (B 1 6) = 4 then (B, (-4))
    else ((bput (bput (bput (bput (bput (bput (bput (bput (bput (bput (bput (bput (bput (bput (bput (bput B 1 (7 + 14 * ((B 1 6).toNatClampNeg) + 0) 0) 1 (7 + 14 * ((B 1 6).toNatClampNeg) + 1) 0) 1 (7 + 14 * ((B 1 6).toNatClampNeg) + 2) 0) 1 (7 + 14 * ((B 1 6).toNatClampNeg) + 3) 0) 1 (7 + 14 * ((B 1 6).toNatClampNeg) + 4) 0) 1 (7 + 14 * ((B 1 6).toNatClampNeg) + 5) 0) 1 (7 + 14 * ((B 1 6).toNatClampNeg) + 6) 0) 1 (7 + 14 * ((B 1 6).toNatClampNeg) + 7) 0) 1 (7 + 14 * ((B 1 6).toNatClampNeg) + 8) 0) 1 (7 + 14 * ((B 1 6).toNatClampNeg) + 9) 0) 1 (7 + 14 * ((B 1 6).toNatClampNeg) + 10) 0) 1 (7 + 14 * ((B 1 6).toNatClampNeg) + 11) 0) 1 (7 + 14 * ((B 1 6).toNatClampNeg) + 12) 0) 1 (7 + 14 * ((B 1 6).toNatClampNeg) + 13) 0) 1 (7 + 14 * ((B 1 6).toNatClampNeg) + 0) a1) 1 6 ((B 1 6) + 1)), ((B 1 6) + 1) - 1))
  else if a1 = 4 then (if (B 1 6) = 4 then (B, (-4))
    else ((bput (bput (bput (bput (bput (bput (bput (bput (bput (bput (bput (bput (bput (bput (bput (bput B 1 (7 + 14 * ((B 1 6).toNatClampNeg) + 0) 0) 1 (7 + 14 * ((B 1 6).toNatClampNeg) + 1) 0) 1 (7 + 14 * ((B 1 6).toNatClampNeg) + 2) 0) 1 (7 + 14 * ((B 1 6).toNatClampNeg) + 3) 0) 1 (7 + 14 * ((B 1 6).toNatClampNeg) + 4) 0) 1 (7 + 14 * ((B 1 6).toNatClampNeg) + 5) 0) 1 (7 + 14 * ((B 1 6).toNatClampNeg) + 6) 0) 1 (7 + 14 * ((B 1 6).toNatClampNeg) + 7) 0) 1 (7 + 14 * ((B 1 6).toNatClampNeg) + 8) 0) 1 (7 + 14 * ((B 1 6).toNatClampNeg) + 9) 0) 1 (7 + 14 * ((B 1 6).toNatClampNeg) + 10) 0) 1 (7 + 14 * ((B 1 6).toNatClampNeg) + 11) 0) 1 (7 + 14 * ((B 1 6).toNatClampNeg) + 12) 0) 1 (7 + 14 * ((B 1 6).toNatClampNeg) + 13) 0) 1 (7 + 14 * ((B 1 6).toNatClampNeg) + 0) a1) 1 6 ((B 1 6) + 1)), ((B 1 6) + 1) - 1))
  else (B, (-2))
abbrev rX7_addsShaft : Room := { frames := 1, cells := 0, slots := 0, locals := 21 }
set_option maxHeartbeats 4000000 in
set_option maxRecDepth 100000 in
theorem kX7_addsShaft (l : Launch) (G : wG) (Z : wZ) (B : wB) (a1 : Int32) (hm : 0 ≤ (B 1 6).toInt ∧ (B 1 6).toInt ≤ 4) : mI l yX7_addsShaft wsX7_addsShaft rX7_addsShaft G [.ref (G.2.2.1 12 0), .int a1] (wset Z 12 B) (fX7_addsShaft B a1).2 (wset Z 12 (fX7_addsShaft B a1).1) := by
  refine Met.ofW (cc := cX7_addsShaft) (maxL := 3) (ret := (some .int)) (by decide) rfl ?_
  intro p e s m args below meth c s₁ B0 hml hv
  obtain ⟨rfl, hW, hK, hL⟩ := hv
  have hlocks := B0.notSynchronized
  have hr := B0.returns
  have hC : wX p s m c cX7_addsShaft _ wsX7_addsShaft RX7 G := ⟨B0.exec, B0.bytes, findClass_of_methodNamed B0.named, atoms_spec (ws := wsX7_addsShaft) B0.pre, hK, hL⟩
  have hx := hC.1
  have hb := hC.2.1
  have hts := hC.2.2.2.1
  have hinRX7 : ∀ w ∈ wsX70, w ∈ wsX7_addsShaft := by decide +kernel
  have hk0 := hts (.fieldLink RX7 7 "RampShaftsModel" "s" "[I") (by decide +kernel)
  have hS : va_S (wA G) s.heap s.heap [] := va_S.rf
  have hl := lv_entry ([.ref (G.2.2.1 12 0), .int a1]) (n := 3) (Nat.le_of_ble_eq_true rfl)
  rw [lg_entry_eq]
  generalize (lg_sl ([.ref (G.2.2.1 12 0), .int a1]) ++ List.replicate (3 - (lg_sl ([.ref (G.2.2.1 12 0), .int a1])).length) Slot.unset).toArray = ls at hl ⊢
  have hl : lv_has ls 3 [(0, .ref (G.2.2.1 12 0)), (1, .int a1)] := hl
  refine lv_iload_n hx hb dX7_addsShaft_0 rfl (lv_at hl 1 rfl) ?_
  refine lv_iconst (v := 1) hx hb dX7_addsShaft_1 (by decide) ?_
  refine lv_icmp_eq (tgt := 18) hx hb dX7_addsShaft_2 (by decide) (fun c_1 => ?_) (fun c_1 => ?_)
  · skip
    refine lv_aload_n hx hb dX7_addsShaft_18 rfl (lv_at hl 0 rfl) ?_
    refine wr_get hC hinRX7 hW (vM (by decide)) ce_m0 rfl 0 (by decide) hk0 rfl dX7_addsShaft_19 ?_
    refine lv_bipush (v := 6) hx hb dX7_addsShaft_22 (by decide) ?_
    refine wr_ald (kA := 0) hC hW (vM (by decide)) ce_m1 rfl (vp_in_iff.mpr (by decide)) dX7_addsShaft_24 ?_
    refine lv_re (y := B 1 6) ((congrArg (B 1) (show (6 : Int32).toNatClampNeg = 6 by decide))) ?_
    refine lv_iconst (v := 4) hx hb dX7_addsShaft_25 (by decide) ?_
    refine lv_icmp_ne (tgt := 32) hx hb dX7_addsShaft_26 (by decide) (fun c_2 => ?_) (fun c_2 => ?_)
    · skip
      refine lv_iconst (v := 0) hx hb dX7_addsShaft_32 (by decide) ?_
      refine lv_istore_n (lv' := [(2, .int 0), (0, .ref (G.2.2.1 12 0)), (1, .int a1)]) hx hb dX7_addsShaft_33 rfl hl (by decide) rfl (fun ls hl => ?_)
      refine lv_iload_n hx hb dX7_addsShaft_34 rfl (lv_at hl 0 rfl) ?_
      refine lv_bipush (v := 14) hx hb dX7_addsShaft_35 (by decide) ?_
      refine lv_icmp_ge (tgt := 63) hx hb dX7_addsShaft_37 (by decide) (fun c_3 => ?_) (fun c_3 => ?_)
      · exact absurd c_3 (by decide)
      · skip
        refine lv_aload_n hx hb dX7_addsShaft_40 rfl (lv_at hl 1 rfl) ?_
        refine wr_get hC hinRX7 hW (vM (by decide)) ce_m0 rfl 0 (by decide) hk0 rfl dX7_addsShaft_41 ?_
        refine lv_aload_n hx hb dX7_addsShaft_44 rfl (lv_at hl 1 rfl) ?_
        refine wr_get hC hinRX7 hW (vM (by decide)) ce_m0 rfl 0 (by decide) hk0 rfl dX7_addsShaft_45 ?_
        refine lv_bipush (v := 6) hx hb dX7_addsShaft_48 (by decide) ?_
        refine wr_ald (kA := 0) hC hW (vM (by decide)) ce_m1 rfl (vp_in_iff.mpr (by decide)) dX7_addsShaft_50 ?_
        refine lv_re (y := B 1 6) ((congrArg (B 1) (show (6 : Int32).toNatClampNeg = 6 by decide))) ?_
        have hn9 := many_lt hm c_2
        have hn8 := hn9.2
        refine lv_re (nI_self hn9.1) ?_
        refine lv_iload_n hx hb dX7_addsShaft_51 rfl (lv_at hl 0 rfl) ?_
        refine wc_s hC hml (kX7_at l G (wset Z 12 B) ((B 1 6).toNatClampNeg) 0) (cwS 2 hts gX7_addsShaft_X7_at rfl rfl rfl (by decide +kernel) ⟨Nat.le_of_ble_eq_true rfl, Nat.le_of_ble_eq_true rfl⟩) hW hS rfl rfl hl.1 (Nat.le_of_ble_eq_true rfl) dX7_addsShaft_52 (fun H locs hW hS => ?_)
        refine lv_re (y := nI (7 + 14 * ((B 1 6).toNatClampNeg) + 0)) rfl ?_
        refine lv_iconst (v := 0) hx hb dX7_addsShaft_55 (by decide) ?_
        refine wr_ast (kA := 0) (Z' := wset Z 12 (bput B 1 (nI (7 + 14 * ((B 1 6).toNatClampNeg) + 0)).toNatClampNeg 0)) hC hW hS (vM (by decide)) ce_m1 rfl (vp_in_nI (show (7 + 14 * ((B 1 6).toNatClampNeg) + 0) < 100 by omega) (by decide)) wset_off pu_m1 dX7_addsShaft_56 (fun H locs hW hS => ?_)
        rw [nI_clamp (show (7 + 14 * ((B 1 6).toNatClampNeg) + 0) < 2 ^ 31 by omega)] at hW
        refine lv_iinc (v := 1) (lv' := [(2, .int 1), (0, .ref (G.2.2.1 12 0)), (1, .int a1)]) hx hb dX7_addsShaft_57 hl (k := 0) rfl (by decide) (by decide) rfl (fun ls hl => ?_)
        refine lv_goto (tgt := 34) hx hb dX7_addsShaft_60 (by decide) ?_
        refine lv_iload_n hx hb dX7_addsShaft_34 rfl (lv_at hl 0 rfl) ?_
        refine lv_bipush (v := 14) hx hb dX7_addsShaft_35 (by decide) ?_
        refine lv_icmp_ge (tgt := 63) hx hb dX7_addsShaft_37 (by decide) (fun c_4 => ?_) (fun c_4 => ?_)
        · exact absurd c_4 (by decide)
        · skip
          refine lv_aload_n hx hb dX7_addsShaft_40 rfl (lv_at hl 1 rfl) ?_
          refine wr_get hC hinRX7 hW (vM (by decide)) ce_m0 rfl 0 (by decide) hk0 rfl dX7_addsShaft_41 ?_
          refine lv_aload_n hx hb dX7_addsShaft_44 rfl (lv_at hl 1 rfl) ?_
          refine wr_get hC hinRX7 hW (vM (by decide)) ce_m0 rfl 0 (by decide) hk0 rfl dX7_addsShaft_45 ?_
          refine lv_bipush (v := 6) hx hb dX7_addsShaft_48 (by decide) ?_
          refine wr_ald (kA := 0) hC hW (vM (by decide)) ce_m1 rfl (vp_in_iff.mpr (by decide)) dX7_addsShaft_50 ?_
          refine lv_re (y := B 1 6) (((congrArg ((bput B 1 (7 + 14 * ((B 1 6).toNatClampNeg) + 0) 0) 1) (show (6 : Int32).toNatClampNeg = 6 by decide))).trans (bput_q (by omega))) ?_
          refine lv_re (nI_self hn9.1) ?_
          refine lv_iload_n hx hb dX7_addsShaft_51 rfl (lv_at hl 0 rfl) ?_
          refine wc_s hC hml (kX7_at l G (wset Z 12 (bput B 1 (7 + 14 * ((B 1 6).toNatClampNeg) + 0) 0)) ((B 1 6).toNatClampNeg) 1) (cwS 2 hts gX7_addsShaft_X7_at rfl rfl rfl (by decide +kernel) ⟨Nat.le_of_ble_eq_true rfl, Nat.le_of_ble_eq_true rfl⟩) hW hS rfl rfl hl.1 (Nat.le_of_ble_eq_true rfl) dX7_addsShaft_52 (fun H locs hW hS => ?_)
          refine lv_re (y := nI (7 + 14 * ((B 1 6).toNatClampNeg) + 1)) rfl ?_
          refine lv_iconst (v := 0) hx hb dX7_addsShaft_55 (by decide) ?_
          refine wr_ast (kA := 0) (Z' := wset Z 12 (bput (bput B 1 (7 + 14 * ((B 1 6).toNatClampNeg) + 0) 0) 1 (nI (7 + 14 * ((B 1 6).toNatClampNeg) + 1)).toNatClampNeg 0)) hC hW hS (vM (by decide)) ce_m1 rfl (vp_in_nI (show (7 + 14 * ((B 1 6).toNatClampNeg) + 1) < 100 by omega) (by decide)) wset_off pu_m1 dX7_addsShaft_56 (fun H locs hW hS => ?_)
          rw [nI_clamp (show (7 + 14 * ((B 1 6).toNatClampNeg) + 1) < 2 ^ 31 by omega)] at hW
          refine lv_iinc (v := 2) (lv' := [(2, .int 2), (0, .ref (G.2.2.1 12 0)), (1, .int a1)]) hx hb dX7_addsShaft_57 hl (k := 0) rfl (by decide) (by decide) rfl (fun ls hl => ?_)
          refine lv_goto (tgt := 34) hx hb dX7_addsShaft_60 (by decide) ?_
          refine lv_iload_n hx hb dX7_addsShaft_34 rfl (lv_at hl 0 rfl) ?_
          refine lv_bipush (v := 14) hx hb dX7_addsShaft_35 (by decide) ?_
          refine lv_icmp_ge (tgt := 63) hx hb dX7_addsShaft_37 (by decide) (fun c_5 => ?_) (fun c_5 => ?_)
          · exact absurd c_5 (by decide)
          · skip
            refine lv_aload_n hx hb dX7_addsShaft_40 rfl (lv_at hl 1 rfl) ?_
            refine wr_get hC hinRX7 hW (vM (by decide)) ce_m0 rfl 0 (by decide) hk0 rfl dX7_addsShaft_41 ?_
            refine lv_aload_n hx hb dX7_addsShaft_44 rfl (lv_at hl 1 rfl) ?_
            refine wr_get hC hinRX7 hW (vM (by decide)) ce_m0 rfl 0 (by decide) hk0 rfl dX7_addsShaft_45 ?_
            refine lv_bipush (v := 6) hx hb dX7_addsShaft_48 (by decide) ?_
            refine wr_ald (kA := 0) hC hW (vM (by decide)) ce_m1 rfl (vp_in_iff.mpr (by decide)) dX7_addsShaft_50 ?_
            refine lv_re (y := B 1 6) ((((congrArg ((bput (bput B 1 (7 + 14 * ((B 1 6).toNatClampNeg) + 0) 0) 1 (7 + 14 * ((B 1 6).toNatClampNeg) + 1) 0) 1) (show (6 : Int32).toNatClampNeg = 6 by decide))).trans (bput_q (by omega))).trans (bput_q (by omega))) ?_
            refine lv_re (nI_self hn9.1) ?_
            refine lv_iload_n hx hb dX7_addsShaft_51 rfl (lv_at hl 0 rfl) ?_
            refine wc_s hC hml (kX7_at l G (wset Z 12 (bput (bput B 1 (7 + 14 * ((B 1 6).toNatClampNeg) + 0) 0) 1 (7 + 14 * ((B 1 6).toNatClampNeg) + 1) 0)) ((B 1 6).toNatClampNeg) 2) (cwS 2 hts gX7_addsShaft_X7_at rfl rfl rfl (by decide +kernel) ⟨Nat.le_of_ble_eq_true rfl, Nat.le_of_ble_eq_true rfl⟩) hW hS rfl rfl hl.1 (Nat.le_of_ble_eq_true rfl) dX7_addsShaft_52 (fun H locs hW hS => ?_)
            refine lv_re (y := nI (7 + 14 * ((B 1 6).toNatClampNeg) + 2)) rfl ?_
            refine lv_iconst (v := 0) hx hb dX7_addsShaft_55 (by decide) ?_
            refine wr_ast (kA := 0) (Z' := wset Z 12 (bput (bput (bput B 1 (7 + 14 * ((B 1 6).toNatClampNeg) + 0) 0) 1 (7 + 14 * ((B 1 6).toNatClampNeg) + 1) 0) 1 (nI (7 + 14 * ((B 1 6).toNatClampNeg) + 2)).toNatClampNeg 0)) hC hW hS (vM (by decide)) ce_m1 rfl (vp_in_nI (show (7 + 14 * ((B 1 6).toNatClampNeg) + 2) < 100 by omega) (by decide)) wset_off pu_m1 dX7_addsShaft_56 (fun H locs hW hS => ?_)
            rw [nI_clamp (show (7 + 14 * ((B 1 6).toNatClampNeg) + 2) < 2 ^ 31 by omega)] at hW
            refine lv_iinc (v := 3) (lv' := [(2, .int 3), (0, .ref (G.2.2.1 12 0)), (1, .int a1)]) hx hb dX7_addsShaft_57 hl (k := 0) rfl (by decide) (by decide) rfl (fun ls hl => ?_)
            refine lv_goto (tgt := 34) hx hb dX7_addsShaft_60 (by decide) ?_
            refine lv_iload_n hx hb dX7_addsShaft_34 rfl (lv_at hl 0 rfl) ?_
            refine lv_bipush (v := 14) hx hb dX7_addsShaft_35 (by decide) ?_
            refine lv_icmp_ge (tgt := 63) hx hb dX7_addsShaft_37 (by decide) (fun c_6 => ?_) (fun c_6 => ?_)
            · exact absurd c_6 (by decide)
            · skip
              refine lv_aload_n hx hb dX7_addsShaft_40 rfl (lv_at hl 1 rfl) ?_
              refine wr_get hC hinRX7 hW (vM (by decide)) ce_m0 rfl 0 (by decide) hk0 rfl dX7_addsShaft_41 ?_
              refine lv_aload_n hx hb dX7_addsShaft_44 rfl (lv_at hl 1 rfl) ?_
              refine wr_get hC hinRX7 hW (vM (by decide)) ce_m0 rfl 0 (by decide) hk0 rfl dX7_addsShaft_45 ?_
              refine lv_bipush (v := 6) hx hb dX7_addsShaft_48 (by decide) ?_
              refine wr_ald (kA := 0) hC hW (vM (by decide)) ce_m1 rfl (vp_in_iff.mpr (by decide)) dX7_addsShaft_50 ?_
              refine lv_re (y := B 1 6) (((((congrArg ((bput (bput (bput B 1 (7 + 14 * ((B 1 6).toNatClampNeg) + 0) 0) 1 (7 + 14 * ((B 1 6).toNatClampNeg) + 1) 0) 1 (7 + 14 * ((B 1 6).toNatClampNeg) + 2) 0) 1) (show (6 : Int32).toNatClampNeg = 6 by decide))).trans (bput_q (by omega))).trans (bput_q (by omega))).trans (bput_q (by omega))) ?_
              refine lv_re (nI_self hn9.1) ?_
              refine lv_iload_n hx hb dX7_addsShaft_51 rfl (lv_at hl 0 rfl) ?_
              refine wc_s hC hml (kX7_at l G (wset Z 12 (bput (bput (bput B 1 (7 + 14 * ((B 1 6).toNatClampNeg) + 0) 0) 1 (7 + 14 * ((B 1 6).toNatClampNeg) + 1) 0) 1 (7 + 14 * ((B 1 6).toNatClampNeg) + 2) 0)) ((B 1 6).toNatClampNeg) 3) (cwS 2 hts gX7_addsShaft_X7_at rfl rfl rfl (by decide +kernel) ⟨Nat.le_of_ble_eq_true rfl, Nat.le_of_ble_eq_true rfl⟩) hW hS rfl rfl hl.1 (Nat.le_of_ble_eq_true rfl) dX7_addsShaft_52 (fun H locs hW hS => ?_)
              refine lv_re (y := nI (7 + 14 * ((B 1 6).toNatClampNeg) + 3)) rfl ?_
              refine lv_iconst (v := 0) hx hb dX7_addsShaft_55 (by decide) ?_
              refine wr_ast (kA := 0) (Z' := wset Z 12 (bput (bput (bput (bput B 1 (7 + 14 * ((B 1 6).toNatClampNeg) + 0) 0) 1 (7 + 14 * ((B 1 6).toNatClampNeg) + 1) 0) 1 (7 + 14 * ((B 1 6).toNatClampNeg) + 2) 0) 1 (nI (7 + 14 * ((B 1 6).toNatClampNeg) + 3)).toNatClampNeg 0)) hC hW hS (vM (by decide)) ce_m1 rfl (vp_in_nI (show (7 + 14 * ((B 1 6).toNatClampNeg) + 3) < 100 by omega) (by decide)) wset_off pu_m1 dX7_addsShaft_56 (fun H locs hW hS => ?_)
              rw [nI_clamp (show (7 + 14 * ((B 1 6).toNatClampNeg) + 3) < 2 ^ 31 by omega)] at hW
              refine lv_iinc (v := 4) (lv' := [(2, .int 4), (0, .ref (G.2.2.1 12 0)), (1, .int a1)]) hx hb dX7_addsShaft_57 hl (k := 0) rfl (by decide) (by decide) rfl (fun ls hl => ?_)
              refine lv_goto (tgt := 34) hx hb dX7_addsShaft_60 (by decide) ?_
              refine lv_iload_n hx hb dX7_addsShaft_34 rfl (lv_at hl 0 rfl) ?_
              refine lv_bipush (v := 14) hx hb dX7_addsShaft_35 (by decide) ?_
              refine lv_icmp_ge (tgt := 63) hx hb dX7_addsShaft_37 (by decide) (fun c_7 => ?_) (fun c_7 => ?_)
              · exact absurd c_7 (by decide)
              · skip
                refine lv_aload_n hx hb dX7_addsShaft_40 rfl (lv_at hl 1 rfl) ?_
                refine wr_get hC hinRX7 hW (vM (by decide)) ce_m0 rfl 0 (by decide) hk0 rfl dX7_addsShaft_41 ?_
                refine lv_aload_n hx hb dX7_addsShaft_44 rfl (lv_at hl 1 rfl) ?_
                refine wr_get hC hinRX7 hW (vM (by decide)) ce_m0 rfl 0 (by decide) hk0 rfl dX7_addsShaft_45 ?_
                refine lv_bipush (v := 6) hx hb dX7_addsShaft_48 (by decide) ?_
                refine wr_ald (kA := 0) hC hW (vM (by decide)) ce_m1 rfl (vp_in_iff.mpr (by decide)) dX7_addsShaft_50 ?_
                refine lv_re (y := B 1 6) ((((((congrArg ((bput (bput (bput (bput B 1 (7 + 14 * ((B 1 6).toNatClampNeg) + 0) 0) 1 (7 + 14 * ((B 1 6).toNatClampNeg) + 1) 0) 1 (7 + 14 * ((B 1 6).toNatClampNeg) + 2) 0) 1 (7 + 14 * ((B 1 6).toNatClampNeg) + 3) 0) 1) (show (6 : Int32).toNatClampNeg = 6 by decide))).trans (bput_q (by omega))).trans (bput_q (by omega))).trans (bput_q (by omega))).trans (bput_q (by omega))) ?_
                refine lv_re (nI_self hn9.1) ?_
                refine lv_iload_n hx hb dX7_addsShaft_51 rfl (lv_at hl 0 rfl) ?_
                refine wc_s hC hml (kX7_at l G (wset Z 12 (bput (bput (bput (bput B 1 (7 + 14 * ((B 1 6).toNatClampNeg) + 0) 0) 1 (7 + 14 * ((B 1 6).toNatClampNeg) + 1) 0) 1 (7 + 14 * ((B 1 6).toNatClampNeg) + 2) 0) 1 (7 + 14 * ((B 1 6).toNatClampNeg) + 3) 0)) ((B 1 6).toNatClampNeg) 4) (cwS 2 hts gX7_addsShaft_X7_at rfl rfl rfl (by decide +kernel) ⟨Nat.le_of_ble_eq_true rfl, Nat.le_of_ble_eq_true rfl⟩) hW hS rfl rfl hl.1 (Nat.le_of_ble_eq_true rfl) dX7_addsShaft_52 (fun H locs hW hS => ?_)
                refine lv_re (y := nI (7 + 14 * ((B 1 6).toNatClampNeg) + 4)) rfl ?_
                refine lv_iconst (v := 0) hx hb dX7_addsShaft_55 (by decide) ?_
                refine wr_ast (kA := 0) (Z' := wset Z 12 (bput (bput (bput (bput (bput B 1 (7 + 14 * ((B 1 6).toNatClampNeg) + 0) 0) 1 (7 + 14 * ((B 1 6).toNatClampNeg) + 1) 0) 1 (7 + 14 * ((B 1 6).toNatClampNeg) + 2) 0) 1 (7 + 14 * ((B 1 6).toNatClampNeg) + 3) 0) 1 (nI (7 + 14 * ((B 1 6).toNatClampNeg) + 4)).toNatClampNeg 0)) hC hW hS (vM (by decide)) ce_m1 rfl (vp_in_nI (show (7 + 14 * ((B 1 6).toNatClampNeg) + 4) < 100 by omega) (by decide)) wset_off pu_m1 dX7_addsShaft_56 (fun H locs hW hS => ?_)
                rw [nI_clamp (show (7 + 14 * ((B 1 6).toNatClampNeg) + 4) < 2 ^ 31 by omega)] at hW
                refine lv_iinc (v := 5) (lv' := [(2, .int 5), (0, .ref (G.2.2.1 12 0)), (1, .int a1)]) hx hb dX7_addsShaft_57 hl (k := 0) rfl (by decide) (by decide) rfl (fun ls hl => ?_)
                refine lv_goto (tgt := 34) hx hb dX7_addsShaft_60 (by decide) ?_
                refine lv_iload_n hx hb dX7_addsShaft_34 rfl (lv_at hl 0 rfl) ?_
                refine lv_bipush (v := 14) hx hb dX7_addsShaft_35 (by decide) ?_
                refine lv_icmp_ge (tgt := 63) hx hb dX7_addsShaft_37 (by decide) (fun c_8 => ?_) (fun c_8 => ?_)
                · exact absurd c_8 (by decide)
                · skip
                  refine lv_aload_n hx hb dX7_addsShaft_40 rfl (lv_at hl 1 rfl) ?_
                  refine wr_get hC hinRX7 hW (vM (by decide)) ce_m0 rfl 0 (by decide) hk0 rfl dX7_addsShaft_41 ?_
                  refine lv_aload_n hx hb dX7_addsShaft_44 rfl (lv_at hl 1 rfl) ?_
                  refine wr_get hC hinRX7 hW (vM (by decide)) ce_m0 rfl 0 (by decide) hk0 rfl dX7_addsShaft_45 ?_
                  refine lv_bipush (v := 6) hx hb dX7_addsShaft_48 (by decide) ?_
                  refine wr_ald (kA := 0) hC hW (vM (by decide)) ce_m1 rfl (vp_in_iff.mpr (by decide)) dX7_addsShaft_50 ?_
                  refine lv_re (y := B 1 6) (((((((congrArg ((bput (bput (bput (bput (bput B 1 (7 + 14 * ((B 1 6).toNatClampNeg) + 0) 0) 1 (7 + 14 * ((B 1 6).toNatClampNeg) + 1) 0) 1 (7 + 14 * ((B 1 6).toNatClampNeg) + 2) 0) 1 (7 + 14 * ((B 1 6).toNatClampNeg) + 3) 0) 1 (7 + 14 * ((B 1 6).toNatClampNeg) + 4) 0) 1) (show (6 : Int32).toNatClampNeg = 6 by decide))).trans (bput_q (by omega))).trans (bput_q (by omega))).trans (bput_q (by omega))).trans (bput_q (by omega))).trans (bput_q (by omega))) ?_
                  refine lv_re (nI_self hn9.1) ?_
                  refine lv_iload_n hx hb dX7_addsShaft_51 rfl (lv_at hl 0 rfl) ?_
                  refine wc_s hC hml (kX7_at l G (wset Z 12 (bput (bput (bput (bput (bput B 1 (7 + 14 * ((B 1 6).toNatClampNeg) + 0) 0) 1 (7 + 14 * ((B 1 6).toNatClampNeg) + 1) 0) 1 (7 + 14 * ((B 1 6).toNatClampNeg) + 2) 0) 1 (7 + 14 * ((B 1 6).toNatClampNeg) + 3) 0) 1 (7 + 14 * ((B 1 6).toNatClampNeg) + 4) 0)) ((B 1 6).toNatClampNeg) 5) (cwS 2 hts gX7_addsShaft_X7_at rfl rfl rfl (by decide +kernel) ⟨Nat.le_of_ble_eq_true rfl, Nat.le_of_ble_eq_true rfl⟩) hW hS rfl rfl hl.1 (Nat.le_of_ble_eq_true rfl) dX7_addsShaft_52 (fun H locs hW hS => ?_)
                  refine lv_re (y := nI (7 + 14 * ((B 1 6).toNatClampNeg) + 5)) rfl ?_
                  refine lv_iconst (v := 0) hx hb dX7_addsShaft_55 (by decide) ?_
                  refine wr_ast (kA := 0) (Z' := wset Z 12 (bput (bput (bput (bput (bput (bput B 1 (7 + 14 * ((B 1 6).toNatClampNeg) + 0) 0) 1 (7 + 14 * ((B 1 6).toNatClampNeg) + 1) 0) 1 (7 + 14 * ((B 1 6).toNatClampNeg) + 2) 0) 1 (7 + 14 * ((B 1 6).toNatClampNeg) + 3) 0) 1 (7 + 14 * ((B 1 6).toNatClampNeg) + 4) 0) 1 (nI (7 + 14 * ((B 1 6).toNatClampNeg) + 5)).toNatClampNeg 0)) hC hW hS (vM (by decide)) ce_m1 rfl (vp_in_nI (show (7 + 14 * ((B 1 6).toNatClampNeg) + 5) < 100 by omega) (by decide)) wset_off pu_m1 dX7_addsShaft_56 (fun H locs hW hS => ?_)
                  rw [nI_clamp (show (7 + 14 * ((B 1 6).toNatClampNeg) + 5) < 2 ^ 31 by omega)] at hW
                  refine lv_iinc (v := 6) (lv' := [(2, .int 6), (0, .ref (G.2.2.1 12 0)), (1, .int a1)]) hx hb dX7_addsShaft_57 hl (k := 0) rfl (by decide) (by decide) rfl (fun ls hl => ?_)
                  refine lv_goto (tgt := 34) hx hb dX7_addsShaft_60 (by decide) ?_
                  refine lv_iload_n hx hb dX7_addsShaft_34 rfl (lv_at hl 0 rfl) ?_
                  refine lv_bipush (v := 14) hx hb dX7_addsShaft_35 (by decide) ?_
                  refine lv_icmp_ge (tgt := 63) hx hb dX7_addsShaft_37 (by decide) (fun c_9 => ?_) (fun c_9 => ?_)
                  · exact absurd c_9 (by decide)
                  · skip
                    refine lv_aload_n hx hb dX7_addsShaft_40 rfl (lv_at hl 1 rfl) ?_
                    refine wr_get hC hinRX7 hW (vM (by decide)) ce_m0 rfl 0 (by decide) hk0 rfl dX7_addsShaft_41 ?_
                    refine lv_aload_n hx hb dX7_addsShaft_44 rfl (lv_at hl 1 rfl) ?_
                    refine wr_get hC hinRX7 hW (vM (by decide)) ce_m0 rfl 0 (by decide) hk0 rfl dX7_addsShaft_45 ?_
                    refine lv_bipush (v := 6) hx hb dX7_addsShaft_48 (by decide) ?_
                    refine wr_ald (kA := 0) hC hW (vM (by decide)) ce_m1 rfl (vp_in_iff.mpr (by decide)) dX7_addsShaft_50 ?_
                    refine lv_re (y := B 1 6) ((((((((congrArg ((bput (bput (bput (bput (bput (bput B 1 (7 + 14 * ((B 1 6).toNatClampNeg) + 0) 0) 1 (7 + 14 * ((B 1 6).toNatClampNeg) + 1) 0) 1 (7 + 14 * ((B 1 6).toNatClampNeg) + 2) 0) 1 (7 + 14 * ((B 1 6).toNatClampNeg) + 3) 0) 1 (7 + 14 * ((B 1 6).toNatClampNeg) + 4) 0) 1 (7 + 14 * ((B 1 6).toNatClampNeg) + 5) 0) 1) (show (6 : Int32).toNatClampNeg = 6 by decide))).trans (bput_q (by omega))).trans (bput_q (by omega))).trans (bput_q (by omega))).trans (bput_q (by omega))).trans (bput_q (by omega))).trans (bput_q (by omega))) ?_
                    refine lv_re (nI_self hn9.1) ?_
                    refine lv_iload_n hx hb dX7_addsShaft_51 rfl (lv_at hl 0 rfl) ?_
                    refine wc_s hC hml (kX7_at l G (wset Z 12 (bput (bput (bput (bput (bput (bput B 1 (7 + 14 * ((B 1 6).toNatClampNeg) + 0) 0) 1 (7 + 14 * ((B 1 6).toNatClampNeg) + 1) 0) 1 (7 + 14 * ((B 1 6).toNatClampNeg) + 2) 0) 1 (7 + 14 * ((B 1 6).toNatClampNeg) + 3) 0) 1 (7 + 14 * ((B 1 6).toNatClampNeg) + 4) 0) 1 (7 + 14 * ((B 1 6).toNatClampNeg) + 5) 0)) ((B 1 6).toNatClampNeg) 6) (cwS 2 hts gX7_addsShaft_X7_at rfl rfl rfl (by decide +kernel) ⟨Nat.le_of_ble_eq_true rfl, Nat.le_of_ble_eq_true rfl⟩) hW hS rfl rfl hl.1 (Nat.le_of_ble_eq_true rfl) dX7_addsShaft_52 (fun H locs hW hS => ?_)
                    refine lv_re (y := nI (7 + 14 * ((B 1 6).toNatClampNeg) + 6)) rfl ?_
                    refine lv_iconst (v := 0) hx hb dX7_addsShaft_55 (by decide) ?_
                    refine wr_ast (kA := 0) (Z' := wset Z 12 (bput (bput (bput (bput (bput (bput (bput B 1 (7 + 14 * ((B 1 6).toNatClampNeg) + 0) 0) 1 (7 + 14 * ((B 1 6).toNatClampNeg) + 1) 0) 1 (7 + 14 * ((B 1 6).toNatClampNeg) + 2) 0) 1 (7 + 14 * ((B 1 6).toNatClampNeg) + 3) 0) 1 (7 + 14 * ((B 1 6).toNatClampNeg) + 4) 0) 1 (7 + 14 * ((B 1 6).toNatClampNeg) + 5) 0) 1 (nI (7 + 14 * ((B 1 6).toNatClampNeg) + 6)).toNatClampNeg 0)) hC hW hS (vM (by decide)) ce_m1 rfl (vp_in_nI (show (7 + 14 * ((B 1 6).toNatClampNeg) + 6) < 100 by omega) (by decide)) wset_off pu_m1 dX7_addsShaft_56 (fun H locs hW hS => ?_)
                    rw [nI_clamp (show (7 + 14 * ((B 1 6).toNatClampNeg) + 6) < 2 ^ 31 by omega)] at hW
                    refine lv_iinc (v := 7) (lv' := [(2, .int 7), (0, .ref (G.2.2.1 12 0)), (1, .int a1)]) hx hb dX7_addsShaft_57 hl (k := 0) rfl (by decide) (by decide) rfl (fun ls hl => ?_)
                    refine lv_goto (tgt := 34) hx hb dX7_addsShaft_60 (by decide) ?_
                    refine lv_iload_n hx hb dX7_addsShaft_34 rfl (lv_at hl 0 rfl) ?_
                    refine lv_bipush (v := 14) hx hb dX7_addsShaft_35 (by decide) ?_
                    refine lv_icmp_ge (tgt := 63) hx hb dX7_addsShaft_37 (by decide) (fun c_10 => ?_) (fun c_10 => ?_)
                    · exact absurd c_10 (by decide)
                    · skip
                      refine lv_aload_n hx hb dX7_addsShaft_40 rfl (lv_at hl 1 rfl) ?_
                      refine wr_get hC hinRX7 hW (vM (by decide)) ce_m0 rfl 0 (by decide) hk0 rfl dX7_addsShaft_41 ?_
                      refine lv_aload_n hx hb dX7_addsShaft_44 rfl (lv_at hl 1 rfl) ?_
                      refine wr_get hC hinRX7 hW (vM (by decide)) ce_m0 rfl 0 (by decide) hk0 rfl dX7_addsShaft_45 ?_
                      refine lv_bipush (v := 6) hx hb dX7_addsShaft_48 (by decide) ?_
                      refine wr_ald (kA := 0) hC hW (vM (by decide)) ce_m1 rfl (vp_in_iff.mpr (by decide)) dX7_addsShaft_50 ?_
                      refine lv_re (y := B 1 6) (((((((((congrArg ((bput (bput (bput (bput (bput (bput (bput B 1 (7 + 14 * ((B 1 6).toNatClampNeg) + 0) 0) 1 (7 + 14 * ((B 1 6).toNatClampNeg) + 1) 0) 1 (7 + 14 * ((B 1 6).toNatClampNeg) + 2) 0) 1 (7 + 14 * ((B 1 6).toNatClampNeg) + 3) 0) 1 (7 + 14 * ((B 1 6).toNatClampNeg) + 4) 0) 1 (7 + 14 * ((B 1 6).toNatClampNeg) + 5) 0) 1 (7 + 14 * ((B 1 6).toNatClampNeg) + 6) 0) 1) (show (6 : Int32).toNatClampNeg = 6 by decide))).trans (bput_q (by omega))).trans (bput_q (by omega))).trans (bput_q (by omega))).trans (bput_q (by omega))).trans (bput_q (by omega))).trans (bput_q (by omega))).trans (bput_q (by omega))) ?_
                      refine lv_re (nI_self hn9.1) ?_
                      refine lv_iload_n hx hb dX7_addsShaft_51 rfl (lv_at hl 0 rfl) ?_
                      refine wc_s hC hml (kX7_at l G (wset Z 12 (bput (bput (bput (bput (bput (bput (bput B 1 (7 + 14 * ((B 1 6).toNatClampNeg) + 0) 0) 1 (7 + 14 * ((B 1 6).toNatClampNeg) + 1) 0) 1 (7 + 14 * ((B 1 6).toNatClampNeg) + 2) 0) 1 (7 + 14 * ((B 1 6).toNatClampNeg) + 3) 0) 1 (7 + 14 * ((B 1 6).toNatClampNeg) + 4) 0) 1 (7 + 14 * ((B 1 6).toNatClampNeg) + 5) 0) 1 (7 + 14 * ((B 1 6).toNatClampNeg) + 6) 0)) ((B 1 6).toNatClampNeg) 7) (cwS 2 hts gX7_addsShaft_X7_at rfl rfl rfl (by decide +kernel) ⟨Nat.le_of_ble_eq_true rfl, Nat.le_of_ble_eq_true rfl⟩) hW hS rfl rfl hl.1 (Nat.le_of_ble_eq_true rfl) dX7_addsShaft_52 (fun H locs hW hS => ?_)
                      refine lv_re (y := nI (7 + 14 * ((B 1 6).toNatClampNeg) + 7)) rfl ?_
                      refine lv_iconst (v := 0) hx hb dX7_addsShaft_55 (by decide) ?_
                      refine wr_ast (kA := 0) (Z' := wset Z 12 (bput (bput (bput (bput (bput (bput (bput (bput B 1 (7 + 14 * ((B 1 6).toNatClampNeg) + 0) 0) 1 (7 + 14 * ((B 1 6).toNatClampNeg) + 1) 0) 1 (7 + 14 * ((B 1 6).toNatClampNeg) + 2) 0) 1 (7 + 14 * ((B 1 6).toNatClampNeg) + 3) 0) 1 (7 + 14 * ((B 1 6).toNatClampNeg) + 4) 0) 1 (7 + 14 * ((B 1 6).toNatClampNeg) + 5) 0) 1 (7 + 14 * ((B 1 6).toNatClampNeg) + 6) 0) 1 (nI (7 + 14 * ((B 1 6).toNatClampNeg) + 7)).toNatClampNeg 0)) hC hW hS (vM (by decide)) ce_m1 rfl (vp_in_nI (show (7 + 14 * ((B 1 6).toNatClampNeg) + 7) < 100 by omega) (by decide)) wset_off pu_m1 dX7_addsShaft_56 (fun H locs hW hS => ?_)
                      rw [nI_clamp (show (7 + 14 * ((B 1 6).toNatClampNeg) + 7) < 2 ^ 31 by omega)] at hW
                      refine lv_iinc (v := 8) (lv' := [(2, .int 8), (0, .ref (G.2.2.1 12 0)), (1, .int a1)]) hx hb dX7_addsShaft_57 hl (k := 0) rfl (by decide) (by decide) rfl (fun ls hl => ?_)
                      refine lv_goto (tgt := 34) hx hb dX7_addsShaft_60 (by decide) ?_
                      refine lv_iload_n hx hb dX7_addsShaft_34 rfl (lv_at hl 0 rfl) ?_
                      refine lv_bipush (v := 14) hx hb dX7_addsShaft_35 (by decide) ?_
                      refine lv_icmp_ge (tgt := 63) hx hb dX7_addsShaft_37 (by decide) (fun c_11 => ?_) (fun c_11 => ?_)
                      · exact absurd c_11 (by decide)
                      · skip
                        refine lv_aload_n hx hb dX7_addsShaft_40 rfl (lv_at hl 1 rfl) ?_
                        refine wr_get hC hinRX7 hW (vM (by decide)) ce_m0 rfl 0 (by decide) hk0 rfl dX7_addsShaft_41 ?_
                        refine lv_aload_n hx hb dX7_addsShaft_44 rfl (lv_at hl 1 rfl) ?_
                        refine wr_get hC hinRX7 hW (vM (by decide)) ce_m0 rfl 0 (by decide) hk0 rfl dX7_addsShaft_45 ?_
                        refine lv_bipush (v := 6) hx hb dX7_addsShaft_48 (by decide) ?_
                        refine wr_ald (kA := 0) hC hW (vM (by decide)) ce_m1 rfl (vp_in_iff.mpr (by decide)) dX7_addsShaft_50 ?_
                        refine lv_re (y := B 1 6) ((((((((((congrArg ((bput (bput (bput (bput (bput (bput (bput (bput B 1 (7 + 14 * ((B 1 6).toNatClampNeg) + 0) 0) 1 (7 + 14 * ((B 1 6).toNatClampNeg) + 1) 0) 1 (7 + 14 * ((B 1 6).toNatClampNeg) + 2) 0) 1 (7 + 14 * ((B 1 6).toNatClampNeg) + 3) 0) 1 (7 + 14 * ((B 1 6).toNatClampNeg) + 4) 0) 1 (7 + 14 * ((B 1 6).toNatClampNeg) + 5) 0) 1 (7 + 14 * ((B 1 6).toNatClampNeg) + 6) 0) 1 (7 + 14 * ((B 1 6).toNatClampNeg) + 7) 0) 1) (show (6 : Int32).toNatClampNeg = 6 by decide))).trans (bput_q (by omega))).trans (bput_q (by omega))).trans (bput_q (by omega))).trans (bput_q (by omega))).trans (bput_q (by omega))).trans (bput_q (by omega))).trans (bput_q (by omega))).trans (bput_q (by omega))) ?_
                        refine lv_re (nI_self hn9.1) ?_
                        refine lv_iload_n hx hb dX7_addsShaft_51 rfl (lv_at hl 0 rfl) ?_
                        refine wc_s hC hml (kX7_at l G (wset Z 12 (bput (bput (bput (bput (bput (bput (bput (bput B 1 (7 + 14 * ((B 1 6).toNatClampNeg) + 0) 0) 1 (7 + 14 * ((B 1 6).toNatClampNeg) + 1) 0) 1 (7 + 14 * ((B 1 6).toNatClampNeg) + 2) 0) 1 (7 + 14 * ((B 1 6).toNatClampNeg) + 3) 0) 1 (7 + 14 * ((B 1 6).toNatClampNeg) + 4) 0) 1 (7 + 14 * ((B 1 6).toNatClampNeg) + 5) 0) 1 (7 + 14 * ((B 1 6).toNatClampNeg) + 6) 0) 1 (7 + 14 * ((B 1 6).toNatClampNeg) + 7) 0)) ((B 1 6).toNatClampNeg) 8) (cwS 2 hts gX7_addsShaft_X7_at rfl rfl rfl (by decide +kernel) ⟨Nat.le_of_ble_eq_true rfl, Nat.le_of_ble_eq_true rfl⟩) hW hS rfl rfl hl.1 (Nat.le_of_ble_eq_true rfl) dX7_addsShaft_52 (fun H locs hW hS => ?_)
                        refine lv_re (y := nI (7 + 14 * ((B 1 6).toNatClampNeg) + 8)) rfl ?_
                        refine lv_iconst (v := 0) hx hb dX7_addsShaft_55 (by decide) ?_
                        refine wr_ast (kA := 0) (Z' := wset Z 12 (bput (bput (bput (bput (bput (bput (bput (bput (bput B 1 (7 + 14 * ((B 1 6).toNatClampNeg) + 0) 0) 1 (7 + 14 * ((B 1 6).toNatClampNeg) + 1) 0) 1 (7 + 14 * ((B 1 6).toNatClampNeg) + 2) 0) 1 (7 + 14 * ((B 1 6).toNatClampNeg) + 3) 0) 1 (7 + 14 * ((B 1 6).toNatClampNeg) + 4) 0) 1 (7 + 14 * ((B 1 6).toNatClampNeg) + 5) 0) 1 (7 + 14 * ((B 1 6).toNatClampNeg) + 6) 0) 1 (7 + 14 * ((B 1 6).toNatClampNeg) + 7) 0) 1 (nI (7 + 14 * ((B 1 6).toNatClampNeg) + 8)).toNatClampNeg 0)) hC hW hS (vM (by decide)) ce_m1 rfl (vp_in_nI (show (7 + 14 * ((B 1 6).toNatClampNeg) + 8) < 100 by omega) (by decide)) wset_off pu_m1 dX7_addsShaft_56 (fun H locs hW hS => ?_)
                        rw [nI_clamp (show (7 + 14 * ((B 1 6).toNatClampNeg) + 8) < 2 ^ 31 by omega)] at hW
                        refine lv_iinc (v := 9) (lv' := [(2, .int 9), (0, .ref (G.2.2.1 12 0)), (1, .int a1)]) hx hb dX7_addsShaft_57 hl (k := 0) rfl (by decide) (by decide) rfl (fun ls hl => ?_)
                        refine lv_goto (tgt := 34) hx hb dX7_addsShaft_60 (by decide) ?_
                        refine lv_iload_n hx hb dX7_addsShaft_34 rfl (lv_at hl 0 rfl) ?_
                        refine lv_bipush (v := 14) hx hb dX7_addsShaft_35 (by decide) ?_
                        refine lv_icmp_ge (tgt := 63) hx hb dX7_addsShaft_37 (by decide) (fun c_12 => ?_) (fun c_12 => ?_)
                        · exact absurd c_12 (by decide)
                        · skip
                          refine lv_aload_n hx hb dX7_addsShaft_40 rfl (lv_at hl 1 rfl) ?_
                          refine wr_get hC hinRX7 hW (vM (by decide)) ce_m0 rfl 0 (by decide) hk0 rfl dX7_addsShaft_41 ?_
                          refine lv_aload_n hx hb dX7_addsShaft_44 rfl (lv_at hl 1 rfl) ?_
                          refine wr_get hC hinRX7 hW (vM (by decide)) ce_m0 rfl 0 (by decide) hk0 rfl dX7_addsShaft_45 ?_
                          refine lv_bipush (v := 6) hx hb dX7_addsShaft_48 (by decide) ?_
                          refine wr_ald (kA := 0) hC hW (vM (by decide)) ce_m1 rfl (vp_in_iff.mpr (by decide)) dX7_addsShaft_50 ?_
                          refine lv_re (y := B 1 6) (((((((((((congrArg ((bput (bput (bput (bput (bput (bput (bput (bput (bput B 1 (7 + 14 * ((B 1 6).toNatClampNeg) + 0) 0) 1 (7 + 14 * ((B 1 6).toNatClampNeg) + 1) 0) 1 (7 + 14 * ((B 1 6).toNatClampNeg) + 2) 0) 1 (7 + 14 * ((B 1 6).toNatClampNeg) + 3) 0) 1 (7 + 14 * ((B 1 6).toNatClampNeg) + 4) 0) 1 (7 + 14 * ((B 1 6).toNatClampNeg) + 5) 0) 1 (7 + 14 * ((B 1 6).toNatClampNeg) + 6) 0) 1 (7 + 14 * ((B 1 6).toNatClampNeg) + 7) 0) 1 (7 + 14 * ((B 1 6).toNatClampNeg) + 8) 0) 1) (show (6 : Int32).toNatClampNeg = 6 by decide))).trans (bput_q (by omega))).trans (bput_q (by omega))).trans (bput_q (by omega))).trans (bput_q (by omega))).trans (bput_q (by omega))).trans (bput_q (by omega))).trans (bput_q (by omega))).trans (bput_q (by omega))).trans (bput_q (by omega))) ?_
                          refine lv_re (nI_self hn9.1) ?_
                          refine lv_iload_n hx hb dX7_addsShaft_51 rfl (lv_at hl 0 rfl) ?_
                          refine wc_s hC hml (kX7_at l G (wset Z 12 (bput (bput (bput (bput (bput (bput (bput (bput (bput B 1 (7 + 14 * ((B 1 6).toNatClampNeg) + 0) 0) 1 (7 + 14 * ((B 1 6).toNatClampNeg) + 1) 0) 1 (7 + 14 * ((B 1 6).toNatClampNeg) + 2) 0) 1 (7 + 14 * ((B 1 6).toNatClampNeg) + 3) 0) 1 (7 + 14 * ((B 1 6).toNatClampNeg) + 4) 0) 1 (7 + 14 * ((B 1 6).toNatClampNeg) + 5) 0) 1 (7 + 14 * ((B 1 6).toNatClampNeg) + 6) 0) 1 (7 + 14 * ((B 1 6).toNatClampNeg) + 7) 0) 1 (7 + 14 * ((B 1 6).toNatClampNeg) + 8) 0)) ((B 1 6).toNatClampNeg) 9) (cwS 2 hts gX7_addsShaft_X7_at rfl rfl rfl (by decide +kernel) ⟨Nat.le_of_ble_eq_true rfl, Nat.le_of_ble_eq_true rfl⟩) hW hS rfl rfl hl.1 (Nat.le_of_ble_eq_true rfl) dX7_addsShaft_52 (fun H locs hW hS => ?_)
                          refine lv_re (y := nI (7 + 14 * ((B 1 6).toNatClampNeg) + 9)) rfl ?_
                          refine lv_iconst (v := 0) hx hb dX7_addsShaft_55 (by decide) ?_
                          refine wr_ast (kA := 0) (Z' := wset Z 12 (bput (bput (bput (bput (bput (bput (bput (bput (bput (bput B 1 (7 + 14 * ((B 1 6).toNatClampNeg) + 0) 0) 1 (7 + 14 * ((B 1 6).toNatClampNeg) + 1) 0) 1 (7 + 14 * ((B 1 6).toNatClampNeg) + 2) 0) 1 (7 + 14 * ((B 1 6).toNatClampNeg) + 3) 0) 1 (7 + 14 * ((B 1 6).toNatClampNeg) + 4) 0) 1 (7 + 14 * ((B 1 6).toNatClampNeg) + 5) 0) 1 (7 + 14 * ((B 1 6).toNatClampNeg) + 6) 0) 1 (7 + 14 * ((B 1 6).toNatClampNeg) + 7) 0) 1 (7 + 14 * ((B 1 6).toNatClampNeg) + 8) 0) 1 (nI (7 + 14 * ((B 1 6).toNatClampNeg) + 9)).toNatClampNeg 0)) hC hW hS (vM (by decide)) ce_m1 rfl (vp_in_nI (show (7 + 14 * ((B 1 6).toNatClampNeg) + 9) < 100 by omega) (by decide)) wset_off pu_m1 dX7_addsShaft_56 (fun H locs hW hS => ?_)
                          rw [nI_clamp (show (7 + 14 * ((B 1 6).toNatClampNeg) + 9) < 2 ^ 31 by omega)] at hW
                          refine lv_iinc (v := 10) (lv' := [(2, .int 10), (0, .ref (G.2.2.1 12 0)), (1, .int a1)]) hx hb dX7_addsShaft_57 hl (k := 0) rfl (by decide) (by decide) rfl (fun ls hl => ?_)
                          refine lv_goto (tgt := 34) hx hb dX7_addsShaft_60 (by decide) ?_
                          refine lv_iload_n hx hb dX7_addsShaft_34 rfl (lv_at hl 0 rfl) ?_
                          refine lv_bipush (v := 14) hx hb dX7_addsShaft_35 (by decide) ?_
                          refine lv_icmp_ge (tgt := 63) hx hb dX7_addsShaft_37 (by decide) (fun c_13 => ?_) (fun c_13 => ?_)
                          · exact absurd c_13 (by decide)
                          · skip
                            refine lv_aload_n hx hb dX7_addsShaft_40 rfl (lv_at hl 1 rfl) ?_
                            refine wr_get hC hinRX7 hW (vM (by decide)) ce_m0 rfl 0 (by decide) hk0 rfl dX7_addsShaft_41 ?_
                            refine lv_aload_n hx hb dX7_addsShaft_44 rfl (lv_at hl 1 rfl) ?_
                            refine wr_get hC hinRX7 hW (vM (by decide)) ce_m0 rfl 0 (by decide) hk0 rfl dX7_addsShaft_45 ?_
                            refine lv_bipush (v := 6) hx hb dX7_addsShaft_48 (by decide) ?_
                            refine wr_ald (kA := 0) hC hW (vM (by decide)) ce_m1 rfl (vp_in_iff.mpr (by decide)) dX7_addsShaft_50 ?_
                            refine lv_re (y := B 1 6) ((((((((((((congrArg ((bput (bput (bput (bput (bput (bput (bput (bput (bput (bput B 1 (7 + 14 * ((B 1 6).toNatClampNeg) + 0) 0) 1 (7 + 14 * ((B 1 6).toNatClampNeg) + 1) 0) 1 (7 + 14 * ((B 1 6).toNatClampNeg) + 2) 0) 1 (7 + 14 * ((B 1 6).toNatClampNeg) + 3) 0) 1 (7 + 14 * ((B 1 6).toNatClampNeg) + 4) 0) 1 (7 + 14 * ((B 1 6).toNatClampNeg) + 5) 0) 1 (7 + 14 * ((B 1 6).toNatClampNeg) + 6) 0) 1 (7 + 14 * ((B 1 6).toNatClampNeg) + 7) 0) 1 (7 + 14 * ((B 1 6).toNatClampNeg) + 8) 0) 1 (7 + 14 * ((B 1 6).toNatClampNeg) + 9) 0) 1) (show (6 : Int32).toNatClampNeg = 6 by decide))).trans (bput_q (by omega))).trans (bput_q (by omega))).trans (bput_q (by omega))).trans (bput_q (by omega))).trans (bput_q (by omega))).trans (bput_q (by omega))).trans (bput_q (by omega))).trans (bput_q (by omega))).trans (bput_q (by omega))).trans (bput_q (by omega))) ?_
                            refine lv_re (nI_self hn9.1) ?_
                            refine lv_iload_n hx hb dX7_addsShaft_51 rfl (lv_at hl 0 rfl) ?_
                            refine wc_s hC hml (kX7_at l G (wset Z 12 (bput (bput (bput (bput (bput (bput (bput (bput (bput (bput B 1 (7 + 14 * ((B 1 6).toNatClampNeg) + 0) 0) 1 (7 + 14 * ((B 1 6).toNatClampNeg) + 1) 0) 1 (7 + 14 * ((B 1 6).toNatClampNeg) + 2) 0) 1 (7 + 14 * ((B 1 6).toNatClampNeg) + 3) 0) 1 (7 + 14 * ((B 1 6).toNatClampNeg) + 4) 0) 1 (7 + 14 * ((B 1 6).toNatClampNeg) + 5) 0) 1 (7 + 14 * ((B 1 6).toNatClampNeg) + 6) 0) 1 (7 + 14 * ((B 1 6).toNatClampNeg) + 7) 0) 1 (7 + 14 * ((B 1 6).toNatClampNeg) + 8) 0) 1 (7 + 14 * ((B 1 6).toNatClampNeg) + 9) 0)) ((B 1 6).toNatClampNeg) 10) (cwS 2 hts gX7_addsShaft_X7_at rfl rfl rfl (by decide +kernel) ⟨Nat.le_of_ble_eq_true rfl, Nat.le_of_ble_eq_true rfl⟩) hW hS rfl rfl hl.1 (Nat.le_of_ble_eq_true rfl) dX7_addsShaft_52 (fun H locs hW hS => ?_)
                            refine lv_re (y := nI (7 + 14 * ((B 1 6).toNatClampNeg) + 10)) rfl ?_
                            refine lv_iconst (v := 0) hx hb dX7_addsShaft_55 (by decide) ?_
                            refine wr_ast (kA := 0) (Z' := wset Z 12 (bput (bput (bput (bput (bput (bput (bput (bput (bput (bput (bput B 1 (7 + 14 * ((B 1 6).toNatClampNeg) + 0) 0) 1 (7 + 14 * ((B 1 6).toNatClampNeg) + 1) 0) 1 (7 + 14 * ((B 1 6).toNatClampNeg) + 2) 0) 1 (7 + 14 * ((B 1 6).toNatClampNeg) + 3) 0) 1 (7 + 14 * ((B 1 6).toNatClampNeg) + 4) 0) 1 (7 + 14 * ((B 1 6).toNatClampNeg) + 5) 0) 1 (7 + 14 * ((B 1 6).toNatClampNeg) + 6) 0) 1 (7 + 14 * ((B 1 6).toNatClampNeg) + 7) 0) 1 (7 + 14 * ((B 1 6).toNatClampNeg) + 8) 0) 1 (7 + 14 * ((B 1 6).toNatClampNeg) + 9) 0) 1 (nI (7 + 14 * ((B 1 6).toNatClampNeg) + 10)).toNatClampNeg 0)) hC hW hS (vM (by decide)) ce_m1 rfl (vp_in_nI (show (7 + 14 * ((B 1 6).toNatClampNeg) + 10) < 100 by omega) (by decide)) wset_off pu_m1 dX7_addsShaft_56 (fun H locs hW hS => ?_)
                            rw [nI_clamp (show (7 + 14 * ((B 1 6).toNatClampNeg) + 10) < 2 ^ 31 by omega)] at hW
                            refine lv_iinc (v := 11) (lv' := [(2, .int 11), (0, .ref (G.2.2.1 12 0)), (1, .int a1)]) hx hb dX7_addsShaft_57 hl (k := 0) rfl (by decide) (by decide) rfl (fun ls hl => ?_)
                            refine lv_goto (tgt := 34) hx hb dX7_addsShaft_60 (by decide) ?_
                            refine lv_iload_n hx hb dX7_addsShaft_34 rfl (lv_at hl 0 rfl) ?_
                            refine lv_bipush (v := 14) hx hb dX7_addsShaft_35 (by decide) ?_
                            refine lv_icmp_ge (tgt := 63) hx hb dX7_addsShaft_37 (by decide) (fun c_14 => ?_) (fun c_14 => ?_)
                            · exact absurd c_14 (by decide)
                            · skip
                              refine lv_aload_n hx hb dX7_addsShaft_40 rfl (lv_at hl 1 rfl) ?_
                              refine wr_get hC hinRX7 hW (vM (by decide)) ce_m0 rfl 0 (by decide) hk0 rfl dX7_addsShaft_41 ?_
                              refine lv_aload_n hx hb dX7_addsShaft_44 rfl (lv_at hl 1 rfl) ?_
                              refine wr_get hC hinRX7 hW (vM (by decide)) ce_m0 rfl 0 (by decide) hk0 rfl dX7_addsShaft_45 ?_
                              refine lv_bipush (v := 6) hx hb dX7_addsShaft_48 (by decide) ?_
                              refine wr_ald (kA := 0) hC hW (vM (by decide)) ce_m1 rfl (vp_in_iff.mpr (by decide)) dX7_addsShaft_50 ?_
                              refine lv_re (y := B 1 6) (((((((((((((congrArg ((bput (bput (bput (bput (bput (bput (bput (bput (bput (bput (bput B 1 (7 + 14 * ((B 1 6).toNatClampNeg) + 0) 0) 1 (7 + 14 * ((B 1 6).toNatClampNeg) + 1) 0) 1 (7 + 14 * ((B 1 6).toNatClampNeg) + 2) 0) 1 (7 + 14 * ((B 1 6).toNatClampNeg) + 3) 0) 1 (7 + 14 * ((B 1 6).toNatClampNeg) + 4) 0) 1 (7 + 14 * ((B 1 6).toNatClampNeg) + 5) 0) 1 (7 + 14 * ((B 1 6).toNatClampNeg) + 6) 0) 1 (7 + 14 * ((B 1 6).toNatClampNeg) + 7) 0) 1 (7 + 14 * ((B 1 6).toNatClampNeg) + 8) 0) 1 (7 + 14 * ((B 1 6).toNatClampNeg) + 9) 0) 1 (7 + 14 * ((B 1 6).toNatClampNeg) + 10) 0) 1) (show (6 : Int32).toNatClampNeg = 6 by decide))).trans (bput_q (by omega))).trans (bput_q (by omega))).trans (bput_q (by omega))).trans (bput_q (by omega))).trans (bput_q (by omega))).trans (bput_q (by omega))).trans (bput_q (by omega))).trans (bput_q (by omega))).trans (bput_q (by omega))).trans (bput_q (by omega))).trans (bput_q (by omega))) ?_
                              refine lv_re (nI_self hn9.1) ?_
                              refine lv_iload_n hx hb dX7_addsShaft_51 rfl (lv_at hl 0 rfl) ?_
                              refine wc_s hC hml (kX7_at l G (wset Z 12 (bput (bput (bput (bput (bput (bput (bput (bput (bput (bput (bput B 1 (7 + 14 * ((B 1 6).toNatClampNeg) + 0) 0) 1 (7 + 14 * ((B 1 6).toNatClampNeg) + 1) 0) 1 (7 + 14 * ((B 1 6).toNatClampNeg) + 2) 0) 1 (7 + 14 * ((B 1 6).toNatClampNeg) + 3) 0) 1 (7 + 14 * ((B 1 6).toNatClampNeg) + 4) 0) 1 (7 + 14 * ((B 1 6).toNatClampNeg) + 5) 0) 1 (7 + 14 * ((B 1 6).toNatClampNeg) + 6) 0) 1 (7 + 14 * ((B 1 6).toNatClampNeg) + 7) 0) 1 (7 + 14 * ((B 1 6).toNatClampNeg) + 8) 0) 1 (7 + 14 * ((B 1 6).toNatClampNeg) + 9) 0) 1 (7 + 14 * ((B 1 6).toNatClampNeg) + 10) 0)) ((B 1 6).toNatClampNeg) 11) (cwS 2 hts gX7_addsShaft_X7_at rfl rfl rfl (by decide +kernel) ⟨Nat.le_of_ble_eq_true rfl, Nat.le_of_ble_eq_true rfl⟩) hW hS rfl rfl hl.1 (Nat.le_of_ble_eq_true rfl) dX7_addsShaft_52 (fun H locs hW hS => ?_)
                              refine lv_re (y := nI (7 + 14 * ((B 1 6).toNatClampNeg) + 11)) rfl ?_
                              refine lv_iconst (v := 0) hx hb dX7_addsShaft_55 (by decide) ?_
                              refine wr_ast (kA := 0) (Z' := wset Z 12 (bput (bput (bput (bput (bput (bput (bput (bput (bput (bput (bput (bput B 1 (7 + 14 * ((B 1 6).toNatClampNeg) + 0) 0) 1 (7 + 14 * ((B 1 6).toNatClampNeg) + 1) 0) 1 (7 + 14 * ((B 1 6).toNatClampNeg) + 2) 0) 1 (7 + 14 * ((B 1 6).toNatClampNeg) + 3) 0) 1 (7 + 14 * ((B 1 6).toNatClampNeg) + 4) 0) 1 (7 + 14 * ((B 1 6).toNatClampNeg) + 5) 0) 1 (7 + 14 * ((B 1 6).toNatClampNeg) + 6) 0) 1 (7 + 14 * ((B 1 6).toNatClampNeg) + 7) 0) 1 (7 + 14 * ((B 1 6).toNatClampNeg) + 8) 0) 1 (7 + 14 * ((B 1 6).toNatClampNeg) + 9) 0) 1 (7 + 14 * ((B 1 6).toNatClampNeg) + 10) 0) 1 (nI (7 + 14 * ((B 1 6).toNatClampNeg) + 11)).toNatClampNeg 0)) hC hW hS (vM (by decide)) ce_m1 rfl (vp_in_nI (show (7 + 14 * ((B 1 6).toNatClampNeg) + 11) < 100 by omega) (by decide)) wset_off pu_m1 dX7_addsShaft_56 (fun H locs hW hS => ?_)
                              rw [nI_clamp (show (7 + 14 * ((B 1 6).toNatClampNeg) + 11) < 2 ^ 31 by omega)] at hW
                              refine lv_iinc (v := 12) (lv' := [(2, .int 12), (0, .ref (G.2.2.1 12 0)), (1, .int a1)]) hx hb dX7_addsShaft_57 hl (k := 0) rfl (by decide) (by decide) rfl (fun ls hl => ?_)
                              refine lv_goto (tgt := 34) hx hb dX7_addsShaft_60 (by decide) ?_
                              refine lv_iload_n hx hb dX7_addsShaft_34 rfl (lv_at hl 0 rfl) ?_
                              refine lv_bipush (v := 14) hx hb dX7_addsShaft_35 (by decide) ?_
                              refine lv_icmp_ge (tgt := 63) hx hb dX7_addsShaft_37 (by decide) (fun c_15 => ?_) (fun c_15 => ?_)
                              · exact absurd c_15 (by decide)
                              · skip
                                refine lv_aload_n hx hb dX7_addsShaft_40 rfl (lv_at hl 1 rfl) ?_
                                refine wr_get hC hinRX7 hW (vM (by decide)) ce_m0 rfl 0 (by decide) hk0 rfl dX7_addsShaft_41 ?_
                                refine lv_aload_n hx hb dX7_addsShaft_44 rfl (lv_at hl 1 rfl) ?_
                                refine wr_get hC hinRX7 hW (vM (by decide)) ce_m0 rfl 0 (by decide) hk0 rfl dX7_addsShaft_45 ?_
                                refine lv_bipush (v := 6) hx hb dX7_addsShaft_48 (by decide) ?_
                                refine wr_ald (kA := 0) hC hW (vM (by decide)) ce_m1 rfl (vp_in_iff.mpr (by decide)) dX7_addsShaft_50 ?_
                                refine lv_re (y := B 1 6) ((((((((((((((congrArg ((bput (bput (bput (bput (bput (bput (bput (bput (bput (bput (bput (bput B 1 (7 + 14 * ((B 1 6).toNatClampNeg) + 0) 0) 1 (7 + 14 * ((B 1 6).toNatClampNeg) + 1) 0) 1 (7 + 14 * ((B 1 6).toNatClampNeg) + 2) 0) 1 (7 + 14 * ((B 1 6).toNatClampNeg) + 3) 0) 1 (7 + 14 * ((B 1 6).toNatClampNeg) + 4) 0) 1 (7 + 14 * ((B 1 6).toNatClampNeg) + 5) 0) 1 (7 + 14 * ((B 1 6).toNatClampNeg) + 6) 0) 1 (7 + 14 * ((B 1 6).toNatClampNeg) + 7) 0) 1 (7 + 14 * ((B 1 6).toNatClampNeg) + 8) 0) 1 (7 + 14 * ((B 1 6).toNatClampNeg) + 9) 0) 1 (7 + 14 * ((B 1 6).toNatClampNeg) + 10) 0) 1 (7 + 14 * ((B 1 6).toNatClampNeg) + 11) 0) 1) (show (6 : Int32).toNatClampNeg = 6 by decide))).trans (bput_q (by omega))).trans (bput_q (by omega))).trans (bput_q (by omega))).trans (bput_q (by omega))).trans (bput_q (by omega))).trans (bput_q (by omega))).trans (bput_q (by omega))).trans (bput_q (by omega))).trans (bput_q (by omega))).trans (bput_q (by omega))).trans (bput_q (by omega))).trans (bput_q (by omega))) ?_
                                refine lv_re (nI_self hn9.1) ?_
                                refine lv_iload_n hx hb dX7_addsShaft_51 rfl (lv_at hl 0 rfl) ?_
                                refine wc_s hC hml (kX7_at l G (wset Z 12 (bput (bput (bput (bput (bput (bput (bput (bput (bput (bput (bput (bput B 1 (7 + 14 * ((B 1 6).toNatClampNeg) + 0) 0) 1 (7 + 14 * ((B 1 6).toNatClampNeg) + 1) 0) 1 (7 + 14 * ((B 1 6).toNatClampNeg) + 2) 0) 1 (7 + 14 * ((B 1 6).toNatClampNeg) + 3) 0) 1 (7 + 14 * ((B 1 6).toNatClampNeg) + 4) 0) 1 (7 + 14 * ((B 1 6).toNatClampNeg) + 5) 0) 1 (7 + 14 * ((B 1 6).toNatClampNeg) + 6) 0) 1 (7 + 14 * ((B 1 6).toNatClampNeg) + 7) 0) 1 (7 + 14 * ((B 1 6).toNatClampNeg) + 8) 0) 1 (7 + 14 * ((B 1 6).toNatClampNeg) + 9) 0) 1 (7 + 14 * ((B 1 6).toNatClampNeg) + 10) 0) 1 (7 + 14 * ((B 1 6).toNatClampNeg) + 11) 0)) ((B 1 6).toNatClampNeg) 12) (cwS 2 hts gX7_addsShaft_X7_at rfl rfl rfl (by decide +kernel) ⟨Nat.le_of_ble_eq_true rfl, Nat.le_of_ble_eq_true rfl⟩) hW hS rfl rfl hl.1 (Nat.le_of_ble_eq_true rfl) dX7_addsShaft_52 (fun H locs hW hS => ?_)
                                refine lv_re (y := nI (7 + 14 * ((B 1 6).toNatClampNeg) + 12)) rfl ?_
                                refine lv_iconst (v := 0) hx hb dX7_addsShaft_55 (by decide) ?_
                                refine wr_ast (kA := 0) (Z' := wset Z 12 (bput (bput (bput (bput (bput (bput (bput (bput (bput (bput (bput (bput (bput B 1 (7 + 14 * ((B 1 6).toNatClampNeg) + 0) 0) 1 (7 + 14 * ((B 1 6).toNatClampNeg) + 1) 0) 1 (7 + 14 * ((B 1 6).toNatClampNeg) + 2) 0) 1 (7 + 14 * ((B 1 6).toNatClampNeg) + 3) 0) 1 (7 + 14 * ((B 1 6).toNatClampNeg) + 4) 0) 1 (7 + 14 * ((B 1 6).toNatClampNeg) + 5) 0) 1 (7 + 14 * ((B 1 6).toNatClampNeg) + 6) 0) 1 (7 + 14 * ((B 1 6).toNatClampNeg) + 7) 0) 1 (7 + 14 * ((B 1 6).toNatClampNeg) + 8) 0) 1 (7 + 14 * ((B 1 6).toNatClampNeg) + 9) 0) 1 (7 + 14 * ((B 1 6).toNatClampNeg) + 10) 0) 1 (7 + 14 * ((B 1 6).toNatClampNeg) + 11) 0) 1 (nI (7 + 14 * ((B 1 6).toNatClampNeg) + 12)).toNatClampNeg 0)) hC hW hS (vM (by decide)) ce_m1 rfl (vp_in_nI (show (7 + 14 * ((B 1 6).toNatClampNeg) + 12) < 100 by omega) (by decide)) wset_off pu_m1 dX7_addsShaft_56 (fun H locs hW hS => ?_)
                                rw [nI_clamp (show (7 + 14 * ((B 1 6).toNatClampNeg) + 12) < 2 ^ 31 by omega)] at hW
                                refine lv_iinc (v := 13) (lv' := [(2, .int 13), (0, .ref (G.2.2.1 12 0)), (1, .int a1)]) hx hb dX7_addsShaft_57 hl (k := 0) rfl (by decide) (by decide) rfl (fun ls hl => ?_)
                                refine lv_goto (tgt := 34) hx hb dX7_addsShaft_60 (by decide) ?_
                                refine lv_iload_n hx hb dX7_addsShaft_34 rfl (lv_at hl 0 rfl) ?_
                                refine lv_bipush (v := 14) hx hb dX7_addsShaft_35 (by decide) ?_
                                refine lv_icmp_ge (tgt := 63) hx hb dX7_addsShaft_37 (by decide) (fun c_16 => ?_) (fun c_16 => ?_)
                                · exact absurd c_16 (by decide)
                                · skip
                                  refine lv_aload_n hx hb dX7_addsShaft_40 rfl (lv_at hl 1 rfl) ?_
                                  refine wr_get hC hinRX7 hW (vM (by decide)) ce_m0 rfl 0 (by decide) hk0 rfl dX7_addsShaft_41 ?_
                                  refine lv_aload_n hx hb dX7_addsShaft_44 rfl (lv_at hl 1 rfl) ?_
                                  refine wr_get hC hinRX7 hW (vM (by decide)) ce_m0 rfl 0 (by decide) hk0 rfl dX7_addsShaft_45 ?_
                                  refine lv_bipush (v := 6) hx hb dX7_addsShaft_48 (by decide) ?_
                                  refine wr_ald (kA := 0) hC hW (vM (by decide)) ce_m1 rfl (vp_in_iff.mpr (by decide)) dX7_addsShaft_50 ?_
                                  refine lv_re (y := B 1 6) (((((((((((((((congrArg ((bput (bput (bput (bput (bput (bput (bput (bput (bput (bput (bput (bput (bput B 1 (7 + 14 * ((B 1 6).toNatClampNeg) + 0) 0) 1 (7 + 14 * ((B 1 6).toNatClampNeg) + 1) 0) 1 (7 + 14 * ((B 1 6).toNatClampNeg) + 2) 0) 1 (7 + 14 * ((B 1 6).toNatClampNeg) + 3) 0) 1 (7 + 14 * ((B 1 6).toNatClampNeg) + 4) 0) 1 (7 + 14 * ((B 1 6).toNatClampNeg) + 5) 0) 1 (7 + 14 * ((B 1 6).toNatClampNeg) + 6) 0) 1 (7 + 14 * ((B 1 6).toNatClampNeg) + 7) 0) 1 (7 + 14 * ((B 1 6).toNatClampNeg) + 8) 0) 1 (7 + 14 * ((B 1 6).toNatClampNeg) + 9) 0) 1 (7 + 14 * ((B 1 6).toNatClampNeg) + 10) 0) 1 (7 + 14 * ((B 1 6).toNatClampNeg) + 11) 0) 1 (7 + 14 * ((B 1 6).toNatClampNeg) + 12) 0) 1) (show (6 : Int32).toNatClampNeg = 6 by decide))).trans (bput_q (by omega))).trans (bput_q (by omega))).trans (bput_q (by omega))).trans (bput_q (by omega))).trans (bput_q (by omega))).trans (bput_q (by omega))).trans (bput_q (by omega))).trans (bput_q (by omega))).trans (bput_q (by omega))).trans (bput_q (by omega))).trans (bput_q (by omega))).trans (bput_q (by omega))).trans (bput_q (by omega))) ?_
                                  refine lv_re (nI_self hn9.1) ?_
                                  refine lv_iload_n hx hb dX7_addsShaft_51 rfl (lv_at hl 0 rfl) ?_
                                  refine wc_s hC hml (kX7_at l G (wset Z 12 (bput (bput (bput (bput (bput (bput (bput (bput (bput (bput (bput (bput (bput B 1 (7 + 14 * ((B 1 6).toNatClampNeg) + 0) 0) 1 (7 + 14 * ((B 1 6).toNatClampNeg) + 1) 0) 1 (7 + 14 * ((B 1 6).toNatClampNeg) + 2) 0) 1 (7 + 14 * ((B 1 6).toNatClampNeg) + 3) 0) 1 (7 + 14 * ((B 1 6).toNatClampNeg) + 4) 0) 1 (7 + 14 * ((B 1 6).toNatClampNeg) + 5) 0) 1 (7 + 14 * ((B 1 6).toNatClampNeg) + 6) 0) 1 (7 + 14 * ((B 1 6).toNatClampNeg) + 7) 0) 1 (7 + 14 * ((B 1 6).toNatClampNeg) + 8) 0) 1 (7 + 14 * ((B 1 6).toNatClampNeg) + 9) 0) 1 (7 + 14 * ((B 1 6).toNatClampNeg) + 10) 0) 1 (7 + 14 * ((B 1 6).toNatClampNeg) + 11) 0) 1 (7 + 14 * ((B 1 6).toNatClampNeg) + 12) 0)) ((B 1 6).toNatClampNeg) 13) (cwS 2 hts gX7_addsShaft_X7_at rfl rfl rfl (by decide +kernel) ⟨Nat.le_of_ble_eq_true rfl, Nat.le_of_ble_eq_true rfl⟩) hW hS rfl rfl hl.1 (Nat.le_of_ble_eq_true rfl) dX7_addsShaft_52 (fun H locs hW hS => ?_)
                                  refine lv_re (y := nI (7 + 14 * ((B 1 6).toNatClampNeg) + 13)) rfl ?_
                                  refine lv_iconst (v := 0) hx hb dX7_addsShaft_55 (by decide) ?_
                                  refine wr_ast (kA := 0) (Z' := wset Z 12 (bput (bput (bput (bput (bput (bput (bput (bput (bput (bput (bput (bput (bput (bput B 1 (7 + 14 * ((B 1 6).toNatClampNeg) + 0) 0) 1 (7 + 14 * ((B 1 6).toNatClampNeg) + 1) 0) 1 (7 + 14 * ((B 1 6).toNatClampNeg) + 2) 0) 1 (7 + 14 * ((B 1 6).toNatClampNeg) + 3) 0) 1 (7 + 14 * ((B 1 6).toNatClampNeg) + 4) 0) 1 (7 + 14 * ((B 1 6).toNatClampNeg) + 5) 0) 1 (7 + 14 * ((B 1 6).toNatClampNeg) + 6) 0) 1 (7 + 14 * ((B 1 6).toNatClampNeg) + 7) 0) 1 (7 + 14 * ((B 1 6).toNatClampNeg) + 8) 0) 1 (7 + 14 * ((B 1 6).toNatClampNeg) + 9) 0) 1 (7 + 14 * ((B 1 6).toNatClampNeg) + 10) 0) 1 (7 + 14 * ((B 1 6).toNatClampNeg) + 11) 0) 1 (7 + 14 * ((B 1 6).toNatClampNeg) + 12) 0) 1 (nI (7 + 14 * ((B 1 6).toNatClampNeg) + 13)).toNatClampNeg 0)) hC hW hS (vM (by decide)) ce_m1 rfl (vp_in_nI (show (7 + 14 * ((B 1 6).toNatClampNeg) + 13) < 100 by omega) (by decide)) wset_off pu_m1 dX7_addsShaft_56 (fun H locs hW hS => ?_)
                                  rw [nI_clamp (show (7 + 14 * ((B 1 6).toNatClampNeg) + 13) < 2 ^ 31 by omega)] at hW
                                  refine lv_iinc (v := 14) (lv' := [(2, .int 14), (0, .ref (G.2.2.1 12 0)), (1, .int a1)]) hx hb dX7_addsShaft_57 hl (k := 0) rfl (by decide) (by decide) rfl (fun ls hl => ?_)
                                  refine lv_goto (tgt := 34) hx hb dX7_addsShaft_60 (by decide) ?_
                                  refine lv_iload_n hx hb dX7_addsShaft_34 rfl (lv_at hl 0 rfl) ?_
                                  refine lv_bipush (v := 14) hx hb dX7_addsShaft_35 (by decide) ?_
                                  refine lv_icmp_ge (tgt := 63) hx hb dX7_addsShaft_37 (by decide) (fun c_17 => ?_) (fun c_17 => ?_)
                                  · skip
                                    refine lv_aload_n hx hb dX7_addsShaft_63 rfl (lv_at hl 1 rfl) ?_
                                    refine wr_get hC hinRX7 hW (vM (by decide)) ce_m0 rfl 0 (by decide) hk0 rfl dX7_addsShaft_64 ?_
                                    refine lv_aload_n hx hb dX7_addsShaft_67 rfl (lv_at hl 1 rfl) ?_
                                    refine wr_get hC hinRX7 hW (vM (by decide)) ce_m0 rfl 0 (by decide) hk0 rfl dX7_addsShaft_68 ?_
                                    refine lv_bipush (v := 6) hx hb dX7_addsShaft_71 (by decide) ?_
                                    refine wr_ald (kA := 0) hC hW (vM (by decide)) ce_m1 rfl (vp_in_iff.mpr (by decide)) dX7_addsShaft_73 ?_
                                    refine lv_re (y := B 1 6) ((((((((((((((((congrArg ((bput (bput (bput (bput (bput (bput (bput (bput (bput (bput (bput (bput (bput (bput B 1 (7 + 14 * ((B 1 6).toNatClampNeg) + 0) 0) 1 (7 + 14 * ((B 1 6).toNatClampNeg) + 1) 0) 1 (7 + 14 * ((B 1 6).toNatClampNeg) + 2) 0) 1 (7 + 14 * ((B 1 6).toNatClampNeg) + 3) 0) 1 (7 + 14 * ((B 1 6).toNatClampNeg) + 4) 0) 1 (7 + 14 * ((B 1 6).toNatClampNeg) + 5) 0) 1 (7 + 14 * ((B 1 6).toNatClampNeg) + 6) 0) 1 (7 + 14 * ((B 1 6).toNatClampNeg) + 7) 0) 1 (7 + 14 * ((B 1 6).toNatClampNeg) + 8) 0) 1 (7 + 14 * ((B 1 6).toNatClampNeg) + 9) 0) 1 (7 + 14 * ((B 1 6).toNatClampNeg) + 10) 0) 1 (7 + 14 * ((B 1 6).toNatClampNeg) + 11) 0) 1 (7 + 14 * ((B 1 6).toNatClampNeg) + 12) 0) 1 (7 + 14 * ((B 1 6).toNatClampNeg) + 13) 0) 1) (show (6 : Int32).toNatClampNeg = 6 by decide))).trans (bput_q (by omega))).trans (bput_q (by omega))).trans (bput_q (by omega))).trans (bput_q (by omega))).trans (bput_q (by omega))).trans (bput_q (by omega))).trans (bput_q (by omega))).trans (bput_q (by omega))).trans (bput_q (by omega))).trans (bput_q (by omega))).trans (bput_q (by omega))).trans (bput_q (by omega))).trans (bput_q (by omega))).trans (bput_q (by omega))) ?_
                                    refine lv_re (nI_self hn9.1) ?_
                                    refine lv_iconst (v := 0) hx hb dX7_addsShaft_74 (by decide) ?_
                                    refine wc_s hC hml (kX7_at l G (wset Z 12 (bput (bput (bput (bput (bput (bput (bput (bput (bput (bput (bput (bput (bput (bput B 1 (7 + 14 * ((B 1 6).toNatClampNeg) + 0) 0) 1 (7 + 14 * ((B 1 6).toNatClampNeg) + 1) 0) 1 (7 + 14 * ((B 1 6).toNatClampNeg) + 2) 0) 1 (7 + 14 * ((B 1 6).toNatClampNeg) + 3) 0) 1 (7 + 14 * ((B 1 6).toNatClampNeg) + 4) 0) 1 (7 + 14 * ((B 1 6).toNatClampNeg) + 5) 0) 1 (7 + 14 * ((B 1 6).toNatClampNeg) + 6) 0) 1 (7 + 14 * ((B 1 6).toNatClampNeg) + 7) 0) 1 (7 + 14 * ((B 1 6).toNatClampNeg) + 8) 0) 1 (7 + 14 * ((B 1 6).toNatClampNeg) + 9) 0) 1 (7 + 14 * ((B 1 6).toNatClampNeg) + 10) 0) 1 (7 + 14 * ((B 1 6).toNatClampNeg) + 11) 0) 1 (7 + 14 * ((B 1 6).toNatClampNeg) + 12) 0) 1 (7 + 14 * ((B 1 6).toNatClampNeg) + 13) 0)) ((B 1 6).toNatClampNeg) 0) (cwS 2 hts gX7_addsShaft_X7_at rfl rfl rfl (by decide +kernel) ⟨Nat.le_of_ble_eq_true rfl, Nat.le_of_ble_eq_true rfl⟩) hW hS rfl rfl hl.1 (Nat.le_of_ble_eq_true rfl) dX7_addsShaft_75 (fun H locs hW hS => ?_)
                                    refine lv_re (y := nI (7 + 14 * ((B 1 6).toNatClampNeg) + 0)) rfl ?_
                                    refine lv_iload_n hx hb dX7_addsShaft_78 rfl (lv_at hl 2 rfl) ?_
                                    refine wr_ast (kA := 0) (Z' := wset Z 12 (bput (bput (bput (bput (bput (bput (bput (bput (bput (bput (bput (bput (bput (bput (bput B 1 (7 + 14 * ((B 1 6).toNatClampNeg) + 0) 0) 1 (7 + 14 * ((B 1 6).toNatClampNeg) + 1) 0) 1 (7 + 14 * ((B 1 6).toNatClampNeg) + 2) 0) 1 (7 + 14 * ((B 1 6).toNatClampNeg) + 3) 0) 1 (7 + 14 * ((B 1 6).toNatClampNeg) + 4) 0) 1 (7 + 14 * ((B 1 6).toNatClampNeg) + 5) 0) 1 (7 + 14 * ((B 1 6).toNatClampNeg) + 6) 0) 1 (7 + 14 * ((B 1 6).toNatClampNeg) + 7) 0) 1 (7 + 14 * ((B 1 6).toNatClampNeg) + 8) 0) 1 (7 + 14 * ((B 1 6).toNatClampNeg) + 9) 0) 1 (7 + 14 * ((B 1 6).toNatClampNeg) + 10) 0) 1 (7 + 14 * ((B 1 6).toNatClampNeg) + 11) 0) 1 (7 + 14 * ((B 1 6).toNatClampNeg) + 12) 0) 1 (7 + 14 * ((B 1 6).toNatClampNeg) + 13) 0) 1 (nI (7 + 14 * ((B 1 6).toNatClampNeg) + 0)).toNatClampNeg a1)) hC hW hS (vM (by decide)) ce_m1 rfl (vp_in_nI (show (7 + 14 * ((B 1 6).toNatClampNeg) + 0) < 100 by omega) (by decide)) wset_off pu_m1 dX7_addsShaft_79 (fun H locs hW hS => ?_)
                                    rw [nI_clamp (show (7 + 14 * ((B 1 6).toNatClampNeg) + 0) < 2 ^ 31 by omega)] at hW
                                    refine lv_aload_n hx hb dX7_addsShaft_80 rfl (lv_at hl 1 rfl) ?_
                                    refine wr_get hC hinRX7 hW (vM (by decide)) ce_m0 rfl 0 (by decide) hk0 rfl dX7_addsShaft_81 ?_
                                    refine lv_bipush (v := 6) hx hb dX7_addsShaft_84 (by decide) ?_
                                    refine lv_dup2_11 hx hb dX7_addsShaft_86 rfl rfl ?_
                                    refine wr_ald (kA := 0) hC hW (vM (by decide)) ce_m1 rfl (vp_in_iff.mpr (by decide)) dX7_addsShaft_87 ?_
                                    refine lv_re (y := B 1 6) (((((((((((((((((congrArg ((bput (bput (bput (bput (bput (bput (bput (bput (bput (bput (bput (bput (bput (bput (bput B 1 (7 + 14 * ((B 1 6).toNatClampNeg) + 0) 0) 1 (7 + 14 * ((B 1 6).toNatClampNeg) + 1) 0) 1 (7 + 14 * ((B 1 6).toNatClampNeg) + 2) 0) 1 (7 + 14 * ((B 1 6).toNatClampNeg) + 3) 0) 1 (7 + 14 * ((B 1 6).toNatClampNeg) + 4) 0) 1 (7 + 14 * ((B 1 6).toNatClampNeg) + 5) 0) 1 (7 + 14 * ((B 1 6).toNatClampNeg) + 6) 0) 1 (7 + 14 * ((B 1 6).toNatClampNeg) + 7) 0) 1 (7 + 14 * ((B 1 6).toNatClampNeg) + 8) 0) 1 (7 + 14 * ((B 1 6).toNatClampNeg) + 9) 0) 1 (7 + 14 * ((B 1 6).toNatClampNeg) + 10) 0) 1 (7 + 14 * ((B 1 6).toNatClampNeg) + 11) 0) 1 (7 + 14 * ((B 1 6).toNatClampNeg) + 12) 0) 1 (7 + 14 * ((B 1 6).toNatClampNeg) + 13) 0) 1 (7 + 14 * ((B 1 6).toNatClampNeg) + 0) a1) 1) (show (6 : Int32).toNatClampNeg = 6 by decide))).trans (bput_q (by omega))).trans (bput_q (by omega))).trans (bput_q (by omega))).trans (bput_q (by omega))).trans (bput_q (by omega))).trans (bput_q (by omega))).trans (bput_q (by omega))).trans (bput_q (by omega))).trans (bput_q (by omega))).trans (bput_q (by omega))).trans (bput_q (by omega))).trans (bput_q (by omega))).trans (bput_q (by omega))).trans (bput_q (by omega))).trans (bput_q (by omega))) ?_
                                    refine lv_iconst (v := 1) hx hb dX7_addsShaft_88 (by decide) ?_
                                    refine lv_iadd hx hb dX7_addsShaft_89 ?_
                                    refine wr_ast (kA := 0) (Z' := wset Z 12 (bput (bput (bput (bput (bput (bput (bput (bput (bput (bput (bput (bput (bput (bput (bput (bput B 1 (7 + 14 * ((B 1 6).toNatClampNeg) + 0) 0) 1 (7 + 14 * ((B 1 6).toNatClampNeg) + 1) 0) 1 (7 + 14 * ((B 1 6).toNatClampNeg) + 2) 0) 1 (7 + 14 * ((B 1 6).toNatClampNeg) + 3) 0) 1 (7 + 14 * ((B 1 6).toNatClampNeg) + 4) 0) 1 (7 + 14 * ((B 1 6).toNatClampNeg) + 5) 0) 1 (7 + 14 * ((B 1 6).toNatClampNeg) + 6) 0) 1 (7 + 14 * ((B 1 6).toNatClampNeg) + 7) 0) 1 (7 + 14 * ((B 1 6).toNatClampNeg) + 8) 0) 1 (7 + 14 * ((B 1 6).toNatClampNeg) + 9) 0) 1 (7 + 14 * ((B 1 6).toNatClampNeg) + 10) 0) 1 (7 + 14 * ((B 1 6).toNatClampNeg) + 11) 0) 1 (7 + 14 * ((B 1 6).toNatClampNeg) + 12) 0) 1 (7 + 14 * ((B 1 6).toNatClampNeg) + 13) 0) 1 (7 + 14 * ((B 1 6).toNatClampNeg) + 0) a1) 1 (6 : Int32).toNatClampNeg ((B 1 6) + 1))) hC hW hS (vM (by decide)) ce_m1 rfl (vp_in_iff.mpr (by decide)) wset_off pu_m1 dX7_addsShaft_90 (fun H locs hW hS => ?_)
                                    have hW : wW G (wset Z 12 (bput (bput (bput (bput (bput (bput (bput (bput (bput (bput (bput (bput (bput (bput (bput (bput B 1 (7 + 14 * ((B 1 6).toNatClampNeg) + 0) 0) 1 (7 + 14 * ((B 1 6).toNatClampNeg) + 1) 0) 1 (7 + 14 * ((B 1 6).toNatClampNeg) + 2) 0) 1 (7 + 14 * ((B 1 6).toNatClampNeg) + 3) 0) 1 (7 + 14 * ((B 1 6).toNatClampNeg) + 4) 0) 1 (7 + 14 * ((B 1 6).toNatClampNeg) + 5) 0) 1 (7 + 14 * ((B 1 6).toNatClampNeg) + 6) 0) 1 (7 + 14 * ((B 1 6).toNatClampNeg) + 7) 0) 1 (7 + 14 * ((B 1 6).toNatClampNeg) + 8) 0) 1 (7 + 14 * ((B 1 6).toNatClampNeg) + 9) 0) 1 (7 + 14 * ((B 1 6).toNatClampNeg) + 10) 0) 1 (7 + 14 * ((B 1 6).toNatClampNeg) + 11) 0) 1 (7 + 14 * ((B 1 6).toNatClampNeg) + 12) 0) 1 (7 + 14 * ((B 1 6).toNatClampNeg) + 13) 0) 1 (7 + 14 * ((B 1 6).toNatClampNeg) + 0) a1) 1 6 ((B 1 6) + 1))) H := hW
                                    refine lv_aload_n hx hb dX7_addsShaft_91 rfl (lv_at hl 1 rfl) ?_
                                    refine wr_get hC hinRX7 hW (vM (by decide)) ce_m0 rfl 0 (by decide) hk0 rfl dX7_addsShaft_92 ?_
                                    refine lv_bipush (v := 6) hx hb dX7_addsShaft_95 (by decide) ?_
                                    refine wr_ald (kA := 0) hC hW (vM (by decide)) ce_m1 rfl (vp_in_iff.mpr (by decide)) dX7_addsShaft_97 ?_
                                    refine lv_re (y := (B 1 6) + 1) (((congrArg ((bput (bput (bput (bput (bput (bput (bput (bput (bput (bput (bput (bput (bput (bput (bput (bput B 1 (7 + 14 * ((B 1 6).toNatClampNeg) + 0) 0) 1 (7 + 14 * ((B 1 6).toNatClampNeg) + 1) 0) 1 (7 + 14 * ((B 1 6).toNatClampNeg) + 2) 0) 1 (7 + 14 * ((B 1 6).toNatClampNeg) + 3) 0) 1 (7 + 14 * ((B 1 6).toNatClampNeg) + 4) 0) 1 (7 + 14 * ((B 1 6).toNatClampNeg) + 5) 0) 1 (7 + 14 * ((B 1 6).toNatClampNeg) + 6) 0) 1 (7 + 14 * ((B 1 6).toNatClampNeg) + 7) 0) 1 (7 + 14 * ((B 1 6).toNatClampNeg) + 8) 0) 1 (7 + 14 * ((B 1 6).toNatClampNeg) + 9) 0) 1 (7 + 14 * ((B 1 6).toNatClampNeg) + 10) 0) 1 (7 + 14 * ((B 1 6).toNatClampNeg) + 11) 0) 1 (7 + 14 * ((B 1 6).toNatClampNeg) + 12) 0) 1 (7 + 14 * ((B 1 6).toNatClampNeg) + 13) 0) 1 (7 + 14 * ((B 1 6).toNatClampNeg) + 0) a1) 1 6 ((B 1 6) + 1)) 1) (show (6 : Int32).toNatClampNeg = 6 by decide))).trans (bput_h)) ?_
                                    refine lv_iconst (v := 1) hx hb dX7_addsShaft_98 (by decide) ?_
                                    refine lv_isub hx hb dX7_addsShaft_99 ?_
                                    have hf : fX7_addsShaft B a1 = ((bput (bput (bput (bput (bput (bput (bput (bput (bput (bput (bput (bput (bput (bput (bput (bput B 1 (7 + 14 * ((B 1 6).toNatClampNeg) + 0) 0) 1 (7 + 14 * ((B 1 6).toNatClampNeg) + 1) 0) 1 (7 + 14 * ((B 1 6).toNatClampNeg) + 2) 0) 1 (7 + 14 * ((B 1 6).toNatClampNeg) + 3) 0) 1 (7 + 14 * ((B 1 6).toNatClampNeg) + 4) 0) 1 (7 + 14 * ((B 1 6).toNatClampNeg) + 5) 0) 1 (7 + 14 * ((B 1 6).toNatClampNeg) + 6) 0) 1 (7 + 14 * ((B 1 6).toNatClampNeg) + 7) 0) 1 (7 + 14 * ((B 1 6).toNatClampNeg) + 8) 0) 1 (7 + 14 * ((B 1 6).toNatClampNeg) + 9) 0) 1 (7 + 14 * ((B 1 6).toNatClampNeg) + 10) 0) 1 (7 + 14 * ((B 1 6).toNatClampNeg) + 11) 0) 1 (7 + 14 * ((B 1 6).toNatClampNeg) + 12) 0) 1 (7 + 14 * ((B 1 6).toNatClampNeg) + 13) 0) 1 (7 + 14 * ((B 1 6).toNatClampNeg) + 0) a1) 1 6 ((B 1 6) + 1)), ((B 1 6) + 1) - 1) := (if_pos c_1).trans ((if_neg c_2).trans rfl)
                                    exact we_i hC hr hlocks (congrArg Prod.snd hf).symm (congrArg (fun u => wset Z 12 u.1) hf).symm hW hS dX7_addsShaft_100
                                  · exact absurd c_17 (by decide)
    · skip
      refine lv_bipush (v := (-4)) hx hb dX7_addsShaft_29 (by decide) ?_
      have hf : fX7_addsShaft B a1 = (B, (-4)) := (if_pos c_1).trans ((if_pos c_2).trans rfl)
      exact we_i hC hr hlocks (congrArg Prod.snd hf).symm (congrArg (fun u => wset Z 12 u.1) hf).symm hW hS dX7_addsShaft_31
  · skip
    refine lv_iload_n hx hb dX7_addsShaft_5 rfl (lv_at hl 1 rfl) ?_
    refine lv_iconst (v := 2) hx hb dX7_addsShaft_6 (by decide) ?_
    refine lv_icmp_eq (tgt := 18) hx hb dX7_addsShaft_7 (by decide) (fun c_18 => ?_) (fun c_18 => ?_)
    · skip
      refine lv_aload_n hx hb dX7_addsShaft_18 rfl (lv_at hl 0 rfl) ?_
      refine wr_get hC hinRX7 hW (vM (by decide)) ce_m0 rfl 0 (by decide) hk0 rfl dX7_addsShaft_19 ?_
      refine lv_bipush (v := 6) hx hb dX7_addsShaft_22 (by decide) ?_
      refine wr_ald (kA := 0) hC hW (vM (by decide)) ce_m1 rfl (vp_in_iff.mpr (by decide)) dX7_addsShaft_24 ?_
      refine lv_re (y := B 1 6) ((congrArg (B 1) (show (6 : Int32).toNatClampNeg = 6 by decide))) ?_
      refine lv_iconst (v := 4) hx hb dX7_addsShaft_25 (by decide) ?_
      refine lv_icmp_ne (tgt := 32) hx hb dX7_addsShaft_26 (by decide) (fun c_19 => ?_) (fun c_19 => ?_)
      · skip
        refine lv_iconst (v := 0) hx hb dX7_addsShaft_32 (by decide) ?_
        refine lv_istore_n (lv' := [(2, .int 0), (0, .ref (G.2.2.1 12 0)), (1, .int a1)]) hx hb dX7_addsShaft_33 rfl hl (by decide) rfl (fun ls hl => ?_)
        refine lv_iload_n hx hb dX7_addsShaft_34 rfl (lv_at hl 0 rfl) ?_
        refine lv_bipush (v := 14) hx hb dX7_addsShaft_35 (by decide) ?_
        refine lv_icmp_ge (tgt := 63) hx hb dX7_addsShaft_37 (by decide) (fun c_20 => ?_) (fun c_20 => ?_)
        · exact absurd c_20 (by decide)
        · skip
          refine lv_aload_n hx hb dX7_addsShaft_40 rfl (lv_at hl 1 rfl) ?_
          refine wr_get hC hinRX7 hW (vM (by decide)) ce_m0 rfl 0 (by decide) hk0 rfl dX7_addsShaft_41 ?_
          refine lv_aload_n hx hb dX7_addsShaft_44 rfl (lv_at hl 1 rfl) ?_
          refine wr_get hC hinRX7 hW (vM (by decide)) ce_m0 rfl 0 (by decide) hk0 rfl dX7_addsShaft_45 ?_
          refine lv_bipush (v := 6) hx hb dX7_addsShaft_48 (by decide) ?_
          refine wr_ald (kA := 0) hC hW (vM (by decide)) ce_m1 rfl (vp_in_iff.mpr (by decide)) dX7_addsShaft_50 ?_
          refine lv_re (y := B 1 6) ((congrArg (B 1) (show (6 : Int32).toNatClampNeg = 6 by decide))) ?_
          have hn9 := many_lt hm c_19
          have hn8 := hn9.2
          refine lv_re (nI_self hn9.1) ?_
          refine lv_iload_n hx hb dX7_addsShaft_51 rfl (lv_at hl 0 rfl) ?_
          refine wc_s hC hml (kX7_at l G (wset Z 12 B) ((B 1 6).toNatClampNeg) 0) (cwS 2 hts gX7_addsShaft_X7_at rfl rfl rfl (by decide +kernel) ⟨Nat.le_of_ble_eq_true rfl, Nat.le_of_ble_eq_true rfl⟩) hW hS rfl rfl hl.1 (Nat.le_of_ble_eq_true rfl) dX7_addsShaft_52 (fun H locs hW hS => ?_)
          refine lv_re (y := nI (7 + 14 * ((B 1 6).toNatClampNeg) + 0)) rfl ?_
          refine lv_iconst (v := 0) hx hb dX7_addsShaft_55 (by decide) ?_
          refine wr_ast (kA := 0) (Z' := wset Z 12 (bput B 1 (nI (7 + 14 * ((B 1 6).toNatClampNeg) + 0)).toNatClampNeg 0)) hC hW hS (vM (by decide)) ce_m1 rfl (vp_in_nI (show (7 + 14 * ((B 1 6).toNatClampNeg) + 0) < 100 by omega) (by decide)) wset_off pu_m1 dX7_addsShaft_56 (fun H locs hW hS => ?_)
          rw [nI_clamp (show (7 + 14 * ((B 1 6).toNatClampNeg) + 0) < 2 ^ 31 by omega)] at hW
          refine lv_iinc (v := 1) (lv' := [(2, .int 1), (0, .ref (G.2.2.1 12 0)), (1, .int a1)]) hx hb dX7_addsShaft_57 hl (k := 0) rfl (by decide) (by decide) rfl (fun ls hl => ?_)
          refine lv_goto (tgt := 34) hx hb dX7_addsShaft_60 (by decide) ?_
          refine lv_iload_n hx hb dX7_addsShaft_34 rfl (lv_at hl 0 rfl) ?_
          refine lv_bipush (v := 14) hx hb dX7_addsShaft_35 (by decide) ?_
          refine lv_icmp_ge (tgt := 63) hx hb dX7_addsShaft_37 (by decide) (fun c_21 => ?_) (fun c_21 => ?_)
          · exact absurd c_21 (by decide)
          · skip
            refine lv_aload_n hx hb dX7_addsShaft_40 rfl (lv_at hl 1 rfl) ?_
            refine wr_get hC hinRX7 hW (vM (by decide)) ce_m0 rfl 0 (by decide) hk0 rfl dX7_addsShaft_41 ?_
            refine lv_aload_n hx hb dX7_addsShaft_44 rfl (lv_at hl 1 rfl) ?_
            refine wr_get hC hinRX7 hW (vM (by decide)) ce_m0 rfl 0 (by decide) hk0 rfl dX7_addsShaft_45 ?_
            refine lv_bipush (v := 6) hx hb dX7_addsShaft_48 (by decide) ?_
            refine wr_ald (kA := 0) hC hW (vM (by decide)) ce_m1 rfl (vp_in_iff.mpr (by decide)) dX7_addsShaft_50 ?_
            refine lv_re (y := B 1 6) (((congrArg ((bput B 1 (7 + 14 * ((B 1 6).toNatClampNeg) + 0) 0) 1) (show (6 : Int32).toNatClampNeg = 6 by decide))).trans (bput_q (by omega))) ?_
            refine lv_re (nI_self hn9.1) ?_
            refine lv_iload_n hx hb dX7_addsShaft_51 rfl (lv_at hl 0 rfl) ?_
            refine wc_s hC hml (kX7_at l G (wset Z 12 (bput B 1 (7 + 14 * ((B 1 6).toNatClampNeg) + 0) 0)) ((B 1 6).toNatClampNeg) 1) (cwS 2 hts gX7_addsShaft_X7_at rfl rfl rfl (by decide +kernel) ⟨Nat.le_of_ble_eq_true rfl, Nat.le_of_ble_eq_true rfl⟩) hW hS rfl rfl hl.1 (Nat.le_of_ble_eq_true rfl) dX7_addsShaft_52 (fun H locs hW hS => ?_)
            refine lv_re (y := nI (7 + 14 * ((B 1 6).toNatClampNeg) + 1)) rfl ?_
            refine lv_iconst (v := 0) hx hb dX7_addsShaft_55 (by decide) ?_
            refine wr_ast (kA := 0) (Z' := wset Z 12 (bput (bput B 1 (7 + 14 * ((B 1 6).toNatClampNeg) + 0) 0) 1 (nI (7 + 14 * ((B 1 6).toNatClampNeg) + 1)).toNatClampNeg 0)) hC hW hS (vM (by decide)) ce_m1 rfl (vp_in_nI (show (7 + 14 * ((B 1 6).toNatClampNeg) + 1) < 100 by omega) (by decide)) wset_off pu_m1 dX7_addsShaft_56 (fun H locs hW hS => ?_)
            rw [nI_clamp (show (7 + 14 * ((B 1 6).toNatClampNeg) + 1) < 2 ^ 31 by omega)] at hW
            refine lv_iinc (v := 2) (lv' := [(2, .int 2), (0, .ref (G.2.2.1 12 0)), (1, .int a1)]) hx hb dX7_addsShaft_57 hl (k := 0) rfl (by decide) (by decide) rfl (fun ls hl => ?_)
            refine lv_goto (tgt := 34) hx hb dX7_addsShaft_60 (by decide) ?_
            refine lv_iload_n hx hb dX7_addsShaft_34 rfl (lv_at hl 0 rfl) ?_
            refine lv_bipush (v := 14) hx hb dX7_addsShaft_35 (by decide) ?_
            refine lv_icmp_ge (tgt := 63) hx hb dX7_addsShaft_37 (by decide) (fun c_22 => ?_) (fun c_22 => ?_)
            · exact absurd c_22 (by decide)
            · skip
              refine lv_aload_n hx hb dX7_addsShaft_40 rfl (lv_at hl 1 rfl) ?_
              refine wr_get hC hinRX7 hW (vM (by decide)) ce_m0 rfl 0 (by decide) hk0 rfl dX7_addsShaft_41 ?_
              refine lv_aload_n hx hb dX7_addsShaft_44 rfl (lv_at hl 1 rfl) ?_
              refine wr_get hC hinRX7 hW (vM (by decide)) ce_m0 rfl 0 (by decide) hk0 rfl dX7_addsShaft_45 ?_
              refine lv_bipush (v := 6) hx hb dX7_addsShaft_48 (by decide) ?_
              refine wr_ald (kA := 0) hC hW (vM (by decide)) ce_m1 rfl (vp_in_iff.mpr (by decide)) dX7_addsShaft_50 ?_
              refine lv_re (y := B 1 6) ((((congrArg ((bput (bput B 1 (7 + 14 * ((B 1 6).toNatClampNeg) + 0) 0) 1 (7 + 14 * ((B 1 6).toNatClampNeg) + 1) 0) 1) (show (6 : Int32).toNatClampNeg = 6 by decide))).trans (bput_q (by omega))).trans (bput_q (by omega))) ?_
              refine lv_re (nI_self hn9.1) ?_
              refine lv_iload_n hx hb dX7_addsShaft_51 rfl (lv_at hl 0 rfl) ?_
              refine wc_s hC hml (kX7_at l G (wset Z 12 (bput (bput B 1 (7 + 14 * ((B 1 6).toNatClampNeg) + 0) 0) 1 (7 + 14 * ((B 1 6).toNatClampNeg) + 1) 0)) ((B 1 6).toNatClampNeg) 2) (cwS 2 hts gX7_addsShaft_X7_at rfl rfl rfl (by decide +kernel) ⟨Nat.le_of_ble_eq_true rfl, Nat.le_of_ble_eq_true rfl⟩) hW hS rfl rfl hl.1 (Nat.le_of_ble_eq_true rfl) dX7_addsShaft_52 (fun H locs hW hS => ?_)
              refine lv_re (y := nI (7 + 14 * ((B 1 6).toNatClampNeg) + 2)) rfl ?_
              refine lv_iconst (v := 0) hx hb dX7_addsShaft_55 (by decide) ?_
              refine wr_ast (kA := 0) (Z' := wset Z 12 (bput (bput (bput B 1 (7 + 14 * ((B 1 6).toNatClampNeg) + 0) 0) 1 (7 + 14 * ((B 1 6).toNatClampNeg) + 1) 0) 1 (nI (7 + 14 * ((B 1 6).toNatClampNeg) + 2)).toNatClampNeg 0)) hC hW hS (vM (by decide)) ce_m1 rfl (vp_in_nI (show (7 + 14 * ((B 1 6).toNatClampNeg) + 2) < 100 by omega) (by decide)) wset_off pu_m1 dX7_addsShaft_56 (fun H locs hW hS => ?_)
              rw [nI_clamp (show (7 + 14 * ((B 1 6).toNatClampNeg) + 2) < 2 ^ 31 by omega)] at hW
              refine lv_iinc (v := 3) (lv' := [(2, .int 3), (0, .ref (G.2.2.1 12 0)), (1, .int a1)]) hx hb dX7_addsShaft_57 hl (k := 0) rfl (by decide) (by decide) rfl (fun ls hl => ?_)
              refine lv_goto (tgt := 34) hx hb dX7_addsShaft_60 (by decide) ?_
              refine lv_iload_n hx hb dX7_addsShaft_34 rfl (lv_at hl 0 rfl) ?_
              refine lv_bipush (v := 14) hx hb dX7_addsShaft_35 (by decide) ?_
              refine lv_icmp_ge (tgt := 63) hx hb dX7_addsShaft_37 (by decide) (fun c_23 => ?_) (fun c_23 => ?_)
              · exact absurd c_23 (by decide)
              · skip
                refine lv_aload_n hx hb dX7_addsShaft_40 rfl (lv_at hl 1 rfl) ?_
                refine wr_get hC hinRX7 hW (vM (by decide)) ce_m0 rfl 0 (by decide) hk0 rfl dX7_addsShaft_41 ?_
                refine lv_aload_n hx hb dX7_addsShaft_44 rfl (lv_at hl 1 rfl) ?_
                refine wr_get hC hinRX7 hW (vM (by decide)) ce_m0 rfl 0 (by decide) hk0 rfl dX7_addsShaft_45 ?_
                refine lv_bipush (v := 6) hx hb dX7_addsShaft_48 (by decide) ?_
                refine wr_ald (kA := 0) hC hW (vM (by decide)) ce_m1 rfl (vp_in_iff.mpr (by decide)) dX7_addsShaft_50 ?_
                refine lv_re (y := B 1 6) (((((congrArg ((bput (bput (bput B 1 (7 + 14 * ((B 1 6).toNatClampNeg) + 0) 0) 1 (7 + 14 * ((B 1 6).toNatClampNeg) + 1) 0) 1 (7 + 14 * ((B 1 6).toNatClampNeg) + 2) 0) 1) (show (6 : Int32).toNatClampNeg = 6 by decide))).trans (bput_q (by omega))).trans (bput_q (by omega))).trans (bput_q (by omega))) ?_
                refine lv_re (nI_self hn9.1) ?_
                refine lv_iload_n hx hb dX7_addsShaft_51 rfl (lv_at hl 0 rfl) ?_
                refine wc_s hC hml (kX7_at l G (wset Z 12 (bput (bput (bput B 1 (7 + 14 * ((B 1 6).toNatClampNeg) + 0) 0) 1 (7 + 14 * ((B 1 6).toNatClampNeg) + 1) 0) 1 (7 + 14 * ((B 1 6).toNatClampNeg) + 2) 0)) ((B 1 6).toNatClampNeg) 3) (cwS 2 hts gX7_addsShaft_X7_at rfl rfl rfl (by decide +kernel) ⟨Nat.le_of_ble_eq_true rfl, Nat.le_of_ble_eq_true rfl⟩) hW hS rfl rfl hl.1 (Nat.le_of_ble_eq_true rfl) dX7_addsShaft_52 (fun H locs hW hS => ?_)
                refine lv_re (y := nI (7 + 14 * ((B 1 6).toNatClampNeg) + 3)) rfl ?_
                refine lv_iconst (v := 0) hx hb dX7_addsShaft_55 (by decide) ?_
                refine wr_ast (kA := 0) (Z' := wset Z 12 (bput (bput (bput (bput B 1 (7 + 14 * ((B 1 6).toNatClampNeg) + 0) 0) 1 (7 + 14 * ((B 1 6).toNatClampNeg) + 1) 0) 1 (7 + 14 * ((B 1 6).toNatClampNeg) + 2) 0) 1 (nI (7 + 14 * ((B 1 6).toNatClampNeg) + 3)).toNatClampNeg 0)) hC hW hS (vM (by decide)) ce_m1 rfl (vp_in_nI (show (7 + 14 * ((B 1 6).toNatClampNeg) + 3) < 100 by omega) (by decide)) wset_off pu_m1 dX7_addsShaft_56 (fun H locs hW hS => ?_)
                rw [nI_clamp (show (7 + 14 * ((B 1 6).toNatClampNeg) + 3) < 2 ^ 31 by omega)] at hW
                refine lv_iinc (v := 4) (lv' := [(2, .int 4), (0, .ref (G.2.2.1 12 0)), (1, .int a1)]) hx hb dX7_addsShaft_57 hl (k := 0) rfl (by decide) (by decide) rfl (fun ls hl => ?_)
                refine lv_goto (tgt := 34) hx hb dX7_addsShaft_60 (by decide) ?_
                refine lv_iload_n hx hb dX7_addsShaft_34 rfl (lv_at hl 0 rfl) ?_
                refine lv_bipush (v := 14) hx hb dX7_addsShaft_35 (by decide) ?_
                refine lv_icmp_ge (tgt := 63) hx hb dX7_addsShaft_37 (by decide) (fun c_24 => ?_) (fun c_24 => ?_)
                · exact absurd c_24 (by decide)
                · skip
                  refine lv_aload_n hx hb dX7_addsShaft_40 rfl (lv_at hl 1 rfl) ?_
                  refine wr_get hC hinRX7 hW (vM (by decide)) ce_m0 rfl 0 (by decide) hk0 rfl dX7_addsShaft_41 ?_
                  refine lv_aload_n hx hb dX7_addsShaft_44 rfl (lv_at hl 1 rfl) ?_
                  refine wr_get hC hinRX7 hW (vM (by decide)) ce_m0 rfl 0 (by decide) hk0 rfl dX7_addsShaft_45 ?_
                  refine lv_bipush (v := 6) hx hb dX7_addsShaft_48 (by decide) ?_
                  refine wr_ald (kA := 0) hC hW (vM (by decide)) ce_m1 rfl (vp_in_iff.mpr (by decide)) dX7_addsShaft_50 ?_
                  refine lv_re (y := B 1 6) ((((((congrArg ((bput (bput (bput (bput B 1 (7 + 14 * ((B 1 6).toNatClampNeg) + 0) 0) 1 (7 + 14 * ((B 1 6).toNatClampNeg) + 1) 0) 1 (7 + 14 * ((B 1 6).toNatClampNeg) + 2) 0) 1 (7 + 14 * ((B 1 6).toNatClampNeg) + 3) 0) 1) (show (6 : Int32).toNatClampNeg = 6 by decide))).trans (bput_q (by omega))).trans (bput_q (by omega))).trans (bput_q (by omega))).trans (bput_q (by omega))) ?_
                  refine lv_re (nI_self hn9.1) ?_
                  refine lv_iload_n hx hb dX7_addsShaft_51 rfl (lv_at hl 0 rfl) ?_
                  refine wc_s hC hml (kX7_at l G (wset Z 12 (bput (bput (bput (bput B 1 (7 + 14 * ((B 1 6).toNatClampNeg) + 0) 0) 1 (7 + 14 * ((B 1 6).toNatClampNeg) + 1) 0) 1 (7 + 14 * ((B 1 6).toNatClampNeg) + 2) 0) 1 (7 + 14 * ((B 1 6).toNatClampNeg) + 3) 0)) ((B 1 6).toNatClampNeg) 4) (cwS 2 hts gX7_addsShaft_X7_at rfl rfl rfl (by decide +kernel) ⟨Nat.le_of_ble_eq_true rfl, Nat.le_of_ble_eq_true rfl⟩) hW hS rfl rfl hl.1 (Nat.le_of_ble_eq_true rfl) dX7_addsShaft_52 (fun H locs hW hS => ?_)
                  refine lv_re (y := nI (7 + 14 * ((B 1 6).toNatClampNeg) + 4)) rfl ?_
                  refine lv_iconst (v := 0) hx hb dX7_addsShaft_55 (by decide) ?_
                  refine wr_ast (kA := 0) (Z' := wset Z 12 (bput (bput (bput (bput (bput B 1 (7 + 14 * ((B 1 6).toNatClampNeg) + 0) 0) 1 (7 + 14 * ((B 1 6).toNatClampNeg) + 1) 0) 1 (7 + 14 * ((B 1 6).toNatClampNeg) + 2) 0) 1 (7 + 14 * ((B 1 6).toNatClampNeg) + 3) 0) 1 (nI (7 + 14 * ((B 1 6).toNatClampNeg) + 4)).toNatClampNeg 0)) hC hW hS (vM (by decide)) ce_m1 rfl (vp_in_nI (show (7 + 14 * ((B 1 6).toNatClampNeg) + 4) < 100 by omega) (by decide)) wset_off pu_m1 dX7_addsShaft_56 (fun H locs hW hS => ?_)
                  rw [nI_clamp (show (7 + 14 * ((B 1 6).toNatClampNeg) + 4) < 2 ^ 31 by omega)] at hW
                  refine lv_iinc (v := 5) (lv' := [(2, .int 5), (0, .ref (G.2.2.1 12 0)), (1, .int a1)]) hx hb dX7_addsShaft_57 hl (k := 0) rfl (by decide) (by decide) rfl (fun ls hl => ?_)
                  refine lv_goto (tgt := 34) hx hb dX7_addsShaft_60 (by decide) ?_
                  refine lv_iload_n hx hb dX7_addsShaft_34 rfl (lv_at hl 0 rfl) ?_
                  refine lv_bipush (v := 14) hx hb dX7_addsShaft_35 (by decide) ?_
                  refine lv_icmp_ge (tgt := 63) hx hb dX7_addsShaft_37 (by decide) (fun c_25 => ?_) (fun c_25 => ?_)
                  · exact absurd c_25 (by decide)
                  · skip
                    refine lv_aload_n hx hb dX7_addsShaft_40 rfl (lv_at hl 1 rfl) ?_
                    refine wr_get hC hinRX7 hW (vM (by decide)) ce_m0 rfl 0 (by decide) hk0 rfl dX7_addsShaft_41 ?_
                    refine lv_aload_n hx hb dX7_addsShaft_44 rfl (lv_at hl 1 rfl) ?_
                    refine wr_get hC hinRX7 hW (vM (by decide)) ce_m0 rfl 0 (by decide) hk0 rfl dX7_addsShaft_45 ?_
                    refine lv_bipush (v := 6) hx hb dX7_addsShaft_48 (by decide) ?_
                    refine wr_ald (kA := 0) hC hW (vM (by decide)) ce_m1 rfl (vp_in_iff.mpr (by decide)) dX7_addsShaft_50 ?_
                    refine lv_re (y := B 1 6) (((((((congrArg ((bput (bput (bput (bput (bput B 1 (7 + 14 * ((B 1 6).toNatClampNeg) + 0) 0) 1 (7 + 14 * ((B 1 6).toNatClampNeg) + 1) 0) 1 (7 + 14 * ((B 1 6).toNatClampNeg) + 2) 0) 1 (7 + 14 * ((B 1 6).toNatClampNeg) + 3) 0) 1 (7 + 14 * ((B 1 6).toNatClampNeg) + 4) 0) 1) (show (6 : Int32).toNatClampNeg = 6 by decide))).trans (bput_q (by omega))).trans (bput_q (by omega))).trans (bput_q (by omega))).trans (bput_q (by omega))).trans (bput_q (by omega))) ?_
                    refine lv_re (nI_self hn9.1) ?_
                    refine lv_iload_n hx hb dX7_addsShaft_51 rfl (lv_at hl 0 rfl) ?_
                    refine wc_s hC hml (kX7_at l G (wset Z 12 (bput (bput (bput (bput (bput B 1 (7 + 14 * ((B 1 6).toNatClampNeg) + 0) 0) 1 (7 + 14 * ((B 1 6).toNatClampNeg) + 1) 0) 1 (7 + 14 * ((B 1 6).toNatClampNeg) + 2) 0) 1 (7 + 14 * ((B 1 6).toNatClampNeg) + 3) 0) 1 (7 + 14 * ((B 1 6).toNatClampNeg) + 4) 0)) ((B 1 6).toNatClampNeg) 5) (cwS 2 hts gX7_addsShaft_X7_at rfl rfl rfl (by decide +kernel) ⟨Nat.le_of_ble_eq_true rfl, Nat.le_of_ble_eq_true rfl⟩) hW hS rfl rfl hl.1 (Nat.le_of_ble_eq_true rfl) dX7_addsShaft_52 (fun H locs hW hS => ?_)
                    refine lv_re (y := nI (7 + 14 * ((B 1 6).toNatClampNeg) + 5)) rfl ?_
                    refine lv_iconst (v := 0) hx hb dX7_addsShaft_55 (by decide) ?_
                    refine wr_ast (kA := 0) (Z' := wset Z 12 (bput (bput (bput (bput (bput (bput B 1 (7 + 14 * ((B 1 6).toNatClampNeg) + 0) 0) 1 (7 + 14 * ((B 1 6).toNatClampNeg) + 1) 0) 1 (7 + 14 * ((B 1 6).toNatClampNeg) + 2) 0) 1 (7 + 14 * ((B 1 6).toNatClampNeg) + 3) 0) 1 (7 + 14 * ((B 1 6).toNatClampNeg) + 4) 0) 1 (nI (7 + 14 * ((B 1 6).toNatClampNeg) + 5)).toNatClampNeg 0)) hC hW hS (vM (by decide)) ce_m1 rfl (vp_in_nI (show (7 + 14 * ((B 1 6).toNatClampNeg) + 5) < 100 by omega) (by decide)) wset_off pu_m1 dX7_addsShaft_56 (fun H locs hW hS => ?_)
                    rw [nI_clamp (show (7 + 14 * ((B 1 6).toNatClampNeg) + 5) < 2 ^ 31 by omega)] at hW
                    refine lv_iinc (v := 6) (lv' := [(2, .int 6), (0, .ref (G.2.2.1 12 0)), (1, .int a1)]) hx hb dX7_addsShaft_57 hl (k := 0) rfl (by decide) (by decide) rfl (fun ls hl => ?_)
                    refine lv_goto (tgt := 34) hx hb dX7_addsShaft_60 (by decide) ?_
                    refine lv_iload_n hx hb dX7_addsShaft_34 rfl (lv_at hl 0 rfl) ?_
                    refine lv_bipush (v := 14) hx hb dX7_addsShaft_35 (by decide) ?_
                    refine lv_icmp_ge (tgt := 63) hx hb dX7_addsShaft_37 (by decide) (fun c_26 => ?_) (fun c_26 => ?_)
                    · exact absurd c_26 (by decide)
                    · skip
                      refine lv_aload_n hx hb dX7_addsShaft_40 rfl (lv_at hl 1 rfl) ?_
                      refine wr_get hC hinRX7 hW (vM (by decide)) ce_m0 rfl 0 (by decide) hk0 rfl dX7_addsShaft_41 ?_
                      refine lv_aload_n hx hb dX7_addsShaft_44 rfl (lv_at hl 1 rfl) ?_
                      refine wr_get hC hinRX7 hW (vM (by decide)) ce_m0 rfl 0 (by decide) hk0 rfl dX7_addsShaft_45 ?_
                      refine lv_bipush (v := 6) hx hb dX7_addsShaft_48 (by decide) ?_
                      refine wr_ald (kA := 0) hC hW (vM (by decide)) ce_m1 rfl (vp_in_iff.mpr (by decide)) dX7_addsShaft_50 ?_
                      refine lv_re (y := B 1 6) ((((((((congrArg ((bput (bput (bput (bput (bput (bput B 1 (7 + 14 * ((B 1 6).toNatClampNeg) + 0) 0) 1 (7 + 14 * ((B 1 6).toNatClampNeg) + 1) 0) 1 (7 + 14 * ((B 1 6).toNatClampNeg) + 2) 0) 1 (7 + 14 * ((B 1 6).toNatClampNeg) + 3) 0) 1 (7 + 14 * ((B 1 6).toNatClampNeg) + 4) 0) 1 (7 + 14 * ((B 1 6).toNatClampNeg) + 5) 0) 1) (show (6 : Int32).toNatClampNeg = 6 by decide))).trans (bput_q (by omega))).trans (bput_q (by omega))).trans (bput_q (by omega))).trans (bput_q (by omega))).trans (bput_q (by omega))).trans (bput_q (by omega))) ?_
                      refine lv_re (nI_self hn9.1) ?_
                      refine lv_iload_n hx hb dX7_addsShaft_51 rfl (lv_at hl 0 rfl) ?_
                      refine wc_s hC hml (kX7_at l G (wset Z 12 (bput (bput (bput (bput (bput (bput B 1 (7 + 14 * ((B 1 6).toNatClampNeg) + 0) 0) 1 (7 + 14 * ((B 1 6).toNatClampNeg) + 1) 0) 1 (7 + 14 * ((B 1 6).toNatClampNeg) + 2) 0) 1 (7 + 14 * ((B 1 6).toNatClampNeg) + 3) 0) 1 (7 + 14 * ((B 1 6).toNatClampNeg) + 4) 0) 1 (7 + 14 * ((B 1 6).toNatClampNeg) + 5) 0)) ((B 1 6).toNatClampNeg) 6) (cwS 2 hts gX7_addsShaft_X7_at rfl rfl rfl (by decide +kernel) ⟨Nat.le_of_ble_eq_true rfl, Nat.le_of_ble_eq_true rfl⟩) hW hS rfl rfl hl.1 (Nat.le_of_ble_eq_true rfl) dX7_addsShaft_52 (fun H locs hW hS => ?_)
                      refine lv_re (y := nI (7 + 14 * ((B 1 6).toNatClampNeg) + 6)) rfl ?_
                      refine lv_iconst (v := 0) hx hb dX7_addsShaft_55 (by decide) ?_
                      refine wr_ast (kA := 0) (Z' := wset Z 12 (bput (bput (bput (bput (bput (bput (bput B 1 (7 + 14 * ((B 1 6).toNatClampNeg) + 0) 0) 1 (7 + 14 * ((B 1 6).toNatClampNeg) + 1) 0) 1 (7 + 14 * ((B 1 6).toNatClampNeg) + 2) 0) 1 (7 + 14 * ((B 1 6).toNatClampNeg) + 3) 0) 1 (7 + 14 * ((B 1 6).toNatClampNeg) + 4) 0) 1 (7 + 14 * ((B 1 6).toNatClampNeg) + 5) 0) 1 (nI (7 + 14 * ((B 1 6).toNatClampNeg) + 6)).toNatClampNeg 0)) hC hW hS (vM (by decide)) ce_m1 rfl (vp_in_nI (show (7 + 14 * ((B 1 6).toNatClampNeg) + 6) < 100 by omega) (by decide)) wset_off pu_m1 dX7_addsShaft_56 (fun H locs hW hS => ?_)
                      rw [nI_clamp (show (7 + 14 * ((B 1 6).toNatClampNeg) + 6) < 2 ^ 31 by omega)] at hW
                      refine lv_iinc (v := 7) (lv' := [(2, .int 7), (0, .ref (G.2.2.1 12 0)), (1, .int a1)]) hx hb dX7_addsShaft_57 hl (k := 0) rfl (by decide) (by decide) rfl (fun ls hl => ?_)
                      refine lv_goto (tgt := 34) hx hb dX7_addsShaft_60 (by decide) ?_
                      refine lv_iload_n hx hb dX7_addsShaft_34 rfl (lv_at hl 0 rfl) ?_
                      refine lv_bipush (v := 14) hx hb dX7_addsShaft_35 (by decide) ?_
                      refine lv_icmp_ge (tgt := 63) hx hb dX7_addsShaft_37 (by decide) (fun c_27 => ?_) (fun c_27 => ?_)
                      · exact absurd c_27 (by decide)
                      · skip
                        refine lv_aload_n hx hb dX7_addsShaft_40 rfl (lv_at hl 1 rfl) ?_
                        refine wr_get hC hinRX7 hW (vM (by decide)) ce_m0 rfl 0 (by decide) hk0 rfl dX7_addsShaft_41 ?_
                        refine lv_aload_n hx hb dX7_addsShaft_44 rfl (lv_at hl 1 rfl) ?_
                        refine wr_get hC hinRX7 hW (vM (by decide)) ce_m0 rfl 0 (by decide) hk0 rfl dX7_addsShaft_45 ?_
                        refine lv_bipush (v := 6) hx hb dX7_addsShaft_48 (by decide) ?_
                        refine wr_ald (kA := 0) hC hW (vM (by decide)) ce_m1 rfl (vp_in_iff.mpr (by decide)) dX7_addsShaft_50 ?_
                        refine lv_re (y := B 1 6) (((((((((congrArg ((bput (bput (bput (bput (bput (bput (bput B 1 (7 + 14 * ((B 1 6).toNatClampNeg) + 0) 0) 1 (7 + 14 * ((B 1 6).toNatClampNeg) + 1) 0) 1 (7 + 14 * ((B 1 6).toNatClampNeg) + 2) 0) 1 (7 + 14 * ((B 1 6).toNatClampNeg) + 3) 0) 1 (7 + 14 * ((B 1 6).toNatClampNeg) + 4) 0) 1 (7 + 14 * ((B 1 6).toNatClampNeg) + 5) 0) 1 (7 + 14 * ((B 1 6).toNatClampNeg) + 6) 0) 1) (show (6 : Int32).toNatClampNeg = 6 by decide))).trans (bput_q (by omega))).trans (bput_q (by omega))).trans (bput_q (by omega))).trans (bput_q (by omega))).trans (bput_q (by omega))).trans (bput_q (by omega))).trans (bput_q (by omega))) ?_
                        refine lv_re (nI_self hn9.1) ?_
                        refine lv_iload_n hx hb dX7_addsShaft_51 rfl (lv_at hl 0 rfl) ?_
                        refine wc_s hC hml (kX7_at l G (wset Z 12 (bput (bput (bput (bput (bput (bput (bput B 1 (7 + 14 * ((B 1 6).toNatClampNeg) + 0) 0) 1 (7 + 14 * ((B 1 6).toNatClampNeg) + 1) 0) 1 (7 + 14 * ((B 1 6).toNatClampNeg) + 2) 0) 1 (7 + 14 * ((B 1 6).toNatClampNeg) + 3) 0) 1 (7 + 14 * ((B 1 6).toNatClampNeg) + 4) 0) 1 (7 + 14 * ((B 1 6).toNatClampNeg) + 5) 0) 1 (7 + 14 * ((B 1 6).toNatClampNeg) + 6) 0)) ((B 1 6).toNatClampNeg) 7) (cwS 2 hts gX7_addsShaft_X7_at rfl rfl rfl (by decide +kernel) ⟨Nat.le_of_ble_eq_true rfl, Nat.le_of_ble_eq_true rfl⟩) hW hS rfl rfl hl.1 (Nat.le_of_ble_eq_true rfl) dX7_addsShaft_52 (fun H locs hW hS => ?_)
                        refine lv_re (y := nI (7 + 14 * ((B 1 6).toNatClampNeg) + 7)) rfl ?_
                        refine lv_iconst (v := 0) hx hb dX7_addsShaft_55 (by decide) ?_
                        refine wr_ast (kA := 0) (Z' := wset Z 12 (bput (bput (bput (bput (bput (bput (bput (bput B 1 (7 + 14 * ((B 1 6).toNatClampNeg) + 0) 0) 1 (7 + 14 * ((B 1 6).toNatClampNeg) + 1) 0) 1 (7 + 14 * ((B 1 6).toNatClampNeg) + 2) 0) 1 (7 + 14 * ((B 1 6).toNatClampNeg) + 3) 0) 1 (7 + 14 * ((B 1 6).toNatClampNeg) + 4) 0) 1 (7 + 14 * ((B 1 6).toNatClampNeg) + 5) 0) 1 (7 + 14 * ((B 1 6).toNatClampNeg) + 6) 0) 1 (nI (7 + 14 * ((B 1 6).toNatClampNeg) + 7)).toNatClampNeg 0)) hC hW hS (vM (by decide)) ce_m1 rfl (vp_in_nI (show (7 + 14 * ((B 1 6).toNatClampNeg) + 7) < 100 by omega) (by decide)) wset_off pu_m1 dX7_addsShaft_56 (fun H locs hW hS => ?_)
                        rw [nI_clamp (show (7 + 14 * ((B 1 6).toNatClampNeg) + 7) < 2 ^ 31 by omega)] at hW
                        refine lv_iinc (v := 8) (lv' := [(2, .int 8), (0, .ref (G.2.2.1 12 0)), (1, .int a1)]) hx hb dX7_addsShaft_57 hl (k := 0) rfl (by decide) (by decide) rfl (fun ls hl => ?_)
                        refine lv_goto (tgt := 34) hx hb dX7_addsShaft_60 (by decide) ?_
                        refine lv_iload_n hx hb dX7_addsShaft_34 rfl (lv_at hl 0 rfl) ?_
                        refine lv_bipush (v := 14) hx hb dX7_addsShaft_35 (by decide) ?_
                        refine lv_icmp_ge (tgt := 63) hx hb dX7_addsShaft_37 (by decide) (fun c_28 => ?_) (fun c_28 => ?_)
                        · exact absurd c_28 (by decide)
                        · skip
                          refine lv_aload_n hx hb dX7_addsShaft_40 rfl (lv_at hl 1 rfl) ?_
                          refine wr_get hC hinRX7 hW (vM (by decide)) ce_m0 rfl 0 (by decide) hk0 rfl dX7_addsShaft_41 ?_
                          refine lv_aload_n hx hb dX7_addsShaft_44 rfl (lv_at hl 1 rfl) ?_
                          refine wr_get hC hinRX7 hW (vM (by decide)) ce_m0 rfl 0 (by decide) hk0 rfl dX7_addsShaft_45 ?_
                          refine lv_bipush (v := 6) hx hb dX7_addsShaft_48 (by decide) ?_
                          refine wr_ald (kA := 0) hC hW (vM (by decide)) ce_m1 rfl (vp_in_iff.mpr (by decide)) dX7_addsShaft_50 ?_
                          refine lv_re (y := B 1 6) ((((((((((congrArg ((bput (bput (bput (bput (bput (bput (bput (bput B 1 (7 + 14 * ((B 1 6).toNatClampNeg) + 0) 0) 1 (7 + 14 * ((B 1 6).toNatClampNeg) + 1) 0) 1 (7 + 14 * ((B 1 6).toNatClampNeg) + 2) 0) 1 (7 + 14 * ((B 1 6).toNatClampNeg) + 3) 0) 1 (7 + 14 * ((B 1 6).toNatClampNeg) + 4) 0) 1 (7 + 14 * ((B 1 6).toNatClampNeg) + 5) 0) 1 (7 + 14 * ((B 1 6).toNatClampNeg) + 6) 0) 1 (7 + 14 * ((B 1 6).toNatClampNeg) + 7) 0) 1) (show (6 : Int32).toNatClampNeg = 6 by decide))).trans (bput_q (by omega))).trans (bput_q (by omega))).trans (bput_q (by omega))).trans (bput_q (by omega))).trans (bput_q (by omega))).trans (bput_q (by omega))).trans (bput_q (by omega))).trans (bput_q (by omega))) ?_
                          refine lv_re (nI_self hn9.1) ?_
                          refine lv_iload_n hx hb dX7_addsShaft_51 rfl (lv_at hl 0 rfl) ?_
                          refine wc_s hC hml (kX7_at l G (wset Z 12 (bput (bput (bput (bput (bput (bput (bput (bput B 1 (7 + 14 * ((B 1 6).toNatClampNeg) + 0) 0) 1 (7 + 14 * ((B 1 6).toNatClampNeg) + 1) 0) 1 (7 + 14 * ((B 1 6).toNatClampNeg) + 2) 0) 1 (7 + 14 * ((B 1 6).toNatClampNeg) + 3) 0) 1 (7 + 14 * ((B 1 6).toNatClampNeg) + 4) 0) 1 (7 + 14 * ((B 1 6).toNatClampNeg) + 5) 0) 1 (7 + 14 * ((B 1 6).toNatClampNeg) + 6) 0) 1 (7 + 14 * ((B 1 6).toNatClampNeg) + 7) 0)) ((B 1 6).toNatClampNeg) 8) (cwS 2 hts gX7_addsShaft_X7_at rfl rfl rfl (by decide +kernel) ⟨Nat.le_of_ble_eq_true rfl, Nat.le_of_ble_eq_true rfl⟩) hW hS rfl rfl hl.1 (Nat.le_of_ble_eq_true rfl) dX7_addsShaft_52 (fun H locs hW hS => ?_)
                          refine lv_re (y := nI (7 + 14 * ((B 1 6).toNatClampNeg) + 8)) rfl ?_
                          refine lv_iconst (v := 0) hx hb dX7_addsShaft_55 (by decide) ?_
                          refine wr_ast (kA := 0) (Z' := wset Z 12 (bput (bput (bput (bput (bput (bput (bput (bput (bput B 1 (7 + 14 * ((B 1 6).toNatClampNeg) + 0) 0) 1 (7 + 14 * ((B 1 6).toNatClampNeg) + 1) 0) 1 (7 + 14 * ((B 1 6).toNatClampNeg) + 2) 0) 1 (7 + 14 * ((B 1 6).toNatClampNeg) + 3) 0) 1 (7 + 14 * ((B 1 6).toNatClampNeg) + 4) 0) 1 (7 + 14 * ((B 1 6).toNatClampNeg) + 5) 0) 1 (7 + 14 * ((B 1 6).toNatClampNeg) + 6) 0) 1 (7 + 14 * ((B 1 6).toNatClampNeg) + 7) 0) 1 (nI (7 + 14 * ((B 1 6).toNatClampNeg) + 8)).toNatClampNeg 0)) hC hW hS (vM (by decide)) ce_m1 rfl (vp_in_nI (show (7 + 14 * ((B 1 6).toNatClampNeg) + 8) < 100 by omega) (by decide)) wset_off pu_m1 dX7_addsShaft_56 (fun H locs hW hS => ?_)
                          rw [nI_clamp (show (7 + 14 * ((B 1 6).toNatClampNeg) + 8) < 2 ^ 31 by omega)] at hW
                          refine lv_iinc (v := 9) (lv' := [(2, .int 9), (0, .ref (G.2.2.1 12 0)), (1, .int a1)]) hx hb dX7_addsShaft_57 hl (k := 0) rfl (by decide) (by decide) rfl (fun ls hl => ?_)
                          refine lv_goto (tgt := 34) hx hb dX7_addsShaft_60 (by decide) ?_
                          refine lv_iload_n hx hb dX7_addsShaft_34 rfl (lv_at hl 0 rfl) ?_
                          refine lv_bipush (v := 14) hx hb dX7_addsShaft_35 (by decide) ?_
                          refine lv_icmp_ge (tgt := 63) hx hb dX7_addsShaft_37 (by decide) (fun c_29 => ?_) (fun c_29 => ?_)
                          · exact absurd c_29 (by decide)
                          · skip
                            refine lv_aload_n hx hb dX7_addsShaft_40 rfl (lv_at hl 1 rfl) ?_
                            refine wr_get hC hinRX7 hW (vM (by decide)) ce_m0 rfl 0 (by decide) hk0 rfl dX7_addsShaft_41 ?_
                            refine lv_aload_n hx hb dX7_addsShaft_44 rfl (lv_at hl 1 rfl) ?_
                            refine wr_get hC hinRX7 hW (vM (by decide)) ce_m0 rfl 0 (by decide) hk0 rfl dX7_addsShaft_45 ?_
                            refine lv_bipush (v := 6) hx hb dX7_addsShaft_48 (by decide) ?_
                            refine wr_ald (kA := 0) hC hW (vM (by decide)) ce_m1 rfl (vp_in_iff.mpr (by decide)) dX7_addsShaft_50 ?_
                            refine lv_re (y := B 1 6) (((((((((((congrArg ((bput (bput (bput (bput (bput (bput (bput (bput (bput B 1 (7 + 14 * ((B 1 6).toNatClampNeg) + 0) 0) 1 (7 + 14 * ((B 1 6).toNatClampNeg) + 1) 0) 1 (7 + 14 * ((B 1 6).toNatClampNeg) + 2) 0) 1 (7 + 14 * ((B 1 6).toNatClampNeg) + 3) 0) 1 (7 + 14 * ((B 1 6).toNatClampNeg) + 4) 0) 1 (7 + 14 * ((B 1 6).toNatClampNeg) + 5) 0) 1 (7 + 14 * ((B 1 6).toNatClampNeg) + 6) 0) 1 (7 + 14 * ((B 1 6).toNatClampNeg) + 7) 0) 1 (7 + 14 * ((B 1 6).toNatClampNeg) + 8) 0) 1) (show (6 : Int32).toNatClampNeg = 6 by decide))).trans (bput_q (by omega))).trans (bput_q (by omega))).trans (bput_q (by omega))).trans (bput_q (by omega))).trans (bput_q (by omega))).trans (bput_q (by omega))).trans (bput_q (by omega))).trans (bput_q (by omega))).trans (bput_q (by omega))) ?_
                            refine lv_re (nI_self hn9.1) ?_
                            refine lv_iload_n hx hb dX7_addsShaft_51 rfl (lv_at hl 0 rfl) ?_
                            refine wc_s hC hml (kX7_at l G (wset Z 12 (bput (bput (bput (bput (bput (bput (bput (bput (bput B 1 (7 + 14 * ((B 1 6).toNatClampNeg) + 0) 0) 1 (7 + 14 * ((B 1 6).toNatClampNeg) + 1) 0) 1 (7 + 14 * ((B 1 6).toNatClampNeg) + 2) 0) 1 (7 + 14 * ((B 1 6).toNatClampNeg) + 3) 0) 1 (7 + 14 * ((B 1 6).toNatClampNeg) + 4) 0) 1 (7 + 14 * ((B 1 6).toNatClampNeg) + 5) 0) 1 (7 + 14 * ((B 1 6).toNatClampNeg) + 6) 0) 1 (7 + 14 * ((B 1 6).toNatClampNeg) + 7) 0) 1 (7 + 14 * ((B 1 6).toNatClampNeg) + 8) 0)) ((B 1 6).toNatClampNeg) 9) (cwS 2 hts gX7_addsShaft_X7_at rfl rfl rfl (by decide +kernel) ⟨Nat.le_of_ble_eq_true rfl, Nat.le_of_ble_eq_true rfl⟩) hW hS rfl rfl hl.1 (Nat.le_of_ble_eq_true rfl) dX7_addsShaft_52 (fun H locs hW hS => ?_)
                            refine lv_re (y := nI (7 + 14 * ((B 1 6).toNatClampNeg) + 9)) rfl ?_
                            refine lv_iconst (v := 0) hx hb dX7_addsShaft_55 (by decide) ?_
                            refine wr_ast (kA := 0) (Z' := wset Z 12 (bput (bput (bput (bput (bput (bput (bput (bput (bput (bput B 1 (7 + 14 * ((B 1 6).toNatClampNeg) + 0) 0) 1 (7 + 14 * ((B 1 6).toNatClampNeg) + 1) 0) 1 (7 + 14 * ((B 1 6).toNatClampNeg) + 2) 0) 1 (7 + 14 * ((B 1 6).toNatClampNeg) + 3) 0) 1 (7 + 14 * ((B 1 6).toNatClampNeg) + 4) 0) 1 (7 + 14 * ((B 1 6).toNatClampNeg) + 5) 0) 1 (7 + 14 * ((B 1 6).toNatClampNeg) + 6) 0) 1 (7 + 14 * ((B 1 6).toNatClampNeg) + 7) 0) 1 (7 + 14 * ((B 1 6).toNatClampNeg) + 8) 0) 1 (nI (7 + 14 * ((B 1 6).toNatClampNeg) + 9)).toNatClampNeg 0)) hC hW hS (vM (by decide)) ce_m1 rfl (vp_in_nI (show (7 + 14 * ((B 1 6).toNatClampNeg) + 9) < 100 by omega) (by decide)) wset_off pu_m1 dX7_addsShaft_56 (fun H locs hW hS => ?_)
                            rw [nI_clamp (show (7 + 14 * ((B 1 6).toNatClampNeg) + 9) < 2 ^ 31 by omega)] at hW
                            refine lv_iinc (v := 10) (lv' := [(2, .int 10), (0, .ref (G.2.2.1 12 0)), (1, .int a1)]) hx hb dX7_addsShaft_57 hl (k := 0) rfl (by decide) (by decide) rfl (fun ls hl => ?_)
                            refine lv_goto (tgt := 34) hx hb dX7_addsShaft_60 (by decide) ?_
                            refine lv_iload_n hx hb dX7_addsShaft_34 rfl (lv_at hl 0 rfl) ?_
                            refine lv_bipush (v := 14) hx hb dX7_addsShaft_35 (by decide) ?_
                            refine lv_icmp_ge (tgt := 63) hx hb dX7_addsShaft_37 (by decide) (fun c_30 => ?_) (fun c_30 => ?_)
                            · exact absurd c_30 (by decide)
                            · skip
                              refine lv_aload_n hx hb dX7_addsShaft_40 rfl (lv_at hl 1 rfl) ?_
                              refine wr_get hC hinRX7 hW (vM (by decide)) ce_m0 rfl 0 (by decide) hk0 rfl dX7_addsShaft_41 ?_
                              refine lv_aload_n hx hb dX7_addsShaft_44 rfl (lv_at hl 1 rfl) ?_
                              refine wr_get hC hinRX7 hW (vM (by decide)) ce_m0 rfl 0 (by decide) hk0 rfl dX7_addsShaft_45 ?_
                              refine lv_bipush (v := 6) hx hb dX7_addsShaft_48 (by decide) ?_
                              refine wr_ald (kA := 0) hC hW (vM (by decide)) ce_m1 rfl (vp_in_iff.mpr (by decide)) dX7_addsShaft_50 ?_
                              refine lv_re (y := B 1 6) ((((((((((((congrArg ((bput (bput (bput (bput (bput (bput (bput (bput (bput (bput B 1 (7 + 14 * ((B 1 6).toNatClampNeg) + 0) 0) 1 (7 + 14 * ((B 1 6).toNatClampNeg) + 1) 0) 1 (7 + 14 * ((B 1 6).toNatClampNeg) + 2) 0) 1 (7 + 14 * ((B 1 6).toNatClampNeg) + 3) 0) 1 (7 + 14 * ((B 1 6).toNatClampNeg) + 4) 0) 1 (7 + 14 * ((B 1 6).toNatClampNeg) + 5) 0) 1 (7 + 14 * ((B 1 6).toNatClampNeg) + 6) 0) 1 (7 + 14 * ((B 1 6).toNatClampNeg) + 7) 0) 1 (7 + 14 * ((B 1 6).toNatClampNeg) + 8) 0) 1 (7 + 14 * ((B 1 6).toNatClampNeg) + 9) 0) 1) (show (6 : Int32).toNatClampNeg = 6 by decide))).trans (bput_q (by omega))).trans (bput_q (by omega))).trans (bput_q (by omega))).trans (bput_q (by omega))).trans (bput_q (by omega))).trans (bput_q (by omega))).trans (bput_q (by omega))).trans (bput_q (by omega))).trans (bput_q (by omega))).trans (bput_q (by omega))) ?_
                              refine lv_re (nI_self hn9.1) ?_
                              refine lv_iload_n hx hb dX7_addsShaft_51 rfl (lv_at hl 0 rfl) ?_
                              refine wc_s hC hml (kX7_at l G (wset Z 12 (bput (bput (bput (bput (bput (bput (bput (bput (bput (bput B 1 (7 + 14 * ((B 1 6).toNatClampNeg) + 0) 0) 1 (7 + 14 * ((B 1 6).toNatClampNeg) + 1) 0) 1 (7 + 14 * ((B 1 6).toNatClampNeg) + 2) 0) 1 (7 + 14 * ((B 1 6).toNatClampNeg) + 3) 0) 1 (7 + 14 * ((B 1 6).toNatClampNeg) + 4) 0) 1 (7 + 14 * ((B 1 6).toNatClampNeg) + 5) 0) 1 (7 + 14 * ((B 1 6).toNatClampNeg) + 6) 0) 1 (7 + 14 * ((B 1 6).toNatClampNeg) + 7) 0) 1 (7 + 14 * ((B 1 6).toNatClampNeg) + 8) 0) 1 (7 + 14 * ((B 1 6).toNatClampNeg) + 9) 0)) ((B 1 6).toNatClampNeg) 10) (cwS 2 hts gX7_addsShaft_X7_at rfl rfl rfl (by decide +kernel) ⟨Nat.le_of_ble_eq_true rfl, Nat.le_of_ble_eq_true rfl⟩) hW hS rfl rfl hl.1 (Nat.le_of_ble_eq_true rfl) dX7_addsShaft_52 (fun H locs hW hS => ?_)
                              refine lv_re (y := nI (7 + 14 * ((B 1 6).toNatClampNeg) + 10)) rfl ?_
                              refine lv_iconst (v := 0) hx hb dX7_addsShaft_55 (by decide) ?_
                              refine wr_ast (kA := 0) (Z' := wset Z 12 (bput (bput (bput (bput (bput (bput (bput (bput (bput (bput (bput B 1 (7 + 14 * ((B 1 6).toNatClampNeg) + 0) 0) 1 (7 + 14 * ((B 1 6).toNatClampNeg) + 1) 0) 1 (7 + 14 * ((B 1 6).toNatClampNeg) + 2) 0) 1 (7 + 14 * ((B 1 6).toNatClampNeg) + 3) 0) 1 (7 + 14 * ((B 1 6).toNatClampNeg) + 4) 0) 1 (7 + 14 * ((B 1 6).toNatClampNeg) + 5) 0) 1 (7 + 14 * ((B 1 6).toNatClampNeg) + 6) 0) 1 (7 + 14 * ((B 1 6).toNatClampNeg) + 7) 0) 1 (7 + 14 * ((B 1 6).toNatClampNeg) + 8) 0) 1 (7 + 14 * ((B 1 6).toNatClampNeg) + 9) 0) 1 (nI (7 + 14 * ((B 1 6).toNatClampNeg) + 10)).toNatClampNeg 0)) hC hW hS (vM (by decide)) ce_m1 rfl (vp_in_nI (show (7 + 14 * ((B 1 6).toNatClampNeg) + 10) < 100 by omega) (by decide)) wset_off pu_m1 dX7_addsShaft_56 (fun H locs hW hS => ?_)
                              rw [nI_clamp (show (7 + 14 * ((B 1 6).toNatClampNeg) + 10) < 2 ^ 31 by omega)] at hW
                              refine lv_iinc (v := 11) (lv' := [(2, .int 11), (0, .ref (G.2.2.1 12 0)), (1, .int a1)]) hx hb dX7_addsShaft_57 hl (k := 0) rfl (by decide) (by decide) rfl (fun ls hl => ?_)
                              refine lv_goto (tgt := 34) hx hb dX7_addsShaft_60 (by decide) ?_
                              refine lv_iload_n hx hb dX7_addsShaft_34 rfl (lv_at hl 0 rfl) ?_
                              refine lv_bipush (v := 14) hx hb dX7_addsShaft_35 (by decide) ?_
                              refine lv_icmp_ge (tgt := 63) hx hb dX7_addsShaft_37 (by decide) (fun c_31 => ?_) (fun c_31 => ?_)
                              · exact absurd c_31 (by decide)
                              · skip
                                refine lv_aload_n hx hb dX7_addsShaft_40 rfl (lv_at hl 1 rfl) ?_
                                refine wr_get hC hinRX7 hW (vM (by decide)) ce_m0 rfl 0 (by decide) hk0 rfl dX7_addsShaft_41 ?_
                                refine lv_aload_n hx hb dX7_addsShaft_44 rfl (lv_at hl 1 rfl) ?_
                                refine wr_get hC hinRX7 hW (vM (by decide)) ce_m0 rfl 0 (by decide) hk0 rfl dX7_addsShaft_45 ?_
                                refine lv_bipush (v := 6) hx hb dX7_addsShaft_48 (by decide) ?_
                                refine wr_ald (kA := 0) hC hW (vM (by decide)) ce_m1 rfl (vp_in_iff.mpr (by decide)) dX7_addsShaft_50 ?_
                                refine lv_re (y := B 1 6) (((((((((((((congrArg ((bput (bput (bput (bput (bput (bput (bput (bput (bput (bput (bput B 1 (7 + 14 * ((B 1 6).toNatClampNeg) + 0) 0) 1 (7 + 14 * ((B 1 6).toNatClampNeg) + 1) 0) 1 (7 + 14 * ((B 1 6).toNatClampNeg) + 2) 0) 1 (7 + 14 * ((B 1 6).toNatClampNeg) + 3) 0) 1 (7 + 14 * ((B 1 6).toNatClampNeg) + 4) 0) 1 (7 + 14 * ((B 1 6).toNatClampNeg) + 5) 0) 1 (7 + 14 * ((B 1 6).toNatClampNeg) + 6) 0) 1 (7 + 14 * ((B 1 6).toNatClampNeg) + 7) 0) 1 (7 + 14 * ((B 1 6).toNatClampNeg) + 8) 0) 1 (7 + 14 * ((B 1 6).toNatClampNeg) + 9) 0) 1 (7 + 14 * ((B 1 6).toNatClampNeg) + 10) 0) 1) (show (6 : Int32).toNatClampNeg = 6 by decide))).trans (bput_q (by omega))).trans (bput_q (by omega))).trans (bput_q (by omega))).trans (bput_q (by omega))).trans (bput_q (by omega))).trans (bput_q (by omega))).trans (bput_q (by omega))).trans (bput_q (by omega))).trans (bput_q (by omega))).trans (bput_q (by omega))).trans (bput_q (by omega))) ?_
                                refine lv_re (nI_self hn9.1) ?_
                                refine lv_iload_n hx hb dX7_addsShaft_51 rfl (lv_at hl 0 rfl) ?_
                                refine wc_s hC hml (kX7_at l G (wset Z 12 (bput (bput (bput (bput (bput (bput (bput (bput (bput (bput (bput B 1 (7 + 14 * ((B 1 6).toNatClampNeg) + 0) 0) 1 (7 + 14 * ((B 1 6).toNatClampNeg) + 1) 0) 1 (7 + 14 * ((B 1 6).toNatClampNeg) + 2) 0) 1 (7 + 14 * ((B 1 6).toNatClampNeg) + 3) 0) 1 (7 + 14 * ((B 1 6).toNatClampNeg) + 4) 0) 1 (7 + 14 * ((B 1 6).toNatClampNeg) + 5) 0) 1 (7 + 14 * ((B 1 6).toNatClampNeg) + 6) 0) 1 (7 + 14 * ((B 1 6).toNatClampNeg) + 7) 0) 1 (7 + 14 * ((B 1 6).toNatClampNeg) + 8) 0) 1 (7 + 14 * ((B 1 6).toNatClampNeg) + 9) 0) 1 (7 + 14 * ((B 1 6).toNatClampNeg) + 10) 0)) ((B 1 6).toNatClampNeg) 11) (cwS 2 hts gX7_addsShaft_X7_at rfl rfl rfl (by decide +kernel) ⟨Nat.le_of_ble_eq_true rfl, Nat.le_of_ble_eq_true rfl⟩) hW hS rfl rfl hl.1 (Nat.le_of_ble_eq_true rfl) dX7_addsShaft_52 (fun H locs hW hS => ?_)
                                refine lv_re (y := nI (7 + 14 * ((B 1 6).toNatClampNeg) + 11)) rfl ?_
                                refine lv_iconst (v := 0) hx hb dX7_addsShaft_55 (by decide) ?_
                                refine wr_ast (kA := 0) (Z' := wset Z 12 (bput (bput (bput (bput (bput (bput (bput (bput (bput (bput (bput (bput B 1 (7 + 14 * ((B 1 6).toNatClampNeg) + 0) 0) 1 (7 + 14 * ((B 1 6).toNatClampNeg) + 1) 0) 1 (7 + 14 * ((B 1 6).toNatClampNeg) + 2) 0) 1 (7 + 14 * ((B 1 6).toNatClampNeg) + 3) 0) 1 (7 + 14 * ((B 1 6).toNatClampNeg) + 4) 0) 1 (7 + 14 * ((B 1 6).toNatClampNeg) + 5) 0) 1 (7 + 14 * ((B 1 6).toNatClampNeg) + 6) 0) 1 (7 + 14 * ((B 1 6).toNatClampNeg) + 7) 0) 1 (7 + 14 * ((B 1 6).toNatClampNeg) + 8) 0) 1 (7 + 14 * ((B 1 6).toNatClampNeg) + 9) 0) 1 (7 + 14 * ((B 1 6).toNatClampNeg) + 10) 0) 1 (nI (7 + 14 * ((B 1 6).toNatClampNeg) + 11)).toNatClampNeg 0)) hC hW hS (vM (by decide)) ce_m1 rfl (vp_in_nI (show (7 + 14 * ((B 1 6).toNatClampNeg) + 11) < 100 by omega) (by decide)) wset_off pu_m1 dX7_addsShaft_56 (fun H locs hW hS => ?_)
                                rw [nI_clamp (show (7 + 14 * ((B 1 6).toNatClampNeg) + 11) < 2 ^ 31 by omega)] at hW
                                refine lv_iinc (v := 12) (lv' := [(2, .int 12), (0, .ref (G.2.2.1 12 0)), (1, .int a1)]) hx hb dX7_addsShaft_57 hl (k := 0) rfl (by decide) (by decide) rfl (fun ls hl => ?_)
                                refine lv_goto (tgt := 34) hx hb dX7_addsShaft_60 (by decide) ?_
                                refine lv_iload_n hx hb dX7_addsShaft_34 rfl (lv_at hl 0 rfl) ?_
                                refine lv_bipush (v := 14) hx hb dX7_addsShaft_35 (by decide) ?_
                                refine lv_icmp_ge (tgt := 63) hx hb dX7_addsShaft_37 (by decide) (fun c_32 => ?_) (fun c_32 => ?_)
                                · exact absurd c_32 (by decide)
                                · skip
                                  refine lv_aload_n hx hb dX7_addsShaft_40 rfl (lv_at hl 1 rfl) ?_
                                  refine wr_get hC hinRX7 hW (vM (by decide)) ce_m0 rfl 0 (by decide) hk0 rfl dX7_addsShaft_41 ?_
                                  refine lv_aload_n hx hb dX7_addsShaft_44 rfl (lv_at hl 1 rfl) ?_
                                  refine wr_get hC hinRX7 hW (vM (by decide)) ce_m0 rfl 0 (by decide) hk0 rfl dX7_addsShaft_45 ?_
                                  refine lv_bipush (v := 6) hx hb dX7_addsShaft_48 (by decide) ?_
                                  refine wr_ald (kA := 0) hC hW (vM (by decide)) ce_m1 rfl (vp_in_iff.mpr (by decide)) dX7_addsShaft_50 ?_
                                  refine lv_re (y := B 1 6) ((((((((((((((congrArg ((bput (bput (bput (bput (bput (bput (bput (bput (bput (bput (bput (bput B 1 (7 + 14 * ((B 1 6).toNatClampNeg) + 0) 0) 1 (7 + 14 * ((B 1 6).toNatClampNeg) + 1) 0) 1 (7 + 14 * ((B 1 6).toNatClampNeg) + 2) 0) 1 (7 + 14 * ((B 1 6).toNatClampNeg) + 3) 0) 1 (7 + 14 * ((B 1 6).toNatClampNeg) + 4) 0) 1 (7 + 14 * ((B 1 6).toNatClampNeg) + 5) 0) 1 (7 + 14 * ((B 1 6).toNatClampNeg) + 6) 0) 1 (7 + 14 * ((B 1 6).toNatClampNeg) + 7) 0) 1 (7 + 14 * ((B 1 6).toNatClampNeg) + 8) 0) 1 (7 + 14 * ((B 1 6).toNatClampNeg) + 9) 0) 1 (7 + 14 * ((B 1 6).toNatClampNeg) + 10) 0) 1 (7 + 14 * ((B 1 6).toNatClampNeg) + 11) 0) 1) (show (6 : Int32).toNatClampNeg = 6 by decide))).trans (bput_q (by omega))).trans (bput_q (by omega))).trans (bput_q (by omega))).trans (bput_q (by omega))).trans (bput_q (by omega))).trans (bput_q (by omega))).trans (bput_q (by omega))).trans (bput_q (by omega))).trans (bput_q (by omega))).trans (bput_q (by omega))).trans (bput_q (by omega))).trans (bput_q (by omega))) ?_
                                  refine lv_re (nI_self hn9.1) ?_
                                  refine lv_iload_n hx hb dX7_addsShaft_51 rfl (lv_at hl 0 rfl) ?_
                                  refine wc_s hC hml (kX7_at l G (wset Z 12 (bput (bput (bput (bput (bput (bput (bput (bput (bput (bput (bput (bput B 1 (7 + 14 * ((B 1 6).toNatClampNeg) + 0) 0) 1 (7 + 14 * ((B 1 6).toNatClampNeg) + 1) 0) 1 (7 + 14 * ((B 1 6).toNatClampNeg) + 2) 0) 1 (7 + 14 * ((B 1 6).toNatClampNeg) + 3) 0) 1 (7 + 14 * ((B 1 6).toNatClampNeg) + 4) 0) 1 (7 + 14 * ((B 1 6).toNatClampNeg) + 5) 0) 1 (7 + 14 * ((B 1 6).toNatClampNeg) + 6) 0) 1 (7 + 14 * ((B 1 6).toNatClampNeg) + 7) 0) 1 (7 + 14 * ((B 1 6).toNatClampNeg) + 8) 0) 1 (7 + 14 * ((B 1 6).toNatClampNeg) + 9) 0) 1 (7 + 14 * ((B 1 6).toNatClampNeg) + 10) 0) 1 (7 + 14 * ((B 1 6).toNatClampNeg) + 11) 0)) ((B 1 6).toNatClampNeg) 12) (cwS 2 hts gX7_addsShaft_X7_at rfl rfl rfl (by decide +kernel) ⟨Nat.le_of_ble_eq_true rfl, Nat.le_of_ble_eq_true rfl⟩) hW hS rfl rfl hl.1 (Nat.le_of_ble_eq_true rfl) dX7_addsShaft_52 (fun H locs hW hS => ?_)
                                  refine lv_re (y := nI (7 + 14 * ((B 1 6).toNatClampNeg) + 12)) rfl ?_
                                  refine lv_iconst (v := 0) hx hb dX7_addsShaft_55 (by decide) ?_
                                  refine wr_ast (kA := 0) (Z' := wset Z 12 (bput (bput (bput (bput (bput (bput (bput (bput (bput (bput (bput (bput (bput B 1 (7 + 14 * ((B 1 6).toNatClampNeg) + 0) 0) 1 (7 + 14 * ((B 1 6).toNatClampNeg) + 1) 0) 1 (7 + 14 * ((B 1 6).toNatClampNeg) + 2) 0) 1 (7 + 14 * ((B 1 6).toNatClampNeg) + 3) 0) 1 (7 + 14 * ((B 1 6).toNatClampNeg) + 4) 0) 1 (7 + 14 * ((B 1 6).toNatClampNeg) + 5) 0) 1 (7 + 14 * ((B 1 6).toNatClampNeg) + 6) 0) 1 (7 + 14 * ((B 1 6).toNatClampNeg) + 7) 0) 1 (7 + 14 * ((B 1 6).toNatClampNeg) + 8) 0) 1 (7 + 14 * ((B 1 6).toNatClampNeg) + 9) 0) 1 (7 + 14 * ((B 1 6).toNatClampNeg) + 10) 0) 1 (7 + 14 * ((B 1 6).toNatClampNeg) + 11) 0) 1 (nI (7 + 14 * ((B 1 6).toNatClampNeg) + 12)).toNatClampNeg 0)) hC hW hS (vM (by decide)) ce_m1 rfl (vp_in_nI (show (7 + 14 * ((B 1 6).toNatClampNeg) + 12) < 100 by omega) (by decide)) wset_off pu_m1 dX7_addsShaft_56 (fun H locs hW hS => ?_)
                                  rw [nI_clamp (show (7 + 14 * ((B 1 6).toNatClampNeg) + 12) < 2 ^ 31 by omega)] at hW
                                  refine lv_iinc (v := 13) (lv' := [(2, .int 13), (0, .ref (G.2.2.1 12 0)), (1, .int a1)]) hx hb dX7_addsShaft_57 hl (k := 0) rfl (by decide) (by decide) rfl (fun ls hl => ?_)
                                  refine lv_goto (tgt := 34) hx hb dX7_addsShaft_60 (by decide) ?_
                                  refine lv_iload_n hx hb dX7_addsShaft_34 rfl (lv_at hl 0 rfl) ?_
                                  refine lv_bipush (v := 14) hx hb dX7_addsShaft_35 (by decide) ?_
                                  refine lv_icmp_ge (tgt := 63) hx hb dX7_addsShaft_37 (by decide) (fun c_33 => ?_) (fun c_33 => ?_)
                                  · exact absurd c_33 (by decide)
                                  · skip
                                    refine lv_aload_n hx hb dX7_addsShaft_40 rfl (lv_at hl 1 rfl) ?_
                                    refine wr_get hC hinRX7 hW (vM (by decide)) ce_m0 rfl 0 (by decide) hk0 rfl dX7_addsShaft_41 ?_
                                    refine lv_aload_n hx hb dX7_addsShaft_44 rfl (lv_at hl 1 rfl) ?_
                                    refine wr_get hC hinRX7 hW (vM (by decide)) ce_m0 rfl 0 (by decide) hk0 rfl dX7_addsShaft_45 ?_
                                    refine lv_bipush (v := 6) hx hb dX7_addsShaft_48 (by decide) ?_
                                    refine wr_ald (kA := 0) hC hW (vM (by decide)) ce_m1 rfl (vp_in_iff.mpr (by decide)) dX7_addsShaft_50 ?_
                                    refine lv_re (y := B 1 6) (((((((((((((((congrArg ((bput (bput (bput (bput (bput (bput (bput (bput (bput (bput (bput (bput (bput B 1 (7 + 14 * ((B 1 6).toNatClampNeg) + 0) 0) 1 (7 + 14 * ((B 1 6).toNatClampNeg) + 1) 0) 1 (7 + 14 * ((B 1 6).toNatClampNeg) + 2) 0) 1 (7 + 14 * ((B 1 6).toNatClampNeg) + 3) 0) 1 (7 + 14 * ((B 1 6).toNatClampNeg) + 4) 0) 1 (7 + 14 * ((B 1 6).toNatClampNeg) + 5) 0) 1 (7 + 14 * ((B 1 6).toNatClampNeg) + 6) 0) 1 (7 + 14 * ((B 1 6).toNatClampNeg) + 7) 0) 1 (7 + 14 * ((B 1 6).toNatClampNeg) + 8) 0) 1 (7 + 14 * ((B 1 6).toNatClampNeg) + 9) 0) 1 (7 + 14 * ((B 1 6).toNatClampNeg) + 10) 0) 1 (7 + 14 * ((B 1 6).toNatClampNeg) + 11) 0) 1 (7 + 14 * ((B 1 6).toNatClampNeg) + 12) 0) 1) (show (6 : Int32).toNatClampNeg = 6 by decide))).trans (bput_q (by omega))).trans (bput_q (by omega))).trans (bput_q (by omega))).trans (bput_q (by omega))).trans (bput_q (by omega))).trans (bput_q (by omega))).trans (bput_q (by omega))).trans (bput_q (by omega))).trans (bput_q (by omega))).trans (bput_q (by omega))).trans (bput_q (by omega))).trans (bput_q (by omega))).trans (bput_q (by omega))) ?_
                                    refine lv_re (nI_self hn9.1) ?_
                                    refine lv_iload_n hx hb dX7_addsShaft_51 rfl (lv_at hl 0 rfl) ?_
                                    refine wc_s hC hml (kX7_at l G (wset Z 12 (bput (bput (bput (bput (bput (bput (bput (bput (bput (bput (bput (bput (bput B 1 (7 + 14 * ((B 1 6).toNatClampNeg) + 0) 0) 1 (7 + 14 * ((B 1 6).toNatClampNeg) + 1) 0) 1 (7 + 14 * ((B 1 6).toNatClampNeg) + 2) 0) 1 (7 + 14 * ((B 1 6).toNatClampNeg) + 3) 0) 1 (7 + 14 * ((B 1 6).toNatClampNeg) + 4) 0) 1 (7 + 14 * ((B 1 6).toNatClampNeg) + 5) 0) 1 (7 + 14 * ((B 1 6).toNatClampNeg) + 6) 0) 1 (7 + 14 * ((B 1 6).toNatClampNeg) + 7) 0) 1 (7 + 14 * ((B 1 6).toNatClampNeg) + 8) 0) 1 (7 + 14 * ((B 1 6).toNatClampNeg) + 9) 0) 1 (7 + 14 * ((B 1 6).toNatClampNeg) + 10) 0) 1 (7 + 14 * ((B 1 6).toNatClampNeg) + 11) 0) 1 (7 + 14 * ((B 1 6).toNatClampNeg) + 12) 0)) ((B 1 6).toNatClampNeg) 13) (cwS 2 hts gX7_addsShaft_X7_at rfl rfl rfl (by decide +kernel) ⟨Nat.le_of_ble_eq_true rfl, Nat.le_of_ble_eq_true rfl⟩) hW hS rfl rfl hl.1 (Nat.le_of_ble_eq_true rfl) dX7_addsShaft_52 (fun H locs hW hS => ?_)
                                    refine lv_re (y := nI (7 + 14 * ((B 1 6).toNatClampNeg) + 13)) rfl ?_
                                    refine lv_iconst (v := 0) hx hb dX7_addsShaft_55 (by decide) ?_
                                    refine wr_ast (kA := 0) (Z' := wset Z 12 (bput (bput (bput (bput (bput (bput (bput (bput (bput (bput (bput (bput (bput (bput B 1 (7 + 14 * ((B 1 6).toNatClampNeg) + 0) 0) 1 (7 + 14 * ((B 1 6).toNatClampNeg) + 1) 0) 1 (7 + 14 * ((B 1 6).toNatClampNeg) + 2) 0) 1 (7 + 14 * ((B 1 6).toNatClampNeg) + 3) 0) 1 (7 + 14 * ((B 1 6).toNatClampNeg) + 4) 0) 1 (7 + 14 * ((B 1 6).toNatClampNeg) + 5) 0) 1 (7 + 14 * ((B 1 6).toNatClampNeg) + 6) 0) 1 (7 + 14 * ((B 1 6).toNatClampNeg) + 7) 0) 1 (7 + 14 * ((B 1 6).toNatClampNeg) + 8) 0) 1 (7 + 14 * ((B 1 6).toNatClampNeg) + 9) 0) 1 (7 + 14 * ((B 1 6).toNatClampNeg) + 10) 0) 1 (7 + 14 * ((B 1 6).toNatClampNeg) + 11) 0) 1 (7 + 14 * ((B 1 6).toNatClampNeg) + 12) 0) 1 (nI (7 + 14 * ((B 1 6).toNatClampNeg) + 13)).toNatClampNeg 0)) hC hW hS (vM (by decide)) ce_m1 rfl (vp_in_nI (show (7 + 14 * ((B 1 6).toNatClampNeg) + 13) < 100 by omega) (by decide)) wset_off pu_m1 dX7_addsShaft_56 (fun H locs hW hS => ?_)
                                    rw [nI_clamp (show (7 + 14 * ((B 1 6).toNatClampNeg) + 13) < 2 ^ 31 by omega)] at hW
                                    refine lv_iinc (v := 14) (lv' := [(2, .int 14), (0, .ref (G.2.2.1 12 0)), (1, .int a1)]) hx hb dX7_addsShaft_57 hl (k := 0) rfl (by decide) (by decide) rfl (fun ls hl => ?_)
                                    refine lv_goto (tgt := 34) hx hb dX7_addsShaft_60 (by decide) ?_
                                    refine lv_iload_n hx hb dX7_addsShaft_34 rfl (lv_at hl 0 rfl) ?_
                                    refine lv_bipush (v := 14) hx hb dX7_addsShaft_35 (by decide) ?_
                                    refine lv_icmp_ge (tgt := 63) hx hb dX7_addsShaft_37 (by decide) (fun c_34 => ?_) (fun c_34 => ?_)
                                    · skip
                                      refine lv_aload_n hx hb dX7_addsShaft_63 rfl (lv_at hl 1 rfl) ?_
                                      refine wr_get hC hinRX7 hW (vM (by decide)) ce_m0 rfl 0 (by decide) hk0 rfl dX7_addsShaft_64 ?_
                                      refine lv_aload_n hx hb dX7_addsShaft_67 rfl (lv_at hl 1 rfl) ?_
                                      refine wr_get hC hinRX7 hW (vM (by decide)) ce_m0 rfl 0 (by decide) hk0 rfl dX7_addsShaft_68 ?_
                                      refine lv_bipush (v := 6) hx hb dX7_addsShaft_71 (by decide) ?_
                                      refine wr_ald (kA := 0) hC hW (vM (by decide)) ce_m1 rfl (vp_in_iff.mpr (by decide)) dX7_addsShaft_73 ?_
                                      refine lv_re (y := B 1 6) ((((((((((((((((congrArg ((bput (bput (bput (bput (bput (bput (bput (bput (bput (bput (bput (bput (bput (bput B 1 (7 + 14 * ((B 1 6).toNatClampNeg) + 0) 0) 1 (7 + 14 * ((B 1 6).toNatClampNeg) + 1) 0) 1 (7 + 14 * ((B 1 6).toNatClampNeg) + 2) 0) 1 (7 + 14 * ((B 1 6).toNatClampNeg) + 3) 0) 1 (7 + 14 * ((B 1 6).toNatClampNeg) + 4) 0) 1 (7 + 14 * ((B 1 6).toNatClampNeg) + 5) 0) 1 (7 + 14 * ((B 1 6).toNatClampNeg) + 6) 0) 1 (7 + 14 * ((B 1 6).toNatClampNeg) + 7) 0) 1 (7 + 14 * ((B 1 6).toNatClampNeg) + 8) 0) 1 (7 + 14 * ((B 1 6).toNatClampNeg) + 9) 0) 1 (7 + 14 * ((B 1 6).toNatClampNeg) + 10) 0) 1 (7 + 14 * ((B 1 6).toNatClampNeg) + 11) 0) 1 (7 + 14 * ((B 1 6).toNatClampNeg) + 12) 0) 1 (7 + 14 * ((B 1 6).toNatClampNeg) + 13) 0) 1) (show (6 : Int32).toNatClampNeg = 6 by decide))).trans (bput_q (by omega))).trans (bput_q (by omega))).trans (bput_q (by omega))).trans (bput_q (by omega))).trans (bput_q (by omega))).trans (bput_q (by omega))).trans (bput_q (by omega))).trans (bput_q (by omega))).trans (bput_q (by omega))).trans (bput_q (by omega))).trans (bput_q (by omega))).trans (bput_q (by omega))).trans (bput_q (by omega))).trans (bput_q (by omega))) ?_
                                      refine lv_re (nI_self hn9.1) ?_
                                      refine lv_iconst (v := 0) hx hb dX7_addsShaft_74 (by decide) ?_
                                      refine wc_s hC hml (kX7_at l G (wset Z 12 (bput (bput (bput (bput (bput (bput (bput (bput (bput (bput (bput (bput (bput (bput B 1 (7 + 14 * ((B 1 6).toNatClampNeg) + 0) 0) 1 (7 + 14 * ((B 1 6).toNatClampNeg) + 1) 0) 1 (7 + 14 * ((B 1 6).toNatClampNeg) + 2) 0) 1 (7 + 14 * ((B 1 6).toNatClampNeg) + 3) 0) 1 (7 + 14 * ((B 1 6).toNatClampNeg) + 4) 0) 1 (7 + 14 * ((B 1 6).toNatClampNeg) + 5) 0) 1 (7 + 14 * ((B 1 6).toNatClampNeg) + 6) 0) 1 (7 + 14 * ((B 1 6).toNatClampNeg) + 7) 0) 1 (7 + 14 * ((B 1 6).toNatClampNeg) + 8) 0) 1 (7 + 14 * ((B 1 6).toNatClampNeg) + 9) 0) 1 (7 + 14 * ((B 1 6).toNatClampNeg) + 10) 0) 1 (7 + 14 * ((B 1 6).toNatClampNeg) + 11) 0) 1 (7 + 14 * ((B 1 6).toNatClampNeg) + 12) 0) 1 (7 + 14 * ((B 1 6).toNatClampNeg) + 13) 0)) ((B 1 6).toNatClampNeg) 0) (cwS 2 hts gX7_addsShaft_X7_at rfl rfl rfl (by decide +kernel) ⟨Nat.le_of_ble_eq_true rfl, Nat.le_of_ble_eq_true rfl⟩) hW hS rfl rfl hl.1 (Nat.le_of_ble_eq_true rfl) dX7_addsShaft_75 (fun H locs hW hS => ?_)
                                      refine lv_re (y := nI (7 + 14 * ((B 1 6).toNatClampNeg) + 0)) rfl ?_
                                      refine lv_iload_n hx hb dX7_addsShaft_78 rfl (lv_at hl 2 rfl) ?_
                                      refine wr_ast (kA := 0) (Z' := wset Z 12 (bput (bput (bput (bput (bput (bput (bput (bput (bput (bput (bput (bput (bput (bput (bput B 1 (7 + 14 * ((B 1 6).toNatClampNeg) + 0) 0) 1 (7 + 14 * ((B 1 6).toNatClampNeg) + 1) 0) 1 (7 + 14 * ((B 1 6).toNatClampNeg) + 2) 0) 1 (7 + 14 * ((B 1 6).toNatClampNeg) + 3) 0) 1 (7 + 14 * ((B 1 6).toNatClampNeg) + 4) 0) 1 (7 + 14 * ((B 1 6).toNatClampNeg) + 5) 0) 1 (7 + 14 * ((B 1 6).toNatClampNeg) + 6) 0) 1 (7 + 14 * ((B 1 6).toNatClampNeg) + 7) 0) 1 (7 + 14 * ((B 1 6).toNatClampNeg) + 8) 0) 1 (7 + 14 * ((B 1 6).toNatClampNeg) + 9) 0) 1 (7 + 14 * ((B 1 6).toNatClampNeg) + 10) 0) 1 (7 + 14 * ((B 1 6).toNatClampNeg) + 11) 0) 1 (7 + 14 * ((B 1 6).toNatClampNeg) + 12) 0) 1 (7 + 14 * ((B 1 6).toNatClampNeg) + 13) 0) 1 (nI (7 + 14 * ((B 1 6).toNatClampNeg) + 0)).toNatClampNeg a1)) hC hW hS (vM (by decide)) ce_m1 rfl (vp_in_nI (show (7 + 14 * ((B 1 6).toNatClampNeg) + 0) < 100 by omega) (by decide)) wset_off pu_m1 dX7_addsShaft_79 (fun H locs hW hS => ?_)
                                      rw [nI_clamp (show (7 + 14 * ((B 1 6).toNatClampNeg) + 0) < 2 ^ 31 by omega)] at hW
                                      refine lv_aload_n hx hb dX7_addsShaft_80 rfl (lv_at hl 1 rfl) ?_
                                      refine wr_get hC hinRX7 hW (vM (by decide)) ce_m0 rfl 0 (by decide) hk0 rfl dX7_addsShaft_81 ?_
                                      refine lv_bipush (v := 6) hx hb dX7_addsShaft_84 (by decide) ?_
                                      refine lv_dup2_11 hx hb dX7_addsShaft_86 rfl rfl ?_
                                      refine wr_ald (kA := 0) hC hW (vM (by decide)) ce_m1 rfl (vp_in_iff.mpr (by decide)) dX7_addsShaft_87 ?_
                                      refine lv_re (y := B 1 6) (((((((((((((((((congrArg ((bput (bput (bput (bput (bput (bput (bput (bput (bput (bput (bput (bput (bput (bput (bput B 1 (7 + 14 * ((B 1 6).toNatClampNeg) + 0) 0) 1 (7 + 14 * ((B 1 6).toNatClampNeg) + 1) 0) 1 (7 + 14 * ((B 1 6).toNatClampNeg) + 2) 0) 1 (7 + 14 * ((B 1 6).toNatClampNeg) + 3) 0) 1 (7 + 14 * ((B 1 6).toNatClampNeg) + 4) 0) 1 (7 + 14 * ((B 1 6).toNatClampNeg) + 5) 0) 1 (7 + 14 * ((B 1 6).toNatClampNeg) + 6) 0) 1 (7 + 14 * ((B 1 6).toNatClampNeg) + 7) 0) 1 (7 + 14 * ((B 1 6).toNatClampNeg) + 8) 0) 1 (7 + 14 * ((B 1 6).toNatClampNeg) + 9) 0) 1 (7 + 14 * ((B 1 6).toNatClampNeg) + 10) 0) 1 (7 + 14 * ((B 1 6).toNatClampNeg) + 11) 0) 1 (7 + 14 * ((B 1 6).toNatClampNeg) + 12) 0) 1 (7 + 14 * ((B 1 6).toNatClampNeg) + 13) 0) 1 (7 + 14 * ((B 1 6).toNatClampNeg) + 0) a1) 1) (show (6 : Int32).toNatClampNeg = 6 by decide))).trans (bput_q (by omega))).trans (bput_q (by omega))).trans (bput_q (by omega))).trans (bput_q (by omega))).trans (bput_q (by omega))).trans (bput_q (by omega))).trans (bput_q (by omega))).trans (bput_q (by omega))).trans (bput_q (by omega))).trans (bput_q (by omega))).trans (bput_q (by omega))).trans (bput_q (by omega))).trans (bput_q (by omega))).trans (bput_q (by omega))).trans (bput_q (by omega))) ?_
                                      refine lv_iconst (v := 1) hx hb dX7_addsShaft_88 (by decide) ?_
                                      refine lv_iadd hx hb dX7_addsShaft_89 ?_
                                      refine wr_ast (kA := 0) (Z' := wset Z 12 (bput (bput (bput (bput (bput (bput (bput (bput (bput (bput (bput (bput (bput (bput (bput (bput B 1 (7 + 14 * ((B 1 6).toNatClampNeg) + 0) 0) 1 (7 + 14 * ((B 1 6).toNatClampNeg) + 1) 0) 1 (7 + 14 * ((B 1 6).toNatClampNeg) + 2) 0) 1 (7 + 14 * ((B 1 6).toNatClampNeg) + 3) 0) 1 (7 + 14 * ((B 1 6).toNatClampNeg) + 4) 0) 1 (7 + 14 * ((B 1 6).toNatClampNeg) + 5) 0) 1 (7 + 14 * ((B 1 6).toNatClampNeg) + 6) 0) 1 (7 + 14 * ((B 1 6).toNatClampNeg) + 7) 0) 1 (7 + 14 * ((B 1 6).toNatClampNeg) + 8) 0) 1 (7 + 14 * ((B 1 6).toNatClampNeg) + 9) 0) 1 (7 + 14 * ((B 1 6).toNatClampNeg) + 10) 0) 1 (7 + 14 * ((B 1 6).toNatClampNeg) + 11) 0) 1 (7 + 14 * ((B 1 6).toNatClampNeg) + 12) 0) 1 (7 + 14 * ((B 1 6).toNatClampNeg) + 13) 0) 1 (7 + 14 * ((B 1 6).toNatClampNeg) + 0) a1) 1 (6 : Int32).toNatClampNeg ((B 1 6) + 1))) hC hW hS (vM (by decide)) ce_m1 rfl (vp_in_iff.mpr (by decide)) wset_off pu_m1 dX7_addsShaft_90 (fun H locs hW hS => ?_)
                                      have hW : wW G (wset Z 12 (bput (bput (bput (bput (bput (bput (bput (bput (bput (bput (bput (bput (bput (bput (bput (bput B 1 (7 + 14 * ((B 1 6).toNatClampNeg) + 0) 0) 1 (7 + 14 * ((B 1 6).toNatClampNeg) + 1) 0) 1 (7 + 14 * ((B 1 6).toNatClampNeg) + 2) 0) 1 (7 + 14 * ((B 1 6).toNatClampNeg) + 3) 0) 1 (7 + 14 * ((B 1 6).toNatClampNeg) + 4) 0) 1 (7 + 14 * ((B 1 6).toNatClampNeg) + 5) 0) 1 (7 + 14 * ((B 1 6).toNatClampNeg) + 6) 0) 1 (7 + 14 * ((B 1 6).toNatClampNeg) + 7) 0) 1 (7 + 14 * ((B 1 6).toNatClampNeg) + 8) 0) 1 (7 + 14 * ((B 1 6).toNatClampNeg) + 9) 0) 1 (7 + 14 * ((B 1 6).toNatClampNeg) + 10) 0) 1 (7 + 14 * ((B 1 6).toNatClampNeg) + 11) 0) 1 (7 + 14 * ((B 1 6).toNatClampNeg) + 12) 0) 1 (7 + 14 * ((B 1 6).toNatClampNeg) + 13) 0) 1 (7 + 14 * ((B 1 6).toNatClampNeg) + 0) a1) 1 6 ((B 1 6) + 1))) H := hW
                                      refine lv_aload_n hx hb dX7_addsShaft_91 rfl (lv_at hl 1 rfl) ?_
                                      refine wr_get hC hinRX7 hW (vM (by decide)) ce_m0 rfl 0 (by decide) hk0 rfl dX7_addsShaft_92 ?_
                                      refine lv_bipush (v := 6) hx hb dX7_addsShaft_95 (by decide) ?_
                                      refine wr_ald (kA := 0) hC hW (vM (by decide)) ce_m1 rfl (vp_in_iff.mpr (by decide)) dX7_addsShaft_97 ?_
                                      refine lv_re (y := (B 1 6) + 1) (((congrArg ((bput (bput (bput (bput (bput (bput (bput (bput (bput (bput (bput (bput (bput (bput (bput (bput B 1 (7 + 14 * ((B 1 6).toNatClampNeg) + 0) 0) 1 (7 + 14 * ((B 1 6).toNatClampNeg) + 1) 0) 1 (7 + 14 * ((B 1 6).toNatClampNeg) + 2) 0) 1 (7 + 14 * ((B 1 6).toNatClampNeg) + 3) 0) 1 (7 + 14 * ((B 1 6).toNatClampNeg) + 4) 0) 1 (7 + 14 * ((B 1 6).toNatClampNeg) + 5) 0) 1 (7 + 14 * ((B 1 6).toNatClampNeg) + 6) 0) 1 (7 + 14 * ((B 1 6).toNatClampNeg) + 7) 0) 1 (7 + 14 * ((B 1 6).toNatClampNeg) + 8) 0) 1 (7 + 14 * ((B 1 6).toNatClampNeg) + 9) 0) 1 (7 + 14 * ((B 1 6).toNatClampNeg) + 10) 0) 1 (7 + 14 * ((B 1 6).toNatClampNeg) + 11) 0) 1 (7 + 14 * ((B 1 6).toNatClampNeg) + 12) 0) 1 (7 + 14 * ((B 1 6).toNatClampNeg) + 13) 0) 1 (7 + 14 * ((B 1 6).toNatClampNeg) + 0) a1) 1 6 ((B 1 6) + 1)) 1) (show (6 : Int32).toNatClampNeg = 6 by decide))).trans (bput_h)) ?_
                                      refine lv_iconst (v := 1) hx hb dX7_addsShaft_98 (by decide) ?_
                                      refine lv_isub hx hb dX7_addsShaft_99 ?_
                                      have hf : fX7_addsShaft B a1 = ((bput (bput (bput (bput (bput (bput (bput (bput (bput (bput (bput (bput (bput (bput (bput (bput B 1 (7 + 14 * ((B 1 6).toNatClampNeg) + 0) 0) 1 (7 + 14 * ((B 1 6).toNatClampNeg) + 1) 0) 1 (7 + 14 * ((B 1 6).toNatClampNeg) + 2) 0) 1 (7 + 14 * ((B 1 6).toNatClampNeg) + 3) 0) 1 (7 + 14 * ((B 1 6).toNatClampNeg) + 4) 0) 1 (7 + 14 * ((B 1 6).toNatClampNeg) + 5) 0) 1 (7 + 14 * ((B 1 6).toNatClampNeg) + 6) 0) 1 (7 + 14 * ((B 1 6).toNatClampNeg) + 7) 0) 1 (7 + 14 * ((B 1 6).toNatClampNeg) + 8) 0) 1 (7 + 14 * ((B 1 6).toNatClampNeg) + 9) 0) 1 (7 + 14 * ((B 1 6).toNatClampNeg) + 10) 0) 1 (7 + 14 * ((B 1 6).toNatClampNeg) + 11) 0) 1 (7 + 14 * ((B 1 6).toNatClampNeg) + 12) 0) 1 (7 + 14 * ((B 1 6).toNatClampNeg) + 13) 0) 1 (7 + 14 * ((B 1 6).toNatClampNeg) + 0) a1) 1 6 ((B 1 6) + 1)), ((B 1 6) + 1) - 1) := (if_neg c_1).trans ((if_pos c_18).trans ((if_neg c_19).trans rfl))
                                      exact we_i hC hr hlocks (congrArg Prod.snd hf).symm (congrArg (fun u => wset Z 12 u.1) hf).symm hW hS dX7_addsShaft_100
                                    · exact absurd c_34 (by decide)
      · skip
        refine lv_bipush (v := (-4)) hx hb dX7_addsShaft_29 (by decide) ?_
        have hf : fX7_addsShaft B a1 = (B, (-4)) := (if_neg c_1).trans ((if_pos c_18).trans ((if_pos c_19).trans rfl))
        exact we_i hC hr hlocks (congrArg Prod.snd hf).symm (congrArg (fun u => wset Z 12 u.1) hf).symm hW hS dX7_addsShaft_31
    · skip
      refine lv_iload_n hx hb dX7_addsShaft_10 rfl (lv_at hl 1 rfl) ?_
      refine lv_iconst (v := 4) hx hb dX7_addsShaft_11 (by decide) ?_
      refine lv_icmp_eq (tgt := 18) hx hb dX7_addsShaft_12 (by decide) (fun c_35 => ?_) (fun c_35 => ?_)
      · skip
        refine lv_aload_n hx hb dX7_addsShaft_18 rfl (lv_at hl 0 rfl) ?_
        refine wr_get hC hinRX7 hW (vM (by decide)) ce_m0 rfl 0 (by decide) hk0 rfl dX7_addsShaft_19 ?_
        refine lv_bipush (v := 6) hx hb dX7_addsShaft_22 (by decide) ?_
        refine wr_ald (kA := 0) hC hW (vM (by decide)) ce_m1 rfl (vp_in_iff.mpr (by decide)) dX7_addsShaft_24 ?_
        refine lv_re (y := B 1 6) ((congrArg (B 1) (show (6 : Int32).toNatClampNeg = 6 by decide))) ?_
        refine lv_iconst (v := 4) hx hb dX7_addsShaft_25 (by decide) ?_
        refine lv_icmp_ne (tgt := 32) hx hb dX7_addsShaft_26 (by decide) (fun c_36 => ?_) (fun c_36 => ?_)
        · skip
          refine lv_iconst (v := 0) hx hb dX7_addsShaft_32 (by decide) ?_
          refine lv_istore_n (lv' := [(2, .int 0), (0, .ref (G.2.2.1 12 0)), (1, .int a1)]) hx hb dX7_addsShaft_33 rfl hl (by decide) rfl (fun ls hl => ?_)
          refine lv_iload_n hx hb dX7_addsShaft_34 rfl (lv_at hl 0 rfl) ?_
          refine lv_bipush (v := 14) hx hb dX7_addsShaft_35 (by decide) ?_
          refine lv_icmp_ge (tgt := 63) hx hb dX7_addsShaft_37 (by decide) (fun c_37 => ?_) (fun c_37 => ?_)
          · exact absurd c_37 (by decide)
          · skip
            refine lv_aload_n hx hb dX7_addsShaft_40 rfl (lv_at hl 1 rfl) ?_
            refine wr_get hC hinRX7 hW (vM (by decide)) ce_m0 rfl 0 (by decide) hk0 rfl dX7_addsShaft_41 ?_
            refine lv_aload_n hx hb dX7_addsShaft_44 rfl (lv_at hl 1 rfl) ?_
            refine wr_get hC hinRX7 hW (vM (by decide)) ce_m0 rfl 0 (by decide) hk0 rfl dX7_addsShaft_45 ?_
            refine lv_bipush (v := 6) hx hb dX7_addsShaft_48 (by decide) ?_
            refine wr_ald (kA := 0) hC hW (vM (by decide)) ce_m1 rfl (vp_in_iff.mpr (by decide)) dX7_addsShaft_50 ?_
            refine lv_re (y := B 1 6) ((congrArg (B 1) (show (6 : Int32).toNatClampNeg = 6 by decide))) ?_
            have hn9 := many_lt hm c_36
            have hn8 := hn9.2
            refine lv_re (nI_self hn9.1) ?_
            refine lv_iload_n hx hb dX7_addsShaft_51 rfl (lv_at hl 0 rfl) ?_
            refine wc_s hC hml (kX7_at l G (wset Z 12 B) ((B 1 6).toNatClampNeg) 0) (cwS 2 hts gX7_addsShaft_X7_at rfl rfl rfl (by decide +kernel) ⟨Nat.le_of_ble_eq_true rfl, Nat.le_of_ble_eq_true rfl⟩) hW hS rfl rfl hl.1 (Nat.le_of_ble_eq_true rfl) dX7_addsShaft_52 (fun H locs hW hS => ?_)
            refine lv_re (y := nI (7 + 14 * ((B 1 6).toNatClampNeg) + 0)) rfl ?_
            refine lv_iconst (v := 0) hx hb dX7_addsShaft_55 (by decide) ?_
            refine wr_ast (kA := 0) (Z' := wset Z 12 (bput B 1 (nI (7 + 14 * ((B 1 6).toNatClampNeg) + 0)).toNatClampNeg 0)) hC hW hS (vM (by decide)) ce_m1 rfl (vp_in_nI (show (7 + 14 * ((B 1 6).toNatClampNeg) + 0) < 100 by omega) (by decide)) wset_off pu_m1 dX7_addsShaft_56 (fun H locs hW hS => ?_)
            rw [nI_clamp (show (7 + 14 * ((B 1 6).toNatClampNeg) + 0) < 2 ^ 31 by omega)] at hW
            refine lv_iinc (v := 1) (lv' := [(2, .int 1), (0, .ref (G.2.2.1 12 0)), (1, .int a1)]) hx hb dX7_addsShaft_57 hl (k := 0) rfl (by decide) (by decide) rfl (fun ls hl => ?_)
            refine lv_goto (tgt := 34) hx hb dX7_addsShaft_60 (by decide) ?_
            refine lv_iload_n hx hb dX7_addsShaft_34 rfl (lv_at hl 0 rfl) ?_
            refine lv_bipush (v := 14) hx hb dX7_addsShaft_35 (by decide) ?_
            refine lv_icmp_ge (tgt := 63) hx hb dX7_addsShaft_37 (by decide) (fun c_38 => ?_) (fun c_38 => ?_)
            · exact absurd c_38 (by decide)
            · skip
              refine lv_aload_n hx hb dX7_addsShaft_40 rfl (lv_at hl 1 rfl) ?_
              refine wr_get hC hinRX7 hW (vM (by decide)) ce_m0 rfl 0 (by decide) hk0 rfl dX7_addsShaft_41 ?_
              refine lv_aload_n hx hb dX7_addsShaft_44 rfl (lv_at hl 1 rfl) ?_
              refine wr_get hC hinRX7 hW (vM (by decide)) ce_m0 rfl 0 (by decide) hk0 rfl dX7_addsShaft_45 ?_
              refine lv_bipush (v := 6) hx hb dX7_addsShaft_48 (by decide) ?_
              refine wr_ald (kA := 0) hC hW (vM (by decide)) ce_m1 rfl (vp_in_iff.mpr (by decide)) dX7_addsShaft_50 ?_
              refine lv_re (y := B 1 6) (((congrArg ((bput B 1 (7 + 14 * ((B 1 6).toNatClampNeg) + 0) 0) 1) (show (6 : Int32).toNatClampNeg = 6 by decide))).trans (bput_q (by omega))) ?_
              refine lv_re (nI_self hn9.1) ?_
              refine lv_iload_n hx hb dX7_addsShaft_51 rfl (lv_at hl 0 rfl) ?_
              refine wc_s hC hml (kX7_at l G (wset Z 12 (bput B 1 (7 + 14 * ((B 1 6).toNatClampNeg) + 0) 0)) ((B 1 6).toNatClampNeg) 1) (cwS 2 hts gX7_addsShaft_X7_at rfl rfl rfl (by decide +kernel) ⟨Nat.le_of_ble_eq_true rfl, Nat.le_of_ble_eq_true rfl⟩) hW hS rfl rfl hl.1 (Nat.le_of_ble_eq_true rfl) dX7_addsShaft_52 (fun H locs hW hS => ?_)
              refine lv_re (y := nI (7 + 14 * ((B 1 6).toNatClampNeg) + 1)) rfl ?_
              refine lv_iconst (v := 0) hx hb dX7_addsShaft_55 (by decide) ?_
              refine wr_ast (kA := 0) (Z' := wset Z 12 (bput (bput B 1 (7 + 14 * ((B 1 6).toNatClampNeg) + 0) 0) 1 (nI (7 + 14 * ((B 1 6).toNatClampNeg) + 1)).toNatClampNeg 0)) hC hW hS (vM (by decide)) ce_m1 rfl (vp_in_nI (show (7 + 14 * ((B 1 6).toNatClampNeg) + 1) < 100 by omega) (by decide)) wset_off pu_m1 dX7_addsShaft_56 (fun H locs hW hS => ?_)
              rw [nI_clamp (show (7 + 14 * ((B 1 6).toNatClampNeg) + 1) < 2 ^ 31 by omega)] at hW
              refine lv_iinc (v := 2) (lv' := [(2, .int 2), (0, .ref (G.2.2.1 12 0)), (1, .int a1)]) hx hb dX7_addsShaft_57 hl (k := 0) rfl (by decide) (by decide) rfl (fun ls hl => ?_)
              refine lv_goto (tgt := 34) hx hb dX7_addsShaft_60 (by decide) ?_
              refine lv_iload_n hx hb dX7_addsShaft_34 rfl (lv_at hl 0 rfl) ?_
              refine lv_bipush (v := 14) hx hb dX7_addsShaft_35 (by decide) ?_
              refine lv_icmp_ge (tgt := 63) hx hb dX7_addsShaft_37 (by decide) (fun c_39 => ?_) (fun c_39 => ?_)
              · exact absurd c_39 (by decide)
              · skip
                refine lv_aload_n hx hb dX7_addsShaft_40 rfl (lv_at hl 1 rfl) ?_
                refine wr_get hC hinRX7 hW (vM (by decide)) ce_m0 rfl 0 (by decide) hk0 rfl dX7_addsShaft_41 ?_
                refine lv_aload_n hx hb dX7_addsShaft_44 rfl (lv_at hl 1 rfl) ?_
                refine wr_get hC hinRX7 hW (vM (by decide)) ce_m0 rfl 0 (by decide) hk0 rfl dX7_addsShaft_45 ?_
                refine lv_bipush (v := 6) hx hb dX7_addsShaft_48 (by decide) ?_
                refine wr_ald (kA := 0) hC hW (vM (by decide)) ce_m1 rfl (vp_in_iff.mpr (by decide)) dX7_addsShaft_50 ?_
                refine lv_re (y := B 1 6) ((((congrArg ((bput (bput B 1 (7 + 14 * ((B 1 6).toNatClampNeg) + 0) 0) 1 (7 + 14 * ((B 1 6).toNatClampNeg) + 1) 0) 1) (show (6 : Int32).toNatClampNeg = 6 by decide))).trans (bput_q (by omega))).trans (bput_q (by omega))) ?_
                refine lv_re (nI_self hn9.1) ?_
                refine lv_iload_n hx hb dX7_addsShaft_51 rfl (lv_at hl 0 rfl) ?_
                refine wc_s hC hml (kX7_at l G (wset Z 12 (bput (bput B 1 (7 + 14 * ((B 1 6).toNatClampNeg) + 0) 0) 1 (7 + 14 * ((B 1 6).toNatClampNeg) + 1) 0)) ((B 1 6).toNatClampNeg) 2) (cwS 2 hts gX7_addsShaft_X7_at rfl rfl rfl (by decide +kernel) ⟨Nat.le_of_ble_eq_true rfl, Nat.le_of_ble_eq_true rfl⟩) hW hS rfl rfl hl.1 (Nat.le_of_ble_eq_true rfl) dX7_addsShaft_52 (fun H locs hW hS => ?_)
                refine lv_re (y := nI (7 + 14 * ((B 1 6).toNatClampNeg) + 2)) rfl ?_
                refine lv_iconst (v := 0) hx hb dX7_addsShaft_55 (by decide) ?_
                refine wr_ast (kA := 0) (Z' := wset Z 12 (bput (bput (bput B 1 (7 + 14 * ((B 1 6).toNatClampNeg) + 0) 0) 1 (7 + 14 * ((B 1 6).toNatClampNeg) + 1) 0) 1 (nI (7 + 14 * ((B 1 6).toNatClampNeg) + 2)).toNatClampNeg 0)) hC hW hS (vM (by decide)) ce_m1 rfl (vp_in_nI (show (7 + 14 * ((B 1 6).toNatClampNeg) + 2) < 100 by omega) (by decide)) wset_off pu_m1 dX7_addsShaft_56 (fun H locs hW hS => ?_)
                rw [nI_clamp (show (7 + 14 * ((B 1 6).toNatClampNeg) + 2) < 2 ^ 31 by omega)] at hW
                refine lv_iinc (v := 3) (lv' := [(2, .int 3), (0, .ref (G.2.2.1 12 0)), (1, .int a1)]) hx hb dX7_addsShaft_57 hl (k := 0) rfl (by decide) (by decide) rfl (fun ls hl => ?_)
                refine lv_goto (tgt := 34) hx hb dX7_addsShaft_60 (by decide) ?_
                refine lv_iload_n hx hb dX7_addsShaft_34 rfl (lv_at hl 0 rfl) ?_
                refine lv_bipush (v := 14) hx hb dX7_addsShaft_35 (by decide) ?_
                refine lv_icmp_ge (tgt := 63) hx hb dX7_addsShaft_37 (by decide) (fun c_40 => ?_) (fun c_40 => ?_)
                · exact absurd c_40 (by decide)
                · skip
                  refine lv_aload_n hx hb dX7_addsShaft_40 rfl (lv_at hl 1 rfl) ?_
                  refine wr_get hC hinRX7 hW (vM (by decide)) ce_m0 rfl 0 (by decide) hk0 rfl dX7_addsShaft_41 ?_
                  refine lv_aload_n hx hb dX7_addsShaft_44 rfl (lv_at hl 1 rfl) ?_
                  refine wr_get hC hinRX7 hW (vM (by decide)) ce_m0 rfl 0 (by decide) hk0 rfl dX7_addsShaft_45 ?_
                  refine lv_bipush (v := 6) hx hb dX7_addsShaft_48 (by decide) ?_
                  refine wr_ald (kA := 0) hC hW (vM (by decide)) ce_m1 rfl (vp_in_iff.mpr (by decide)) dX7_addsShaft_50 ?_
                  refine lv_re (y := B 1 6) (((((congrArg ((bput (bput (bput B 1 (7 + 14 * ((B 1 6).toNatClampNeg) + 0) 0) 1 (7 + 14 * ((B 1 6).toNatClampNeg) + 1) 0) 1 (7 + 14 * ((B 1 6).toNatClampNeg) + 2) 0) 1) (show (6 : Int32).toNatClampNeg = 6 by decide))).trans (bput_q (by omega))).trans (bput_q (by omega))).trans (bput_q (by omega))) ?_
                  refine lv_re (nI_self hn9.1) ?_
                  refine lv_iload_n hx hb dX7_addsShaft_51 rfl (lv_at hl 0 rfl) ?_
                  refine wc_s hC hml (kX7_at l G (wset Z 12 (bput (bput (bput B 1 (7 + 14 * ((B 1 6).toNatClampNeg) + 0) 0) 1 (7 + 14 * ((B 1 6).toNatClampNeg) + 1) 0) 1 (7 + 14 * ((B 1 6).toNatClampNeg) + 2) 0)) ((B 1 6).toNatClampNeg) 3) (cwS 2 hts gX7_addsShaft_X7_at rfl rfl rfl (by decide +kernel) ⟨Nat.le_of_ble_eq_true rfl, Nat.le_of_ble_eq_true rfl⟩) hW hS rfl rfl hl.1 (Nat.le_of_ble_eq_true rfl) dX7_addsShaft_52 (fun H locs hW hS => ?_)
                  refine lv_re (y := nI (7 + 14 * ((B 1 6).toNatClampNeg) + 3)) rfl ?_
                  refine lv_iconst (v := 0) hx hb dX7_addsShaft_55 (by decide) ?_
                  refine wr_ast (kA := 0) (Z' := wset Z 12 (bput (bput (bput (bput B 1 (7 + 14 * ((B 1 6).toNatClampNeg) + 0) 0) 1 (7 + 14 * ((B 1 6).toNatClampNeg) + 1) 0) 1 (7 + 14 * ((B 1 6).toNatClampNeg) + 2) 0) 1 (nI (7 + 14 * ((B 1 6).toNatClampNeg) + 3)).toNatClampNeg 0)) hC hW hS (vM (by decide)) ce_m1 rfl (vp_in_nI (show (7 + 14 * ((B 1 6).toNatClampNeg) + 3) < 100 by omega) (by decide)) wset_off pu_m1 dX7_addsShaft_56 (fun H locs hW hS => ?_)
                  rw [nI_clamp (show (7 + 14 * ((B 1 6).toNatClampNeg) + 3) < 2 ^ 31 by omega)] at hW
                  refine lv_iinc (v := 4) (lv' := [(2, .int 4), (0, .ref (G.2.2.1 12 0)), (1, .int a1)]) hx hb dX7_addsShaft_57 hl (k := 0) rfl (by decide) (by decide) rfl (fun ls hl => ?_)
                  refine lv_goto (tgt := 34) hx hb dX7_addsShaft_60 (by decide) ?_
                  refine lv_iload_n hx hb dX7_addsShaft_34 rfl (lv_at hl 0 rfl) ?_
                  refine lv_bipush (v := 14) hx hb dX7_addsShaft_35 (by decide) ?_
                  refine lv_icmp_ge (tgt := 63) hx hb dX7_addsShaft_37 (by decide) (fun c_41 => ?_) (fun c_41 => ?_)
                  · exact absurd c_41 (by decide)
                  · skip
                    refine lv_aload_n hx hb dX7_addsShaft_40 rfl (lv_at hl 1 rfl) ?_
                    refine wr_get hC hinRX7 hW (vM (by decide)) ce_m0 rfl 0 (by decide) hk0 rfl dX7_addsShaft_41 ?_
                    refine lv_aload_n hx hb dX7_addsShaft_44 rfl (lv_at hl 1 rfl) ?_
                    refine wr_get hC hinRX7 hW (vM (by decide)) ce_m0 rfl 0 (by decide) hk0 rfl dX7_addsShaft_45 ?_
                    refine lv_bipush (v := 6) hx hb dX7_addsShaft_48 (by decide) ?_
                    refine wr_ald (kA := 0) hC hW (vM (by decide)) ce_m1 rfl (vp_in_iff.mpr (by decide)) dX7_addsShaft_50 ?_
                    refine lv_re (y := B 1 6) ((((((congrArg ((bput (bput (bput (bput B 1 (7 + 14 * ((B 1 6).toNatClampNeg) + 0) 0) 1 (7 + 14 * ((B 1 6).toNatClampNeg) + 1) 0) 1 (7 + 14 * ((B 1 6).toNatClampNeg) + 2) 0) 1 (7 + 14 * ((B 1 6).toNatClampNeg) + 3) 0) 1) (show (6 : Int32).toNatClampNeg = 6 by decide))).trans (bput_q (by omega))).trans (bput_q (by omega))).trans (bput_q (by omega))).trans (bput_q (by omega))) ?_
                    refine lv_re (nI_self hn9.1) ?_
                    refine lv_iload_n hx hb dX7_addsShaft_51 rfl (lv_at hl 0 rfl) ?_
                    refine wc_s hC hml (kX7_at l G (wset Z 12 (bput (bput (bput (bput B 1 (7 + 14 * ((B 1 6).toNatClampNeg) + 0) 0) 1 (7 + 14 * ((B 1 6).toNatClampNeg) + 1) 0) 1 (7 + 14 * ((B 1 6).toNatClampNeg) + 2) 0) 1 (7 + 14 * ((B 1 6).toNatClampNeg) + 3) 0)) ((B 1 6).toNatClampNeg) 4) (cwS 2 hts gX7_addsShaft_X7_at rfl rfl rfl (by decide +kernel) ⟨Nat.le_of_ble_eq_true rfl, Nat.le_of_ble_eq_true rfl⟩) hW hS rfl rfl hl.1 (Nat.le_of_ble_eq_true rfl) dX7_addsShaft_52 (fun H locs hW hS => ?_)
                    refine lv_re (y := nI (7 + 14 * ((B 1 6).toNatClampNeg) + 4)) rfl ?_
                    refine lv_iconst (v := 0) hx hb dX7_addsShaft_55 (by decide) ?_
                    refine wr_ast (kA := 0) (Z' := wset Z 12 (bput (bput (bput (bput (bput B 1 (7 + 14 * ((B 1 6).toNatClampNeg) + 0) 0) 1 (7 + 14 * ((B 1 6).toNatClampNeg) + 1) 0) 1 (7 + 14 * ((B 1 6).toNatClampNeg) + 2) 0) 1 (7 + 14 * ((B 1 6).toNatClampNeg) + 3) 0) 1 (nI (7 + 14 * ((B 1 6).toNatClampNeg) + 4)).toNatClampNeg 0)) hC hW hS (vM (by decide)) ce_m1 rfl (vp_in_nI (show (7 + 14 * ((B 1 6).toNatClampNeg) + 4) < 100 by omega) (by decide)) wset_off pu_m1 dX7_addsShaft_56 (fun H locs hW hS => ?_)
                    rw [nI_clamp (show (7 + 14 * ((B 1 6).toNatClampNeg) + 4) < 2 ^ 31 by omega)] at hW
                    refine lv_iinc (v := 5) (lv' := [(2, .int 5), (0, .ref (G.2.2.1 12 0)), (1, .int a1)]) hx hb dX7_addsShaft_57 hl (k := 0) rfl (by decide) (by decide) rfl (fun ls hl => ?_)
                    refine lv_goto (tgt := 34) hx hb dX7_addsShaft_60 (by decide) ?_
                    refine lv_iload_n hx hb dX7_addsShaft_34 rfl (lv_at hl 0 rfl) ?_
                    refine lv_bipush (v := 14) hx hb dX7_addsShaft_35 (by decide) ?_
                    refine lv_icmp_ge (tgt := 63) hx hb dX7_addsShaft_37 (by decide) (fun c_42 => ?_) (fun c_42 => ?_)
                    · exact absurd c_42 (by decide)
                    · skip
                      refine lv_aload_n hx hb dX7_addsShaft_40 rfl (lv_at hl 1 rfl) ?_
                      refine wr_get hC hinRX7 hW (vM (by decide)) ce_m0 rfl 0 (by decide) hk0 rfl dX7_addsShaft_41 ?_
                      refine lv_aload_n hx hb dX7_addsShaft_44 rfl (lv_at hl 1 rfl) ?_
                      refine wr_get hC hinRX7 hW (vM (by decide)) ce_m0 rfl 0 (by decide) hk0 rfl dX7_addsShaft_45 ?_
                      refine lv_bipush (v := 6) hx hb dX7_addsShaft_48 (by decide) ?_
                      refine wr_ald (kA := 0) hC hW (vM (by decide)) ce_m1 rfl (vp_in_iff.mpr (by decide)) dX7_addsShaft_50 ?_
                      refine lv_re (y := B 1 6) (((((((congrArg ((bput (bput (bput (bput (bput B 1 (7 + 14 * ((B 1 6).toNatClampNeg) + 0) 0) 1 (7 + 14 * ((B 1 6).toNatClampNeg) + 1) 0) 1 (7 + 14 * ((B 1 6).toNatClampNeg) + 2) 0) 1 (7 + 14 * ((B 1 6).toNatClampNeg) + 3) 0) 1 (7 + 14 * ((B 1 6).toNatClampNeg) + 4) 0) 1) (show (6 : Int32).toNatClampNeg = 6 by decide))).trans (bput_q (by omega))).trans (bput_q (by omega))).trans (bput_q (by omega))).trans (bput_q (by omega))).trans (bput_q (by omega))) ?_
                      refine lv_re (nI_self hn9.1) ?_
                      refine lv_iload_n hx hb dX7_addsShaft_51 rfl (lv_at hl 0 rfl) ?_
                      refine wc_s hC hml (kX7_at l G (wset Z 12 (bput (bput (bput (bput (bput B 1 (7 + 14 * ((B 1 6).toNatClampNeg) + 0) 0) 1 (7 + 14 * ((B 1 6).toNatClampNeg) + 1) 0) 1 (7 + 14 * ((B 1 6).toNatClampNeg) + 2) 0) 1 (7 + 14 * ((B 1 6).toNatClampNeg) + 3) 0) 1 (7 + 14 * ((B 1 6).toNatClampNeg) + 4) 0)) ((B 1 6).toNatClampNeg) 5) (cwS 2 hts gX7_addsShaft_X7_at rfl rfl rfl (by decide +kernel) ⟨Nat.le_of_ble_eq_true rfl, Nat.le_of_ble_eq_true rfl⟩) hW hS rfl rfl hl.1 (Nat.le_of_ble_eq_true rfl) dX7_addsShaft_52 (fun H locs hW hS => ?_)
                      refine lv_re (y := nI (7 + 14 * ((B 1 6).toNatClampNeg) + 5)) rfl ?_
                      refine lv_iconst (v := 0) hx hb dX7_addsShaft_55 (by decide) ?_
                      refine wr_ast (kA := 0) (Z' := wset Z 12 (bput (bput (bput (bput (bput (bput B 1 (7 + 14 * ((B 1 6).toNatClampNeg) + 0) 0) 1 (7 + 14 * ((B 1 6).toNatClampNeg) + 1) 0) 1 (7 + 14 * ((B 1 6).toNatClampNeg) + 2) 0) 1 (7 + 14 * ((B 1 6).toNatClampNeg) + 3) 0) 1 (7 + 14 * ((B 1 6).toNatClampNeg) + 4) 0) 1 (nI (7 + 14 * ((B 1 6).toNatClampNeg) + 5)).toNatClampNeg 0)) hC hW hS (vM (by decide)) ce_m1 rfl (vp_in_nI (show (7 + 14 * ((B 1 6).toNatClampNeg) + 5) < 100 by omega) (by decide)) wset_off pu_m1 dX7_addsShaft_56 (fun H locs hW hS => ?_)
                      rw [nI_clamp (show (7 + 14 * ((B 1 6).toNatClampNeg) + 5) < 2 ^ 31 by omega)] at hW
                      refine lv_iinc (v := 6) (lv' := [(2, .int 6), (0, .ref (G.2.2.1 12 0)), (1, .int a1)]) hx hb dX7_addsShaft_57 hl (k := 0) rfl (by decide) (by decide) rfl (fun ls hl => ?_)
                      refine lv_goto (tgt := 34) hx hb dX7_addsShaft_60 (by decide) ?_
                      refine lv_iload_n hx hb dX7_addsShaft_34 rfl (lv_at hl 0 rfl) ?_
                      refine lv_bipush (v := 14) hx hb dX7_addsShaft_35 (by decide) ?_
                      refine lv_icmp_ge (tgt := 63) hx hb dX7_addsShaft_37 (by decide) (fun c_43 => ?_) (fun c_43 => ?_)
                      · exact absurd c_43 (by decide)
                      · skip
                        refine lv_aload_n hx hb dX7_addsShaft_40 rfl (lv_at hl 1 rfl) ?_
                        refine wr_get hC hinRX7 hW (vM (by decide)) ce_m0 rfl 0 (by decide) hk0 rfl dX7_addsShaft_41 ?_
                        refine lv_aload_n hx hb dX7_addsShaft_44 rfl (lv_at hl 1 rfl) ?_
                        refine wr_get hC hinRX7 hW (vM (by decide)) ce_m0 rfl 0 (by decide) hk0 rfl dX7_addsShaft_45 ?_
                        refine lv_bipush (v := 6) hx hb dX7_addsShaft_48 (by decide) ?_
                        refine wr_ald (kA := 0) hC hW (vM (by decide)) ce_m1 rfl (vp_in_iff.mpr (by decide)) dX7_addsShaft_50 ?_
                        refine lv_re (y := B 1 6) ((((((((congrArg ((bput (bput (bput (bput (bput (bput B 1 (7 + 14 * ((B 1 6).toNatClampNeg) + 0) 0) 1 (7 + 14 * ((B 1 6).toNatClampNeg) + 1) 0) 1 (7 + 14 * ((B 1 6).toNatClampNeg) + 2) 0) 1 (7 + 14 * ((B 1 6).toNatClampNeg) + 3) 0) 1 (7 + 14 * ((B 1 6).toNatClampNeg) + 4) 0) 1 (7 + 14 * ((B 1 6).toNatClampNeg) + 5) 0) 1) (show (6 : Int32).toNatClampNeg = 6 by decide))).trans (bput_q (by omega))).trans (bput_q (by omega))).trans (bput_q (by omega))).trans (bput_q (by omega))).trans (bput_q (by omega))).trans (bput_q (by omega))) ?_
                        refine lv_re (nI_self hn9.1) ?_
                        refine lv_iload_n hx hb dX7_addsShaft_51 rfl (lv_at hl 0 rfl) ?_
                        refine wc_s hC hml (kX7_at l G (wset Z 12 (bput (bput (bput (bput (bput (bput B 1 (7 + 14 * ((B 1 6).toNatClampNeg) + 0) 0) 1 (7 + 14 * ((B 1 6).toNatClampNeg) + 1) 0) 1 (7 + 14 * ((B 1 6).toNatClampNeg) + 2) 0) 1 (7 + 14 * ((B 1 6).toNatClampNeg) + 3) 0) 1 (7 + 14 * ((B 1 6).toNatClampNeg) + 4) 0) 1 (7 + 14 * ((B 1 6).toNatClampNeg) + 5) 0)) ((B 1 6).toNatClampNeg) 6) (cwS 2 hts gX7_addsShaft_X7_at rfl rfl rfl (by decide +kernel) ⟨Nat.le_of_ble_eq_true rfl, Nat.le_of_ble_eq_true rfl⟩) hW hS rfl rfl hl.1 (Nat.le_of_ble_eq_true rfl) dX7_addsShaft_52 (fun H locs hW hS => ?_)
                        refine lv_re (y := nI (7 + 14 * ((B 1 6).toNatClampNeg) + 6)) rfl ?_
                        refine lv_iconst (v := 0) hx hb dX7_addsShaft_55 (by decide) ?_
                        refine wr_ast (kA := 0) (Z' := wset Z 12 (bput (bput (bput (bput (bput (bput (bput B 1 (7 + 14 * ((B 1 6).toNatClampNeg) + 0) 0) 1 (7 + 14 * ((B 1 6).toNatClampNeg) + 1) 0) 1 (7 + 14 * ((B 1 6).toNatClampNeg) + 2) 0) 1 (7 + 14 * ((B 1 6).toNatClampNeg) + 3) 0) 1 (7 + 14 * ((B 1 6).toNatClampNeg) + 4) 0) 1 (7 + 14 * ((B 1 6).toNatClampNeg) + 5) 0) 1 (nI (7 + 14 * ((B 1 6).toNatClampNeg) + 6)).toNatClampNeg 0)) hC hW hS (vM (by decide)) ce_m1 rfl (vp_in_nI (show (7 + 14 * ((B 1 6).toNatClampNeg) + 6) < 100 by omega) (by decide)) wset_off pu_m1 dX7_addsShaft_56 (fun H locs hW hS => ?_)
                        rw [nI_clamp (show (7 + 14 * ((B 1 6).toNatClampNeg) + 6) < 2 ^ 31 by omega)] at hW
                        refine lv_iinc (v := 7) (lv' := [(2, .int 7), (0, .ref (G.2.2.1 12 0)), (1, .int a1)]) hx hb dX7_addsShaft_57 hl (k := 0) rfl (by decide) (by decide) rfl (fun ls hl => ?_)
                        refine lv_goto (tgt := 34) hx hb dX7_addsShaft_60 (by decide) ?_
                        refine lv_iload_n hx hb dX7_addsShaft_34 rfl (lv_at hl 0 rfl) ?_
                        refine lv_bipush (v := 14) hx hb dX7_addsShaft_35 (by decide) ?_
                        refine lv_icmp_ge (tgt := 63) hx hb dX7_addsShaft_37 (by decide) (fun c_44 => ?_) (fun c_44 => ?_)
                        · exact absurd c_44 (by decide)
                        · skip
                          refine lv_aload_n hx hb dX7_addsShaft_40 rfl (lv_at hl 1 rfl) ?_
                          refine wr_get hC hinRX7 hW (vM (by decide)) ce_m0 rfl 0 (by decide) hk0 rfl dX7_addsShaft_41 ?_
                          refine lv_aload_n hx hb dX7_addsShaft_44 rfl (lv_at hl 1 rfl) ?_
                          refine wr_get hC hinRX7 hW (vM (by decide)) ce_m0 rfl 0 (by decide) hk0 rfl dX7_addsShaft_45 ?_
                          refine lv_bipush (v := 6) hx hb dX7_addsShaft_48 (by decide) ?_
                          refine wr_ald (kA := 0) hC hW (vM (by decide)) ce_m1 rfl (vp_in_iff.mpr (by decide)) dX7_addsShaft_50 ?_
                          refine lv_re (y := B 1 6) (((((((((congrArg ((bput (bput (bput (bput (bput (bput (bput B 1 (7 + 14 * ((B 1 6).toNatClampNeg) + 0) 0) 1 (7 + 14 * ((B 1 6).toNatClampNeg) + 1) 0) 1 (7 + 14 * ((B 1 6).toNatClampNeg) + 2) 0) 1 (7 + 14 * ((B 1 6).toNatClampNeg) + 3) 0) 1 (7 + 14 * ((B 1 6).toNatClampNeg) + 4) 0) 1 (7 + 14 * ((B 1 6).toNatClampNeg) + 5) 0) 1 (7 + 14 * ((B 1 6).toNatClampNeg) + 6) 0) 1) (show (6 : Int32).toNatClampNeg = 6 by decide))).trans (bput_q (by omega))).trans (bput_q (by omega))).trans (bput_q (by omega))).trans (bput_q (by omega))).trans (bput_q (by omega))).trans (bput_q (by omega))).trans (bput_q (by omega))) ?_
                          refine lv_re (nI_self hn9.1) ?_
                          refine lv_iload_n hx hb dX7_addsShaft_51 rfl (lv_at hl 0 rfl) ?_
                          refine wc_s hC hml (kX7_at l G (wset Z 12 (bput (bput (bput (bput (bput (bput (bput B 1 (7 + 14 * ((B 1 6).toNatClampNeg) + 0) 0) 1 (7 + 14 * ((B 1 6).toNatClampNeg) + 1) 0) 1 (7 + 14 * ((B 1 6).toNatClampNeg) + 2) 0) 1 (7 + 14 * ((B 1 6).toNatClampNeg) + 3) 0) 1 (7 + 14 * ((B 1 6).toNatClampNeg) + 4) 0) 1 (7 + 14 * ((B 1 6).toNatClampNeg) + 5) 0) 1 (7 + 14 * ((B 1 6).toNatClampNeg) + 6) 0)) ((B 1 6).toNatClampNeg) 7) (cwS 2 hts gX7_addsShaft_X7_at rfl rfl rfl (by decide +kernel) ⟨Nat.le_of_ble_eq_true rfl, Nat.le_of_ble_eq_true rfl⟩) hW hS rfl rfl hl.1 (Nat.le_of_ble_eq_true rfl) dX7_addsShaft_52 (fun H locs hW hS => ?_)
                          refine lv_re (y := nI (7 + 14 * ((B 1 6).toNatClampNeg) + 7)) rfl ?_
                          refine lv_iconst (v := 0) hx hb dX7_addsShaft_55 (by decide) ?_
                          refine wr_ast (kA := 0) (Z' := wset Z 12 (bput (bput (bput (bput (bput (bput (bput (bput B 1 (7 + 14 * ((B 1 6).toNatClampNeg) + 0) 0) 1 (7 + 14 * ((B 1 6).toNatClampNeg) + 1) 0) 1 (7 + 14 * ((B 1 6).toNatClampNeg) + 2) 0) 1 (7 + 14 * ((B 1 6).toNatClampNeg) + 3) 0) 1 (7 + 14 * ((B 1 6).toNatClampNeg) + 4) 0) 1 (7 + 14 * ((B 1 6).toNatClampNeg) + 5) 0) 1 (7 + 14 * ((B 1 6).toNatClampNeg) + 6) 0) 1 (nI (7 + 14 * ((B 1 6).toNatClampNeg) + 7)).toNatClampNeg 0)) hC hW hS (vM (by decide)) ce_m1 rfl (vp_in_nI (show (7 + 14 * ((B 1 6).toNatClampNeg) + 7) < 100 by omega) (by decide)) wset_off pu_m1 dX7_addsShaft_56 (fun H locs hW hS => ?_)
                          rw [nI_clamp (show (7 + 14 * ((B 1 6).toNatClampNeg) + 7) < 2 ^ 31 by omega)] at hW
                          refine lv_iinc (v := 8) (lv' := [(2, .int 8), (0, .ref (G.2.2.1 12 0)), (1, .int a1)]) hx hb dX7_addsShaft_57 hl (k := 0) rfl (by decide) (by decide) rfl (fun ls hl => ?_)
                          refine lv_goto (tgt := 34) hx hb dX7_addsShaft_60 (by decide) ?_
                          refine lv_iload_n hx hb dX7_addsShaft_34 rfl (lv_at hl 0 rfl) ?_
                          refine lv_bipush (v := 14) hx hb dX7_addsShaft_35 (by decide) ?_
                          refine lv_icmp_ge (tgt := 63) hx hb dX7_addsShaft_37 (by decide) (fun c_45 => ?_) (fun c_45 => ?_)
                          · exact absurd c_45 (by decide)
                          · skip
                            refine lv_aload_n hx hb dX7_addsShaft_40 rfl (lv_at hl 1 rfl) ?_
                            refine wr_get hC hinRX7 hW (vM (by decide)) ce_m0 rfl 0 (by decide) hk0 rfl dX7_addsShaft_41 ?_
                            refine lv_aload_n hx hb dX7_addsShaft_44 rfl (lv_at hl 1 rfl) ?_
                            refine wr_get hC hinRX7 hW (vM (by decide)) ce_m0 rfl 0 (by decide) hk0 rfl dX7_addsShaft_45 ?_
                            refine lv_bipush (v := 6) hx hb dX7_addsShaft_48 (by decide) ?_
                            refine wr_ald (kA := 0) hC hW (vM (by decide)) ce_m1 rfl (vp_in_iff.mpr (by decide)) dX7_addsShaft_50 ?_
                            refine lv_re (y := B 1 6) ((((((((((congrArg ((bput (bput (bput (bput (bput (bput (bput (bput B 1 (7 + 14 * ((B 1 6).toNatClampNeg) + 0) 0) 1 (7 + 14 * ((B 1 6).toNatClampNeg) + 1) 0) 1 (7 + 14 * ((B 1 6).toNatClampNeg) + 2) 0) 1 (7 + 14 * ((B 1 6).toNatClampNeg) + 3) 0) 1 (7 + 14 * ((B 1 6).toNatClampNeg) + 4) 0) 1 (7 + 14 * ((B 1 6).toNatClampNeg) + 5) 0) 1 (7 + 14 * ((B 1 6).toNatClampNeg) + 6) 0) 1 (7 + 14 * ((B 1 6).toNatClampNeg) + 7) 0) 1) (show (6 : Int32).toNatClampNeg = 6 by decide))).trans (bput_q (by omega))).trans (bput_q (by omega))).trans (bput_q (by omega))).trans (bput_q (by omega))).trans (bput_q (by omega))).trans (bput_q (by omega))).trans (bput_q (by omega))).trans (bput_q (by omega))) ?_
                            refine lv_re (nI_self hn9.1) ?_
                            refine lv_iload_n hx hb dX7_addsShaft_51 rfl (lv_at hl 0 rfl) ?_
                            refine wc_s hC hml (kX7_at l G (wset Z 12 (bput (bput (bput (bput (bput (bput (bput (bput B 1 (7 + 14 * ((B 1 6).toNatClampNeg) + 0) 0) 1 (7 + 14 * ((B 1 6).toNatClampNeg) + 1) 0) 1 (7 + 14 * ((B 1 6).toNatClampNeg) + 2) 0) 1 (7 + 14 * ((B 1 6).toNatClampNeg) + 3) 0) 1 (7 + 14 * ((B 1 6).toNatClampNeg) + 4) 0) 1 (7 + 14 * ((B 1 6).toNatClampNeg) + 5) 0) 1 (7 + 14 * ((B 1 6).toNatClampNeg) + 6) 0) 1 (7 + 14 * ((B 1 6).toNatClampNeg) + 7) 0)) ((B 1 6).toNatClampNeg) 8) (cwS 2 hts gX7_addsShaft_X7_at rfl rfl rfl (by decide +kernel) ⟨Nat.le_of_ble_eq_true rfl, Nat.le_of_ble_eq_true rfl⟩) hW hS rfl rfl hl.1 (Nat.le_of_ble_eq_true rfl) dX7_addsShaft_52 (fun H locs hW hS => ?_)
                            refine lv_re (y := nI (7 + 14 * ((B 1 6).toNatClampNeg) + 8)) rfl ?_
                            refine lv_iconst (v := 0) hx hb dX7_addsShaft_55 (by decide) ?_
                            refine wr_ast (kA := 0) (Z' := wset Z 12 (bput (bput (bput (bput (bput (bput (bput (bput (bput B 1 (7 + 14 * ((B 1 6).toNatClampNeg) + 0) 0) 1 (7 + 14 * ((B 1 6).toNatClampNeg) + 1) 0) 1 (7 + 14 * ((B 1 6).toNatClampNeg) + 2) 0) 1 (7 + 14 * ((B 1 6).toNatClampNeg) + 3) 0) 1 (7 + 14 * ((B 1 6).toNatClampNeg) + 4) 0) 1 (7 + 14 * ((B 1 6).toNatClampNeg) + 5) 0) 1 (7 + 14 * ((B 1 6).toNatClampNeg) + 6) 0) 1 (7 + 14 * ((B 1 6).toNatClampNeg) + 7) 0) 1 (nI (7 + 14 * ((B 1 6).toNatClampNeg) + 8)).toNatClampNeg 0)) hC hW hS (vM (by decide)) ce_m1 rfl (vp_in_nI (show (7 + 14 * ((B 1 6).toNatClampNeg) + 8) < 100 by omega) (by decide)) wset_off pu_m1 dX7_addsShaft_56 (fun H locs hW hS => ?_)
                            rw [nI_clamp (show (7 + 14 * ((B 1 6).toNatClampNeg) + 8) < 2 ^ 31 by omega)] at hW
                            refine lv_iinc (v := 9) (lv' := [(2, .int 9), (0, .ref (G.2.2.1 12 0)), (1, .int a1)]) hx hb dX7_addsShaft_57 hl (k := 0) rfl (by decide) (by decide) rfl (fun ls hl => ?_)
                            refine lv_goto (tgt := 34) hx hb dX7_addsShaft_60 (by decide) ?_
                            refine lv_iload_n hx hb dX7_addsShaft_34 rfl (lv_at hl 0 rfl) ?_
                            refine lv_bipush (v := 14) hx hb dX7_addsShaft_35 (by decide) ?_
                            refine lv_icmp_ge (tgt := 63) hx hb dX7_addsShaft_37 (by decide) (fun c_46 => ?_) (fun c_46 => ?_)
                            · exact absurd c_46 (by decide)
                            · skip
                              refine lv_aload_n hx hb dX7_addsShaft_40 rfl (lv_at hl 1 rfl) ?_
                              refine wr_get hC hinRX7 hW (vM (by decide)) ce_m0 rfl 0 (by decide) hk0 rfl dX7_addsShaft_41 ?_
                              refine lv_aload_n hx hb dX7_addsShaft_44 rfl (lv_at hl 1 rfl) ?_
                              refine wr_get hC hinRX7 hW (vM (by decide)) ce_m0 rfl 0 (by decide) hk0 rfl dX7_addsShaft_45 ?_
                              refine lv_bipush (v := 6) hx hb dX7_addsShaft_48 (by decide) ?_
                              refine wr_ald (kA := 0) hC hW (vM (by decide)) ce_m1 rfl (vp_in_iff.mpr (by decide)) dX7_addsShaft_50 ?_
                              refine lv_re (y := B 1 6) (((((((((((congrArg ((bput (bput (bput (bput (bput (bput (bput (bput (bput B 1 (7 + 14 * ((B 1 6).toNatClampNeg) + 0) 0) 1 (7 + 14 * ((B 1 6).toNatClampNeg) + 1) 0) 1 (7 + 14 * ((B 1 6).toNatClampNeg) + 2) 0) 1 (7 + 14 * ((B 1 6).toNatClampNeg) + 3) 0) 1 (7 + 14 * ((B 1 6).toNatClampNeg) + 4) 0) 1 (7 + 14 * ((B 1 6).toNatClampNeg) + 5) 0) 1 (7 + 14 * ((B 1 6).toNatClampNeg) + 6) 0) 1 (7 + 14 * ((B 1 6).toNatClampNeg) + 7) 0) 1 (7 + 14 * ((B 1 6).toNatClampNeg) + 8) 0) 1) (show (6 : Int32).toNatClampNeg = 6 by decide))).trans (bput_q (by omega))).trans (bput_q (by omega))).trans (bput_q (by omega))).trans (bput_q (by omega))).trans (bput_q (by omega))).trans (bput_q (by omega))).trans (bput_q (by omega))).trans (bput_q (by omega))).trans (bput_q (by omega))) ?_
                              refine lv_re (nI_self hn9.1) ?_
                              refine lv_iload_n hx hb dX7_addsShaft_51 rfl (lv_at hl 0 rfl) ?_
                              refine wc_s hC hml (kX7_at l G (wset Z 12 (bput (bput (bput (bput (bput (bput (bput (bput (bput B 1 (7 + 14 * ((B 1 6).toNatClampNeg) + 0) 0) 1 (7 + 14 * ((B 1 6).toNatClampNeg) + 1) 0) 1 (7 + 14 * ((B 1 6).toNatClampNeg) + 2) 0) 1 (7 + 14 * ((B 1 6).toNatClampNeg) + 3) 0) 1 (7 + 14 * ((B 1 6).toNatClampNeg) + 4) 0) 1 (7 + 14 * ((B 1 6).toNatClampNeg) + 5) 0) 1 (7 + 14 * ((B 1 6).toNatClampNeg) + 6) 0) 1 (7 + 14 * ((B 1 6).toNatClampNeg) + 7) 0) 1 (7 + 14 * ((B 1 6).toNatClampNeg) + 8) 0)) ((B 1 6).toNatClampNeg) 9) (cwS 2 hts gX7_addsShaft_X7_at rfl rfl rfl (by decide +kernel) ⟨Nat.le_of_ble_eq_true rfl, Nat.le_of_ble_eq_true rfl⟩) hW hS rfl rfl hl.1 (Nat.le_of_ble_eq_true rfl) dX7_addsShaft_52 (fun H locs hW hS => ?_)
                              refine lv_re (y := nI (7 + 14 * ((B 1 6).toNatClampNeg) + 9)) rfl ?_
                              refine lv_iconst (v := 0) hx hb dX7_addsShaft_55 (by decide) ?_
                              refine wr_ast (kA := 0) (Z' := wset Z 12 (bput (bput (bput (bput (bput (bput (bput (bput (bput (bput B 1 (7 + 14 * ((B 1 6).toNatClampNeg) + 0) 0) 1 (7 + 14 * ((B 1 6).toNatClampNeg) + 1) 0) 1 (7 + 14 * ((B 1 6).toNatClampNeg) + 2) 0) 1 (7 + 14 * ((B 1 6).toNatClampNeg) + 3) 0) 1 (7 + 14 * ((B 1 6).toNatClampNeg) + 4) 0) 1 (7 + 14 * ((B 1 6).toNatClampNeg) + 5) 0) 1 (7 + 14 * ((B 1 6).toNatClampNeg) + 6) 0) 1 (7 + 14 * ((B 1 6).toNatClampNeg) + 7) 0) 1 (7 + 14 * ((B 1 6).toNatClampNeg) + 8) 0) 1 (nI (7 + 14 * ((B 1 6).toNatClampNeg) + 9)).toNatClampNeg 0)) hC hW hS (vM (by decide)) ce_m1 rfl (vp_in_nI (show (7 + 14 * ((B 1 6).toNatClampNeg) + 9) < 100 by omega) (by decide)) wset_off pu_m1 dX7_addsShaft_56 (fun H locs hW hS => ?_)
                              rw [nI_clamp (show (7 + 14 * ((B 1 6).toNatClampNeg) + 9) < 2 ^ 31 by omega)] at hW
                              refine lv_iinc (v := 10) (lv' := [(2, .int 10), (0, .ref (G.2.2.1 12 0)), (1, .int a1)]) hx hb dX7_addsShaft_57 hl (k := 0) rfl (by decide) (by decide) rfl (fun ls hl => ?_)
                              refine lv_goto (tgt := 34) hx hb dX7_addsShaft_60 (by decide) ?_
                              refine lv_iload_n hx hb dX7_addsShaft_34 rfl (lv_at hl 0 rfl) ?_
                              refine lv_bipush (v := 14) hx hb dX7_addsShaft_35 (by decide) ?_
                              refine lv_icmp_ge (tgt := 63) hx hb dX7_addsShaft_37 (by decide) (fun c_47 => ?_) (fun c_47 => ?_)
                              · exact absurd c_47 (by decide)
                              · skip
                                refine lv_aload_n hx hb dX7_addsShaft_40 rfl (lv_at hl 1 rfl) ?_
                                refine wr_get hC hinRX7 hW (vM (by decide)) ce_m0 rfl 0 (by decide) hk0 rfl dX7_addsShaft_41 ?_
                                refine lv_aload_n hx hb dX7_addsShaft_44 rfl (lv_at hl 1 rfl) ?_
                                refine wr_get hC hinRX7 hW (vM (by decide)) ce_m0 rfl 0 (by decide) hk0 rfl dX7_addsShaft_45 ?_
                                refine lv_bipush (v := 6) hx hb dX7_addsShaft_48 (by decide) ?_
                                refine wr_ald (kA := 0) hC hW (vM (by decide)) ce_m1 rfl (vp_in_iff.mpr (by decide)) dX7_addsShaft_50 ?_
                                refine lv_re (y := B 1 6) ((((((((((((congrArg ((bput (bput (bput (bput (bput (bput (bput (bput (bput (bput B 1 (7 + 14 * ((B 1 6).toNatClampNeg) + 0) 0) 1 (7 + 14 * ((B 1 6).toNatClampNeg) + 1) 0) 1 (7 + 14 * ((B 1 6).toNatClampNeg) + 2) 0) 1 (7 + 14 * ((B 1 6).toNatClampNeg) + 3) 0) 1 (7 + 14 * ((B 1 6).toNatClampNeg) + 4) 0) 1 (7 + 14 * ((B 1 6).toNatClampNeg) + 5) 0) 1 (7 + 14 * ((B 1 6).toNatClampNeg) + 6) 0) 1 (7 + 14 * ((B 1 6).toNatClampNeg) + 7) 0) 1 (7 + 14 * ((B 1 6).toNatClampNeg) + 8) 0) 1 (7 + 14 * ((B 1 6).toNatClampNeg) + 9) 0) 1) (show (6 : Int32).toNatClampNeg = 6 by decide))).trans (bput_q (by omega))).trans (bput_q (by omega))).trans (bput_q (by omega))).trans (bput_q (by omega))).trans (bput_q (by omega))).trans (bput_q (by omega))).trans (bput_q (by omega))).trans (bput_q (by omega))).trans (bput_q (by omega))).trans (bput_q (by omega))) ?_
                                refine lv_re (nI_self hn9.1) ?_
                                refine lv_iload_n hx hb dX7_addsShaft_51 rfl (lv_at hl 0 rfl) ?_
                                refine wc_s hC hml (kX7_at l G (wset Z 12 (bput (bput (bput (bput (bput (bput (bput (bput (bput (bput B 1 (7 + 14 * ((B 1 6).toNatClampNeg) + 0) 0) 1 (7 + 14 * ((B 1 6).toNatClampNeg) + 1) 0) 1 (7 + 14 * ((B 1 6).toNatClampNeg) + 2) 0) 1 (7 + 14 * ((B 1 6).toNatClampNeg) + 3) 0) 1 (7 + 14 * ((B 1 6).toNatClampNeg) + 4) 0) 1 (7 + 14 * ((B 1 6).toNatClampNeg) + 5) 0) 1 (7 + 14 * ((B 1 6).toNatClampNeg) + 6) 0) 1 (7 + 14 * ((B 1 6).toNatClampNeg) + 7) 0) 1 (7 + 14 * ((B 1 6).toNatClampNeg) + 8) 0) 1 (7 + 14 * ((B 1 6).toNatClampNeg) + 9) 0)) ((B 1 6).toNatClampNeg) 10) (cwS 2 hts gX7_addsShaft_X7_at rfl rfl rfl (by decide +kernel) ⟨Nat.le_of_ble_eq_true rfl, Nat.le_of_ble_eq_true rfl⟩) hW hS rfl rfl hl.1 (Nat.le_of_ble_eq_true rfl) dX7_addsShaft_52 (fun H locs hW hS => ?_)
                                refine lv_re (y := nI (7 + 14 * ((B 1 6).toNatClampNeg) + 10)) rfl ?_
                                refine lv_iconst (v := 0) hx hb dX7_addsShaft_55 (by decide) ?_
                                refine wr_ast (kA := 0) (Z' := wset Z 12 (bput (bput (bput (bput (bput (bput (bput (bput (bput (bput (bput B 1 (7 + 14 * ((B 1 6).toNatClampNeg) + 0) 0) 1 (7 + 14 * ((B 1 6).toNatClampNeg) + 1) 0) 1 (7 + 14 * ((B 1 6).toNatClampNeg) + 2) 0) 1 (7 + 14 * ((B 1 6).toNatClampNeg) + 3) 0) 1 (7 + 14 * ((B 1 6).toNatClampNeg) + 4) 0) 1 (7 + 14 * ((B 1 6).toNatClampNeg) + 5) 0) 1 (7 + 14 * ((B 1 6).toNatClampNeg) + 6) 0) 1 (7 + 14 * ((B 1 6).toNatClampNeg) + 7) 0) 1 (7 + 14 * ((B 1 6).toNatClampNeg) + 8) 0) 1 (7 + 14 * ((B 1 6).toNatClampNeg) + 9) 0) 1 (nI (7 + 14 * ((B 1 6).toNatClampNeg) + 10)).toNatClampNeg 0)) hC hW hS (vM (by decide)) ce_m1 rfl (vp_in_nI (show (7 + 14 * ((B 1 6).toNatClampNeg) + 10) < 100 by omega) (by decide)) wset_off pu_m1 dX7_addsShaft_56 (fun H locs hW hS => ?_)
                                rw [nI_clamp (show (7 + 14 * ((B 1 6).toNatClampNeg) + 10) < 2 ^ 31 by omega)] at hW
                                refine lv_iinc (v := 11) (lv' := [(2, .int 11), (0, .ref (G.2.2.1 12 0)), (1, .int a1)]) hx hb dX7_addsShaft_57 hl (k := 0) rfl (by decide) (by decide) rfl (fun ls hl => ?_)
                                refine lv_goto (tgt := 34) hx hb dX7_addsShaft_60 (by decide) ?_
                                refine lv_iload_n hx hb dX7_addsShaft_34 rfl (lv_at hl 0 rfl) ?_
                                refine lv_bipush (v := 14) hx hb dX7_addsShaft_35 (by decide) ?_
                                refine lv_icmp_ge (tgt := 63) hx hb dX7_addsShaft_37 (by decide) (fun c_48 => ?_) (fun c_48 => ?_)
                                · exact absurd c_48 (by decide)
                                · skip
                                  refine lv_aload_n hx hb dX7_addsShaft_40 rfl (lv_at hl 1 rfl) ?_
                                  refine wr_get hC hinRX7 hW (vM (by decide)) ce_m0 rfl 0 (by decide) hk0 rfl dX7_addsShaft_41 ?_
                                  refine lv_aload_n hx hb dX7_addsShaft_44 rfl (lv_at hl 1 rfl) ?_
                                  refine wr_get hC hinRX7 hW (vM (by decide)) ce_m0 rfl 0 (by decide) hk0 rfl dX7_addsShaft_45 ?_
                                  refine lv_bipush (v := 6) hx hb dX7_addsShaft_48 (by decide) ?_
                                  refine wr_ald (kA := 0) hC hW (vM (by decide)) ce_m1 rfl (vp_in_iff.mpr (by decide)) dX7_addsShaft_50 ?_
                                  refine lv_re (y := B 1 6) (((((((((((((congrArg ((bput (bput (bput (bput (bput (bput (bput (bput (bput (bput (bput B 1 (7 + 14 * ((B 1 6).toNatClampNeg) + 0) 0) 1 (7 + 14 * ((B 1 6).toNatClampNeg) + 1) 0) 1 (7 + 14 * ((B 1 6).toNatClampNeg) + 2) 0) 1 (7 + 14 * ((B 1 6).toNatClampNeg) + 3) 0) 1 (7 + 14 * ((B 1 6).toNatClampNeg) + 4) 0) 1 (7 + 14 * ((B 1 6).toNatClampNeg) + 5) 0) 1 (7 + 14 * ((B 1 6).toNatClampNeg) + 6) 0) 1 (7 + 14 * ((B 1 6).toNatClampNeg) + 7) 0) 1 (7 + 14 * ((B 1 6).toNatClampNeg) + 8) 0) 1 (7 + 14 * ((B 1 6).toNatClampNeg) + 9) 0) 1 (7 + 14 * ((B 1 6).toNatClampNeg) + 10) 0) 1) (show (6 : Int32).toNatClampNeg = 6 by decide))).trans (bput_q (by omega))).trans (bput_q (by omega))).trans (bput_q (by omega))).trans (bput_q (by omega))).trans (bput_q (by omega))).trans (bput_q (by omega))).trans (bput_q (by omega))).trans (bput_q (by omega))).trans (bput_q (by omega))).trans (bput_q (by omega))).trans (bput_q (by omega))) ?_
                                  refine lv_re (nI_self hn9.1) ?_
                                  refine lv_iload_n hx hb dX7_addsShaft_51 rfl (lv_at hl 0 rfl) ?_
                                  refine wc_s hC hml (kX7_at l G (wset Z 12 (bput (bput (bput (bput (bput (bput (bput (bput (bput (bput (bput B 1 (7 + 14 * ((B 1 6).toNatClampNeg) + 0) 0) 1 (7 + 14 * ((B 1 6).toNatClampNeg) + 1) 0) 1 (7 + 14 * ((B 1 6).toNatClampNeg) + 2) 0) 1 (7 + 14 * ((B 1 6).toNatClampNeg) + 3) 0) 1 (7 + 14 * ((B 1 6).toNatClampNeg) + 4) 0) 1 (7 + 14 * ((B 1 6).toNatClampNeg) + 5) 0) 1 (7 + 14 * ((B 1 6).toNatClampNeg) + 6) 0) 1 (7 + 14 * ((B 1 6).toNatClampNeg) + 7) 0) 1 (7 + 14 * ((B 1 6).toNatClampNeg) + 8) 0) 1 (7 + 14 * ((B 1 6).toNatClampNeg) + 9) 0) 1 (7 + 14 * ((B 1 6).toNatClampNeg) + 10) 0)) ((B 1 6).toNatClampNeg) 11) (cwS 2 hts gX7_addsShaft_X7_at rfl rfl rfl (by decide +kernel) ⟨Nat.le_of_ble_eq_true rfl, Nat.le_of_ble_eq_true rfl⟩) hW hS rfl rfl hl.1 (Nat.le_of_ble_eq_true rfl) dX7_addsShaft_52 (fun H locs hW hS => ?_)
                                  refine lv_re (y := nI (7 + 14 * ((B 1 6).toNatClampNeg) + 11)) rfl ?_
                                  refine lv_iconst (v := 0) hx hb dX7_addsShaft_55 (by decide) ?_
                                  refine wr_ast (kA := 0) (Z' := wset Z 12 (bput (bput (bput (bput (bput (bput (bput (bput (bput (bput (bput (bput B 1 (7 + 14 * ((B 1 6).toNatClampNeg) + 0) 0) 1 (7 + 14 * ((B 1 6).toNatClampNeg) + 1) 0) 1 (7 + 14 * ((B 1 6).toNatClampNeg) + 2) 0) 1 (7 + 14 * ((B 1 6).toNatClampNeg) + 3) 0) 1 (7 + 14 * ((B 1 6).toNatClampNeg) + 4) 0) 1 (7 + 14 * ((B 1 6).toNatClampNeg) + 5) 0) 1 (7 + 14 * ((B 1 6).toNatClampNeg) + 6) 0) 1 (7 + 14 * ((B 1 6).toNatClampNeg) + 7) 0) 1 (7 + 14 * ((B 1 6).toNatClampNeg) + 8) 0) 1 (7 + 14 * ((B 1 6).toNatClampNeg) + 9) 0) 1 (7 + 14 * ((B 1 6).toNatClampNeg) + 10) 0) 1 (nI (7 + 14 * ((B 1 6).toNatClampNeg) + 11)).toNatClampNeg 0)) hC hW hS (vM (by decide)) ce_m1 rfl (vp_in_nI (show (7 + 14 * ((B 1 6).toNatClampNeg) + 11) < 100 by omega) (by decide)) wset_off pu_m1 dX7_addsShaft_56 (fun H locs hW hS => ?_)
                                  rw [nI_clamp (show (7 + 14 * ((B 1 6).toNatClampNeg) + 11) < 2 ^ 31 by omega)] at hW
                                  refine lv_iinc (v := 12) (lv' := [(2, .int 12), (0, .ref (G.2.2.1 12 0)), (1, .int a1)]) hx hb dX7_addsShaft_57 hl (k := 0) rfl (by decide) (by decide) rfl (fun ls hl => ?_)
                                  refine lv_goto (tgt := 34) hx hb dX7_addsShaft_60 (by decide) ?_
                                  refine lv_iload_n hx hb dX7_addsShaft_34 rfl (lv_at hl 0 rfl) ?_
                                  refine lv_bipush (v := 14) hx hb dX7_addsShaft_35 (by decide) ?_
                                  refine lv_icmp_ge (tgt := 63) hx hb dX7_addsShaft_37 (by decide) (fun c_49 => ?_) (fun c_49 => ?_)
                                  · exact absurd c_49 (by decide)
                                  · skip
                                    refine lv_aload_n hx hb dX7_addsShaft_40 rfl (lv_at hl 1 rfl) ?_
                                    refine wr_get hC hinRX7 hW (vM (by decide)) ce_m0 rfl 0 (by decide) hk0 rfl dX7_addsShaft_41 ?_
                                    refine lv_aload_n hx hb dX7_addsShaft_44 rfl (lv_at hl 1 rfl) ?_
                                    refine wr_get hC hinRX7 hW (vM (by decide)) ce_m0 rfl 0 (by decide) hk0 rfl dX7_addsShaft_45 ?_
                                    refine lv_bipush (v := 6) hx hb dX7_addsShaft_48 (by decide) ?_
                                    refine wr_ald (kA := 0) hC hW (vM (by decide)) ce_m1 rfl (vp_in_iff.mpr (by decide)) dX7_addsShaft_50 ?_
                                    refine lv_re (y := B 1 6) ((((((((((((((congrArg ((bput (bput (bput (bput (bput (bput (bput (bput (bput (bput (bput (bput B 1 (7 + 14 * ((B 1 6).toNatClampNeg) + 0) 0) 1 (7 + 14 * ((B 1 6).toNatClampNeg) + 1) 0) 1 (7 + 14 * ((B 1 6).toNatClampNeg) + 2) 0) 1 (7 + 14 * ((B 1 6).toNatClampNeg) + 3) 0) 1 (7 + 14 * ((B 1 6).toNatClampNeg) + 4) 0) 1 (7 + 14 * ((B 1 6).toNatClampNeg) + 5) 0) 1 (7 + 14 * ((B 1 6).toNatClampNeg) + 6) 0) 1 (7 + 14 * ((B 1 6).toNatClampNeg) + 7) 0) 1 (7 + 14 * ((B 1 6).toNatClampNeg) + 8) 0) 1 (7 + 14 * ((B 1 6).toNatClampNeg) + 9) 0) 1 (7 + 14 * ((B 1 6).toNatClampNeg) + 10) 0) 1 (7 + 14 * ((B 1 6).toNatClampNeg) + 11) 0) 1) (show (6 : Int32).toNatClampNeg = 6 by decide))).trans (bput_q (by omega))).trans (bput_q (by omega))).trans (bput_q (by omega))).trans (bput_q (by omega))).trans (bput_q (by omega))).trans (bput_q (by omega))).trans (bput_q (by omega))).trans (bput_q (by omega))).trans (bput_q (by omega))).trans (bput_q (by omega))).trans (bput_q (by omega))).trans (bput_q (by omega))) ?_
                                    refine lv_re (nI_self hn9.1) ?_
                                    refine lv_iload_n hx hb dX7_addsShaft_51 rfl (lv_at hl 0 rfl) ?_
                                    refine wc_s hC hml (kX7_at l G (wset Z 12 (bput (bput (bput (bput (bput (bput (bput (bput (bput (bput (bput (bput B 1 (7 + 14 * ((B 1 6).toNatClampNeg) + 0) 0) 1 (7 + 14 * ((B 1 6).toNatClampNeg) + 1) 0) 1 (7 + 14 * ((B 1 6).toNatClampNeg) + 2) 0) 1 (7 + 14 * ((B 1 6).toNatClampNeg) + 3) 0) 1 (7 + 14 * ((B 1 6).toNatClampNeg) + 4) 0) 1 (7 + 14 * ((B 1 6).toNatClampNeg) + 5) 0) 1 (7 + 14 * ((B 1 6).toNatClampNeg) + 6) 0) 1 (7 + 14 * ((B 1 6).toNatClampNeg) + 7) 0) 1 (7 + 14 * ((B 1 6).toNatClampNeg) + 8) 0) 1 (7 + 14 * ((B 1 6).toNatClampNeg) + 9) 0) 1 (7 + 14 * ((B 1 6).toNatClampNeg) + 10) 0) 1 (7 + 14 * ((B 1 6).toNatClampNeg) + 11) 0)) ((B 1 6).toNatClampNeg) 12) (cwS 2 hts gX7_addsShaft_X7_at rfl rfl rfl (by decide +kernel) ⟨Nat.le_of_ble_eq_true rfl, Nat.le_of_ble_eq_true rfl⟩) hW hS rfl rfl hl.1 (Nat.le_of_ble_eq_true rfl) dX7_addsShaft_52 (fun H locs hW hS => ?_)
                                    refine lv_re (y := nI (7 + 14 * ((B 1 6).toNatClampNeg) + 12)) rfl ?_
                                    refine lv_iconst (v := 0) hx hb dX7_addsShaft_55 (by decide) ?_
                                    refine wr_ast (kA := 0) (Z' := wset Z 12 (bput (bput (bput (bput (bput (bput (bput (bput (bput (bput (bput (bput (bput B 1 (7 + 14 * ((B 1 6).toNatClampNeg) + 0) 0) 1 (7 + 14 * ((B 1 6).toNatClampNeg) + 1) 0) 1 (7 + 14 * ((B 1 6).toNatClampNeg) + 2) 0) 1 (7 + 14 * ((B 1 6).toNatClampNeg) + 3) 0) 1 (7 + 14 * ((B 1 6).toNatClampNeg) + 4) 0) 1 (7 + 14 * ((B 1 6).toNatClampNeg) + 5) 0) 1 (7 + 14 * ((B 1 6).toNatClampNeg) + 6) 0) 1 (7 + 14 * ((B 1 6).toNatClampNeg) + 7) 0) 1 (7 + 14 * ((B 1 6).toNatClampNeg) + 8) 0) 1 (7 + 14 * ((B 1 6).toNatClampNeg) + 9) 0) 1 (7 + 14 * ((B 1 6).toNatClampNeg) + 10) 0) 1 (7 + 14 * ((B 1 6).toNatClampNeg) + 11) 0) 1 (nI (7 + 14 * ((B 1 6).toNatClampNeg) + 12)).toNatClampNeg 0)) hC hW hS (vM (by decide)) ce_m1 rfl (vp_in_nI (show (7 + 14 * ((B 1 6).toNatClampNeg) + 12) < 100 by omega) (by decide)) wset_off pu_m1 dX7_addsShaft_56 (fun H locs hW hS => ?_)
                                    rw [nI_clamp (show (7 + 14 * ((B 1 6).toNatClampNeg) + 12) < 2 ^ 31 by omega)] at hW
                                    refine lv_iinc (v := 13) (lv' := [(2, .int 13), (0, .ref (G.2.2.1 12 0)), (1, .int a1)]) hx hb dX7_addsShaft_57 hl (k := 0) rfl (by decide) (by decide) rfl (fun ls hl => ?_)
                                    refine lv_goto (tgt := 34) hx hb dX7_addsShaft_60 (by decide) ?_
                                    refine lv_iload_n hx hb dX7_addsShaft_34 rfl (lv_at hl 0 rfl) ?_
                                    refine lv_bipush (v := 14) hx hb dX7_addsShaft_35 (by decide) ?_
                                    refine lv_icmp_ge (tgt := 63) hx hb dX7_addsShaft_37 (by decide) (fun c_50 => ?_) (fun c_50 => ?_)
                                    · exact absurd c_50 (by decide)
                                    · skip
                                      refine lv_aload_n hx hb dX7_addsShaft_40 rfl (lv_at hl 1 rfl) ?_
                                      refine wr_get hC hinRX7 hW (vM (by decide)) ce_m0 rfl 0 (by decide) hk0 rfl dX7_addsShaft_41 ?_
                                      refine lv_aload_n hx hb dX7_addsShaft_44 rfl (lv_at hl 1 rfl) ?_
                                      refine wr_get hC hinRX7 hW (vM (by decide)) ce_m0 rfl 0 (by decide) hk0 rfl dX7_addsShaft_45 ?_
                                      refine lv_bipush (v := 6) hx hb dX7_addsShaft_48 (by decide) ?_
                                      refine wr_ald (kA := 0) hC hW (vM (by decide)) ce_m1 rfl (vp_in_iff.mpr (by decide)) dX7_addsShaft_50 ?_
                                      refine lv_re (y := B 1 6) (((((((((((((((congrArg ((bput (bput (bput (bput (bput (bput (bput (bput (bput (bput (bput (bput (bput B 1 (7 + 14 * ((B 1 6).toNatClampNeg) + 0) 0) 1 (7 + 14 * ((B 1 6).toNatClampNeg) + 1) 0) 1 (7 + 14 * ((B 1 6).toNatClampNeg) + 2) 0) 1 (7 + 14 * ((B 1 6).toNatClampNeg) + 3) 0) 1 (7 + 14 * ((B 1 6).toNatClampNeg) + 4) 0) 1 (7 + 14 * ((B 1 6).toNatClampNeg) + 5) 0) 1 (7 + 14 * ((B 1 6).toNatClampNeg) + 6) 0) 1 (7 + 14 * ((B 1 6).toNatClampNeg) + 7) 0) 1 (7 + 14 * ((B 1 6).toNatClampNeg) + 8) 0) 1 (7 + 14 * ((B 1 6).toNatClampNeg) + 9) 0) 1 (7 + 14 * ((B 1 6).toNatClampNeg) + 10) 0) 1 (7 + 14 * ((B 1 6).toNatClampNeg) + 11) 0) 1 (7 + 14 * ((B 1 6).toNatClampNeg) + 12) 0) 1) (show (6 : Int32).toNatClampNeg = 6 by decide))).trans (bput_q (by omega))).trans (bput_q (by omega))).trans (bput_q (by omega))).trans (bput_q (by omega))).trans (bput_q (by omega))).trans (bput_q (by omega))).trans (bput_q (by omega))).trans (bput_q (by omega))).trans (bput_q (by omega))).trans (bput_q (by omega))).trans (bput_q (by omega))).trans (bput_q (by omega))).trans (bput_q (by omega))) ?_
                                      refine lv_re (nI_self hn9.1) ?_
                                      refine lv_iload_n hx hb dX7_addsShaft_51 rfl (lv_at hl 0 rfl) ?_
                                      refine wc_s hC hml (kX7_at l G (wset Z 12 (bput (bput (bput (bput (bput (bput (bput (bput (bput (bput (bput (bput (bput B 1 (7 + 14 * ((B 1 6).toNatClampNeg) + 0) 0) 1 (7 + 14 * ((B 1 6).toNatClampNeg) + 1) 0) 1 (7 + 14 * ((B 1 6).toNatClampNeg) + 2) 0) 1 (7 + 14 * ((B 1 6).toNatClampNeg) + 3) 0) 1 (7 + 14 * ((B 1 6).toNatClampNeg) + 4) 0) 1 (7 + 14 * ((B 1 6).toNatClampNeg) + 5) 0) 1 (7 + 14 * ((B 1 6).toNatClampNeg) + 6) 0) 1 (7 + 14 * ((B 1 6).toNatClampNeg) + 7) 0) 1 (7 + 14 * ((B 1 6).toNatClampNeg) + 8) 0) 1 (7 + 14 * ((B 1 6).toNatClampNeg) + 9) 0) 1 (7 + 14 * ((B 1 6).toNatClampNeg) + 10) 0) 1 (7 + 14 * ((B 1 6).toNatClampNeg) + 11) 0) 1 (7 + 14 * ((B 1 6).toNatClampNeg) + 12) 0)) ((B 1 6).toNatClampNeg) 13) (cwS 2 hts gX7_addsShaft_X7_at rfl rfl rfl (by decide +kernel) ⟨Nat.le_of_ble_eq_true rfl, Nat.le_of_ble_eq_true rfl⟩) hW hS rfl rfl hl.1 (Nat.le_of_ble_eq_true rfl) dX7_addsShaft_52 (fun H locs hW hS => ?_)
                                      refine lv_re (y := nI (7 + 14 * ((B 1 6).toNatClampNeg) + 13)) rfl ?_
                                      refine lv_iconst (v := 0) hx hb dX7_addsShaft_55 (by decide) ?_
                                      refine wr_ast (kA := 0) (Z' := wset Z 12 (bput (bput (bput (bput (bput (bput (bput (bput (bput (bput (bput (bput (bput (bput B 1 (7 + 14 * ((B 1 6).toNatClampNeg) + 0) 0) 1 (7 + 14 * ((B 1 6).toNatClampNeg) + 1) 0) 1 (7 + 14 * ((B 1 6).toNatClampNeg) + 2) 0) 1 (7 + 14 * ((B 1 6).toNatClampNeg) + 3) 0) 1 (7 + 14 * ((B 1 6).toNatClampNeg) + 4) 0) 1 (7 + 14 * ((B 1 6).toNatClampNeg) + 5) 0) 1 (7 + 14 * ((B 1 6).toNatClampNeg) + 6) 0) 1 (7 + 14 * ((B 1 6).toNatClampNeg) + 7) 0) 1 (7 + 14 * ((B 1 6).toNatClampNeg) + 8) 0) 1 (7 + 14 * ((B 1 6).toNatClampNeg) + 9) 0) 1 (7 + 14 * ((B 1 6).toNatClampNeg) + 10) 0) 1 (7 + 14 * ((B 1 6).toNatClampNeg) + 11) 0) 1 (7 + 14 * ((B 1 6).toNatClampNeg) + 12) 0) 1 (nI (7 + 14 * ((B 1 6).toNatClampNeg) + 13)).toNatClampNeg 0)) hC hW hS (vM (by decide)) ce_m1 rfl (vp_in_nI (show (7 + 14 * ((B 1 6).toNatClampNeg) + 13) < 100 by omega) (by decide)) wset_off pu_m1 dX7_addsShaft_56 (fun H locs hW hS => ?_)
                                      rw [nI_clamp (show (7 + 14 * ((B 1 6).toNatClampNeg) + 13) < 2 ^ 31 by omega)] at hW
                                      refine lv_iinc (v := 14) (lv' := [(2, .int 14), (0, .ref (G.2.2.1 12 0)), (1, .int a1)]) hx hb dX7_addsShaft_57 hl (k := 0) rfl (by decide) (by decide) rfl (fun ls hl => ?_)
                                      refine lv_goto (tgt := 34) hx hb dX7_addsShaft_60 (by decide) ?_
                                      refine lv_iload_n hx hb dX7_addsShaft_34 rfl (lv_at hl 0 rfl) ?_
                                      refine lv_bipush (v := 14) hx hb dX7_addsShaft_35 (by decide) ?_
                                      refine lv_icmp_ge (tgt := 63) hx hb dX7_addsShaft_37 (by decide) (fun c_51 => ?_) (fun c_51 => ?_)
                                      · skip
                                        refine lv_aload_n hx hb dX7_addsShaft_63 rfl (lv_at hl 1 rfl) ?_
                                        refine wr_get hC hinRX7 hW (vM (by decide)) ce_m0 rfl 0 (by decide) hk0 rfl dX7_addsShaft_64 ?_
                                        refine lv_aload_n hx hb dX7_addsShaft_67 rfl (lv_at hl 1 rfl) ?_
                                        refine wr_get hC hinRX7 hW (vM (by decide)) ce_m0 rfl 0 (by decide) hk0 rfl dX7_addsShaft_68 ?_
                                        refine lv_bipush (v := 6) hx hb dX7_addsShaft_71 (by decide) ?_
                                        refine wr_ald (kA := 0) hC hW (vM (by decide)) ce_m1 rfl (vp_in_iff.mpr (by decide)) dX7_addsShaft_73 ?_
                                        refine lv_re (y := B 1 6) ((((((((((((((((congrArg ((bput (bput (bput (bput (bput (bput (bput (bput (bput (bput (bput (bput (bput (bput B 1 (7 + 14 * ((B 1 6).toNatClampNeg) + 0) 0) 1 (7 + 14 * ((B 1 6).toNatClampNeg) + 1) 0) 1 (7 + 14 * ((B 1 6).toNatClampNeg) + 2) 0) 1 (7 + 14 * ((B 1 6).toNatClampNeg) + 3) 0) 1 (7 + 14 * ((B 1 6).toNatClampNeg) + 4) 0) 1 (7 + 14 * ((B 1 6).toNatClampNeg) + 5) 0) 1 (7 + 14 * ((B 1 6).toNatClampNeg) + 6) 0) 1 (7 + 14 * ((B 1 6).toNatClampNeg) + 7) 0) 1 (7 + 14 * ((B 1 6).toNatClampNeg) + 8) 0) 1 (7 + 14 * ((B 1 6).toNatClampNeg) + 9) 0) 1 (7 + 14 * ((B 1 6).toNatClampNeg) + 10) 0) 1 (7 + 14 * ((B 1 6).toNatClampNeg) + 11) 0) 1 (7 + 14 * ((B 1 6).toNatClampNeg) + 12) 0) 1 (7 + 14 * ((B 1 6).toNatClampNeg) + 13) 0) 1) (show (6 : Int32).toNatClampNeg = 6 by decide))).trans (bput_q (by omega))).trans (bput_q (by omega))).trans (bput_q (by omega))).trans (bput_q (by omega))).trans (bput_q (by omega))).trans (bput_q (by omega))).trans (bput_q (by omega))).trans (bput_q (by omega))).trans (bput_q (by omega))).trans (bput_q (by omega))).trans (bput_q (by omega))).trans (bput_q (by omega))).trans (bput_q (by omega))).trans (bput_q (by omega))) ?_
                                        refine lv_re (nI_self hn9.1) ?_
                                        refine lv_iconst (v := 0) hx hb dX7_addsShaft_74 (by decide) ?_
                                        refine wc_s hC hml (kX7_at l G (wset Z 12 (bput (bput (bput (bput (bput (bput (bput (bput (bput (bput (bput (bput (bput (bput B 1 (7 + 14 * ((B 1 6).toNatClampNeg) + 0) 0) 1 (7 + 14 * ((B 1 6).toNatClampNeg) + 1) 0) 1 (7 + 14 * ((B 1 6).toNatClampNeg) + 2) 0) 1 (7 + 14 * ((B 1 6).toNatClampNeg) + 3) 0) 1 (7 + 14 * ((B 1 6).toNatClampNeg) + 4) 0) 1 (7 + 14 * ((B 1 6).toNatClampNeg) + 5) 0) 1 (7 + 14 * ((B 1 6).toNatClampNeg) + 6) 0) 1 (7 + 14 * ((B 1 6).toNatClampNeg) + 7) 0) 1 (7 + 14 * ((B 1 6).toNatClampNeg) + 8) 0) 1 (7 + 14 * ((B 1 6).toNatClampNeg) + 9) 0) 1 (7 + 14 * ((B 1 6).toNatClampNeg) + 10) 0) 1 (7 + 14 * ((B 1 6).toNatClampNeg) + 11) 0) 1 (7 + 14 * ((B 1 6).toNatClampNeg) + 12) 0) 1 (7 + 14 * ((B 1 6).toNatClampNeg) + 13) 0)) ((B 1 6).toNatClampNeg) 0) (cwS 2 hts gX7_addsShaft_X7_at rfl rfl rfl (by decide +kernel) ⟨Nat.le_of_ble_eq_true rfl, Nat.le_of_ble_eq_true rfl⟩) hW hS rfl rfl hl.1 (Nat.le_of_ble_eq_true rfl) dX7_addsShaft_75 (fun H locs hW hS => ?_)
                                        refine lv_re (y := nI (7 + 14 * ((B 1 6).toNatClampNeg) + 0)) rfl ?_
                                        refine lv_iload_n hx hb dX7_addsShaft_78 rfl (lv_at hl 2 rfl) ?_
                                        refine wr_ast (kA := 0) (Z' := wset Z 12 (bput (bput (bput (bput (bput (bput (bput (bput (bput (bput (bput (bput (bput (bput (bput B 1 (7 + 14 * ((B 1 6).toNatClampNeg) + 0) 0) 1 (7 + 14 * ((B 1 6).toNatClampNeg) + 1) 0) 1 (7 + 14 * ((B 1 6).toNatClampNeg) + 2) 0) 1 (7 + 14 * ((B 1 6).toNatClampNeg) + 3) 0) 1 (7 + 14 * ((B 1 6).toNatClampNeg) + 4) 0) 1 (7 + 14 * ((B 1 6).toNatClampNeg) + 5) 0) 1 (7 + 14 * ((B 1 6).toNatClampNeg) + 6) 0) 1 (7 + 14 * ((B 1 6).toNatClampNeg) + 7) 0) 1 (7 + 14 * ((B 1 6).toNatClampNeg) + 8) 0) 1 (7 + 14 * ((B 1 6).toNatClampNeg) + 9) 0) 1 (7 + 14 * ((B 1 6).toNatClampNeg) + 10) 0) 1 (7 + 14 * ((B 1 6).toNatClampNeg) + 11) 0) 1 (7 + 14 * ((B 1 6).toNatClampNeg) + 12) 0) 1 (7 + 14 * ((B 1 6).toNatClampNeg) + 13) 0) 1 (nI (7 + 14 * ((B 1 6).toNatClampNeg) + 0)).toNatClampNeg a1)) hC hW hS (vM (by decide)) ce_m1 rfl (vp_in_nI (show (7 + 14 * ((B 1 6).toNatClampNeg) + 0) < 100 by omega) (by decide)) wset_off pu_m1 dX7_addsShaft_79 (fun H locs hW hS => ?_)
                                        rw [nI_clamp (show (7 + 14 * ((B 1 6).toNatClampNeg) + 0) < 2 ^ 31 by omega)] at hW
                                        refine lv_aload_n hx hb dX7_addsShaft_80 rfl (lv_at hl 1 rfl) ?_
                                        refine wr_get hC hinRX7 hW (vM (by decide)) ce_m0 rfl 0 (by decide) hk0 rfl dX7_addsShaft_81 ?_
                                        refine lv_bipush (v := 6) hx hb dX7_addsShaft_84 (by decide) ?_
                                        refine lv_dup2_11 hx hb dX7_addsShaft_86 rfl rfl ?_
                                        refine wr_ald (kA := 0) hC hW (vM (by decide)) ce_m1 rfl (vp_in_iff.mpr (by decide)) dX7_addsShaft_87 ?_
                                        refine lv_re (y := B 1 6) (((((((((((((((((congrArg ((bput (bput (bput (bput (bput (bput (bput (bput (bput (bput (bput (bput (bput (bput (bput B 1 (7 + 14 * ((B 1 6).toNatClampNeg) + 0) 0) 1 (7 + 14 * ((B 1 6).toNatClampNeg) + 1) 0) 1 (7 + 14 * ((B 1 6).toNatClampNeg) + 2) 0) 1 (7 + 14 * ((B 1 6).toNatClampNeg) + 3) 0) 1 (7 + 14 * ((B 1 6).toNatClampNeg) + 4) 0) 1 (7 + 14 * ((B 1 6).toNatClampNeg) + 5) 0) 1 (7 + 14 * ((B 1 6).toNatClampNeg) + 6) 0) 1 (7 + 14 * ((B 1 6).toNatClampNeg) + 7) 0) 1 (7 + 14 * ((B 1 6).toNatClampNeg) + 8) 0) 1 (7 + 14 * ((B 1 6).toNatClampNeg) + 9) 0) 1 (7 + 14 * ((B 1 6).toNatClampNeg) + 10) 0) 1 (7 + 14 * ((B 1 6).toNatClampNeg) + 11) 0) 1 (7 + 14 * ((B 1 6).toNatClampNeg) + 12) 0) 1 (7 + 14 * ((B 1 6).toNatClampNeg) + 13) 0) 1 (7 + 14 * ((B 1 6).toNatClampNeg) + 0) a1) 1) (show (6 : Int32).toNatClampNeg = 6 by decide))).trans (bput_q (by omega))).trans (bput_q (by omega))).trans (bput_q (by omega))).trans (bput_q (by omega))).trans (bput_q (by omega))).trans (bput_q (by omega))).trans (bput_q (by omega))).trans (bput_q (by omega))).trans (bput_q (by omega))).trans (bput_q (by omega))).trans (bput_q (by omega))).trans (bput_q (by omega))).trans (bput_q (by omega))).trans (bput_q (by omega))).trans (bput_q (by omega))) ?_
                                        refine lv_iconst (v := 1) hx hb dX7_addsShaft_88 (by decide) ?_
                                        refine lv_iadd hx hb dX7_addsShaft_89 ?_
                                        refine wr_ast (kA := 0) (Z' := wset Z 12 (bput (bput (bput (bput (bput (bput (bput (bput (bput (bput (bput (bput (bput (bput (bput (bput B 1 (7 + 14 * ((B 1 6).toNatClampNeg) + 0) 0) 1 (7 + 14 * ((B 1 6).toNatClampNeg) + 1) 0) 1 (7 + 14 * ((B 1 6).toNatClampNeg) + 2) 0) 1 (7 + 14 * ((B 1 6).toNatClampNeg) + 3) 0) 1 (7 + 14 * ((B 1 6).toNatClampNeg) + 4) 0) 1 (7 + 14 * ((B 1 6).toNatClampNeg) + 5) 0) 1 (7 + 14 * ((B 1 6).toNatClampNeg) + 6) 0) 1 (7 + 14 * ((B 1 6).toNatClampNeg) + 7) 0) 1 (7 + 14 * ((B 1 6).toNatClampNeg) + 8) 0) 1 (7 + 14 * ((B 1 6).toNatClampNeg) + 9) 0) 1 (7 + 14 * ((B 1 6).toNatClampNeg) + 10) 0) 1 (7 + 14 * ((B 1 6).toNatClampNeg) + 11) 0) 1 (7 + 14 * ((B 1 6).toNatClampNeg) + 12) 0) 1 (7 + 14 * ((B 1 6).toNatClampNeg) + 13) 0) 1 (7 + 14 * ((B 1 6).toNatClampNeg) + 0) a1) 1 (6 : Int32).toNatClampNeg ((B 1 6) + 1))) hC hW hS (vM (by decide)) ce_m1 rfl (vp_in_iff.mpr (by decide)) wset_off pu_m1 dX7_addsShaft_90 (fun H locs hW hS => ?_)
                                        have hW : wW G (wset Z 12 (bput (bput (bput (bput (bput (bput (bput (bput (bput (bput (bput (bput (bput (bput (bput (bput B 1 (7 + 14 * ((B 1 6).toNatClampNeg) + 0) 0) 1 (7 + 14 * ((B 1 6).toNatClampNeg) + 1) 0) 1 (7 + 14 * ((B 1 6).toNatClampNeg) + 2) 0) 1 (7 + 14 * ((B 1 6).toNatClampNeg) + 3) 0) 1 (7 + 14 * ((B 1 6).toNatClampNeg) + 4) 0) 1 (7 + 14 * ((B 1 6).toNatClampNeg) + 5) 0) 1 (7 + 14 * ((B 1 6).toNatClampNeg) + 6) 0) 1 (7 + 14 * ((B 1 6).toNatClampNeg) + 7) 0) 1 (7 + 14 * ((B 1 6).toNatClampNeg) + 8) 0) 1 (7 + 14 * ((B 1 6).toNatClampNeg) + 9) 0) 1 (7 + 14 * ((B 1 6).toNatClampNeg) + 10) 0) 1 (7 + 14 * ((B 1 6).toNatClampNeg) + 11) 0) 1 (7 + 14 * ((B 1 6).toNatClampNeg) + 12) 0) 1 (7 + 14 * ((B 1 6).toNatClampNeg) + 13) 0) 1 (7 + 14 * ((B 1 6).toNatClampNeg) + 0) a1) 1 6 ((B 1 6) + 1))) H := hW
                                        refine lv_aload_n hx hb dX7_addsShaft_91 rfl (lv_at hl 1 rfl) ?_
                                        refine wr_get hC hinRX7 hW (vM (by decide)) ce_m0 rfl 0 (by decide) hk0 rfl dX7_addsShaft_92 ?_
                                        refine lv_bipush (v := 6) hx hb dX7_addsShaft_95 (by decide) ?_
                                        refine wr_ald (kA := 0) hC hW (vM (by decide)) ce_m1 rfl (vp_in_iff.mpr (by decide)) dX7_addsShaft_97 ?_
                                        refine lv_re (y := (B 1 6) + 1) (((congrArg ((bput (bput (bput (bput (bput (bput (bput (bput (bput (bput (bput (bput (bput (bput (bput (bput B 1 (7 + 14 * ((B 1 6).toNatClampNeg) + 0) 0) 1 (7 + 14 * ((B 1 6).toNatClampNeg) + 1) 0) 1 (7 + 14 * ((B 1 6).toNatClampNeg) + 2) 0) 1 (7 + 14 * ((B 1 6).toNatClampNeg) + 3) 0) 1 (7 + 14 * ((B 1 6).toNatClampNeg) + 4) 0) 1 (7 + 14 * ((B 1 6).toNatClampNeg) + 5) 0) 1 (7 + 14 * ((B 1 6).toNatClampNeg) + 6) 0) 1 (7 + 14 * ((B 1 6).toNatClampNeg) + 7) 0) 1 (7 + 14 * ((B 1 6).toNatClampNeg) + 8) 0) 1 (7 + 14 * ((B 1 6).toNatClampNeg) + 9) 0) 1 (7 + 14 * ((B 1 6).toNatClampNeg) + 10) 0) 1 (7 + 14 * ((B 1 6).toNatClampNeg) + 11) 0) 1 (7 + 14 * ((B 1 6).toNatClampNeg) + 12) 0) 1 (7 + 14 * ((B 1 6).toNatClampNeg) + 13) 0) 1 (7 + 14 * ((B 1 6).toNatClampNeg) + 0) a1) 1 6 ((B 1 6) + 1)) 1) (show (6 : Int32).toNatClampNeg = 6 by decide))).trans (bput_h)) ?_
                                        refine lv_iconst (v := 1) hx hb dX7_addsShaft_98 (by decide) ?_
                                        refine lv_isub hx hb dX7_addsShaft_99 ?_
                                        have hf : fX7_addsShaft B a1 = ((bput (bput (bput (bput (bput (bput (bput (bput (bput (bput (bput (bput (bput (bput (bput (bput B 1 (7 + 14 * ((B 1 6).toNatClampNeg) + 0) 0) 1 (7 + 14 * ((B 1 6).toNatClampNeg) + 1) 0) 1 (7 + 14 * ((B 1 6).toNatClampNeg) + 2) 0) 1 (7 + 14 * ((B 1 6).toNatClampNeg) + 3) 0) 1 (7 + 14 * ((B 1 6).toNatClampNeg) + 4) 0) 1 (7 + 14 * ((B 1 6).toNatClampNeg) + 5) 0) 1 (7 + 14 * ((B 1 6).toNatClampNeg) + 6) 0) 1 (7 + 14 * ((B 1 6).toNatClampNeg) + 7) 0) 1 (7 + 14 * ((B 1 6).toNatClampNeg) + 8) 0) 1 (7 + 14 * ((B 1 6).toNatClampNeg) + 9) 0) 1 (7 + 14 * ((B 1 6).toNatClampNeg) + 10) 0) 1 (7 + 14 * ((B 1 6).toNatClampNeg) + 11) 0) 1 (7 + 14 * ((B 1 6).toNatClampNeg) + 12) 0) 1 (7 + 14 * ((B 1 6).toNatClampNeg) + 13) 0) 1 (7 + 14 * ((B 1 6).toNatClampNeg) + 0) a1) 1 6 ((B 1 6) + 1)), ((B 1 6) + 1) - 1) := (if_neg c_1).trans ((if_neg c_18).trans ((if_pos c_35).trans ((if_neg c_36).trans rfl)))
                                        exact we_i hC hr hlocks (congrArg Prod.snd hf).symm (congrArg (fun u => wset Z 12 u.1) hf).symm hW hS dX7_addsShaft_100
                                      · exact absurd c_51 (by decide)
        · skip
          refine lv_bipush (v := (-4)) hx hb dX7_addsShaft_29 (by decide) ?_
          have hf : fX7_addsShaft B a1 = (B, (-4)) := (if_neg c_1).trans ((if_neg c_18).trans ((if_pos c_35).trans ((if_pos c_36).trans rfl)))
          exact we_i hC hr hlocks (congrArg Prod.snd hf).symm (congrArg (fun u => wset Z 12 u.1) hf).symm hW hS dX7_addsShaft_31
      · skip
        refine lv_bipush (v := (-2)) hx hb dX7_addsShaft_15 (by decide) ?_
        have hf : fX7_addsShaft B a1 = (B, (-2)) := (if_neg c_1).trans ((if_neg c_18).trans ((if_neg c_35).trans rfl))
        exact we_i hC hr hlocks (congrArg Prod.snd hf).symm (congrArg (fun u => wset Z 12 u.1) hf).symm hW hS dX7_addsShaft_17

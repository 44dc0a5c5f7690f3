def LX2_len : Nat → Int64 → Int32 → Int32
  | 0, _, y => y
  | u + 1, x, y => if lg_cmp x 0 = 0 then y else if lg_cmp (x &&& 255) 33 < 0 then 0 else if lg_cmp (x &&& 255) 126 ≤ 0 then LX2_len u (x.toUInt64 >>> ((8 : Int32).toInt64.toUInt64 &&& Int64.toUInt64 63)).toInt64 (y + 1) else 0
def fX2_lengthOf (a1 : Int64) : Int32 := LX2_len 8 a1 0
abbrev rX2_lengthOf : Room := { frames := 0, cells := 0, slots := 0, locals := 0 }
set_option maxHeartbeats 4000000 in
set_option maxRecDepth 100000 in
theorem kX2_lengthOf (l : Launch) (G : wG) (Z : wZ)  (a1 : Int64)  : mI l yX2_lengthOf wsX2_lengthOf rX2_lengthOf G [.long a1] Z (fX2_lengthOf a1) Z := by
  refine Met.ofW (cc := cX2_lengthOf) (maxL := 8) (ret := (some .int)) (by decide) rfl ?_
  intro p e s m args below meth c s₁ B0 hml hv
  obtain ⟨rfl, hW, hK, hL⟩ := hv
  have hlocks := B0.notSynchronized
  have hr := B0.returns
  have hC : wX p s m c cX2_lengthOf _ wsX2_lengthOf RX2 G := ⟨B0.exec, B0.bytes, findClass_of_methodNamed B0.named, atoms_spec (ws := wsX2_lengthOf) B0.pre, hK, hL⟩
  have hx := hC.1
  have hb := hC.2.1
  have hts := hC.2.2.2.1
  have hk0 := hts (.constantLong RX2 15 (255)) (by decide +kernel)
  have hk1 := hts (.constantLong RX2 17 (33)) (by decide +kernel)
  have hk2 := hts (.constantLong RX2 19 (126)) (by decide +kernel)
  have hS : va_S (wA G) s.heap s.heap [] := va_S.rf
  have hl := lv_entry ([.long a1]) (n := 8) (Nat.le_of_ble_eq_true rfl)
  rw [lg_entry_eq]
  generalize (lg_sl ([.long a1]) ++ List.replicate (8 - (lg_sl ([.long a1])).length) Slot.unset).toArray = ls at hl ⊢
  have hl : lv_has ls 8 [(0, .long a1)] := hl
  obtain ⟨R, hR⟩ : ∃ R, R = fX2_lengthOf a1 := ⟨_, rfl⟩
  rw [← hR]
  unfold fX2_lengthOf at hR
  refine lv_lload_n hx hb dX2_lengthOf_0 rfl (lv_at hl 0 rfl) ?_
  refine lv_lstore_n (lv' := [(2, .long a1), (0, .long a1)]) hx hb dX2_lengthOf_1 rfl hl (by decide) rfl (fun ls hl => ?_)
  refine lv_iconst (v := 0) hx hb dX2_lengthOf_2 (by decide) ?_
  refine lv_istore (lv' := [(4, .int 0), (2, .long a1), (0, .long a1)]) hx hb dX2_lengthOf_3 hl (by decide) rfl (fun ls hl => ?_)
  refine lv_iconst (v := 0) hx hb dX2_lengthOf_5 (by decide) ?_
  refine lv_istore (lv' := [(5, .int 0), (4, .int 0), (2, .long a1), (0, .long a1)]) hx hb dX2_lengthOf_6 hl (by decide) rfl (fun ls hl => ?_)
  have hlp_1 : ∀ (u : Nat) (k : Nat) (x : Int64) (y : Int32), (hk : k + u = 8) → R = LX2_len u x y → ∀ (H : Heap) (locs : List Loc) (ls : Array Slot), wW G Z H → va_S (wA G) s.heap H locs → lv_has ls 8 [(0, .long a1), (2, .long x), (4, .int y), (5, .int (nI k))] → W p l e (headSpec wsX2_lengthOf rX2_lengthOf).room s m ([.long a1] : List Value).toArray below meth c H locs 0 0 (qI below ([.long a1] : List Value).toArray s G R Z) (F0 m 8 ls []) := by
    intro u
    induction u with
    | zero =>
      intro k x y hk hR H locs ls hW hS hl
      simp only [LX2_len] at hR
      refine lv_iload hx hb dX2_lengthOf_8 (lv_at hl 3 rfl) ?_
      refine lv_bipush (v := 8) hx hb dX2_lengthOf_10 (by decide) ?_
      refine lv_icmp_ge (tgt := 62) hx hb dX2_lengthOf_12 (by decide) (fun c_2 => ?_) (fun c_2 => ?_)
      · skip
        refine lv_iload hx hb dX2_lengthOf_62 (lv_at hl 2 rfl) ?_
        exact we_i hC hr hlocks (v := y) (hR.symm) rfl hW hS dX2_lengthOf_64
      · exact absurd ((nI_leI (a := 8) (by decide) (by omega)).mpr (by omega)) c_2
    | succ u ih =>
      intro k x y hk hR H locs ls hW hS hl
      simp only [LX2_len] at hR
      refine lv_iload hx hb dX2_lengthOf_8 (lv_at hl 3 rfl) ?_
      refine lv_bipush (v := 8) hx hb dX2_lengthOf_10 (by decide) ?_
      refine lv_icmp_ge (tgt := 62) hx hb dX2_lengthOf_12 (by decide) (fun c_3 => ?_) (fun c_3 => ?_)
      · exact absurd ((nI_leI (a := 8) (by decide) (by omega)).mp c_3) (by omega)
      · skip
        refine lv_lload_n hx hb dX2_lengthOf_15 rfl (lv_at hl 1 rfl) ?_
        refine lv_lconst (v := 0) hx hb dX2_lengthOf_16 (by decide) ?_
        refine W.lcmp hx hb dX2_lengthOf_17 ?_
        refine lv_if_eq (tgt := 62) hx hb dX2_lengthOf_18 (by decide) (fun c_4 => ?_) (fun c_4 => ?_)
        · skip
          try rw [if_pos c_4] at hR
          refine lv_iload hx hb dX2_lengthOf_62 (lv_at hl 2 rfl) ?_
          exact we_i hC hr hlocks (v := y) (hR.symm) rfl hW hS dX2_lengthOf_64
        · skip
          try rw [if_neg c_4] at hR
          refine lv_lload_n hx hb dX2_lengthOf_21 rfl (lv_at hl 1 rfl) ?_
          refine lv_ldc2 (v := 255) hx hb hC.2.2.1 hk0 dX2_lengthOf_22 ?_
          refine lv_land hx hb dX2_lengthOf_25 ?_
          refine lv_topl (fun x_5 ex_5 => ?_)
          try rw [← ex_5] at hR
          refine lv_lstore (lv' := [(6, .long x_5), (0, .long a1), (2, .long x), (4, .int y), (5, .int (nI k))]) hx hb dX2_lengthOf_26 hl (by decide) rfl (fun ls hl => ?_)
          refine lv_lload hx hb dX2_lengthOf_28 (lv_at hl 0 rfl) ?_
          refine lv_ldc2 (v := 33) hx hb hC.2.2.1 hk1 dX2_lengthOf_30 ?_
          refine W.lcmp hx hb dX2_lengthOf_33 ?_
          refine lv_if_lt (tgt := 46) hx hb dX2_lengthOf_34 (by decide) (fun c_6 => ?_) (fun c_6 => ?_)
          · skip
            try rw [if_pos c_6] at hR
            refine lv_iconst (v := 0) hx hb dX2_lengthOf_46 (by decide) ?_
            exact we_i hC hr hlocks (v := 0) (hR.symm) rfl hW hS dX2_lengthOf_47
          · skip
            try rw [if_neg c_6] at hR
            refine lv_lload hx hb dX2_lengthOf_37 (lv_at hl 0 rfl) ?_
            refine lv_ldc2 (v := 126) hx hb hC.2.2.1 hk2 dX2_lengthOf_39 ?_
            refine W.lcmp hx hb dX2_lengthOf_42 ?_
            refine lv_if_le (tgt := 48) hx hb dX2_lengthOf_43 (by decide) (fun c_7 => ?_) (fun c_7 => ?_)
            · skip
              try rw [if_pos c_7] at hR
              refine lv_iinc (v := y + 1) (lv' := [(4, .int (y + 1)), (6, .long x_5), (0, .long a1), (2, .long x), (5, .int (nI k))]) hx hb dX2_lengthOf_48 hl (k := 3) rfl (rfl) (by decide) rfl (fun ls hl => ?_)
              refine lv_lload_n hx hb dX2_lengthOf_51 rfl (lv_at hl 3 rfl) ?_
              refine lv_bipush (v := 8) hx hb dX2_lengthOf_52 (by decide) ?_
              refine lv_lushr (v := (x.toUInt64 >>> ((8 : Int32).toInt64.toUInt64 &&& Int64.toUInt64 63)).toInt64) hx hb dX2_lengthOf_54 rfl ?_
              refine lv_topl (fun x_8 ex_8 => ?_)
              try rw [← ex_8] at hR
              refine lv_lstore_n (lv' := [(2, .long x_8), (4, .int (y + 1)), (6, .long x_5), (0, .long a1), (5, .int (nI k))]) hx hb dX2_lengthOf_55 rfl hl (by decide) rfl (fun ls hl => ?_)
              refine lv_iinc (v := nI (k + 1)) (lv' := [(5, .int (nI (k + 1))), (2, .long x_8), (4, .int (y + 1)), (6, .long x_5), (0, .long a1)]) hx hb dX2_lengthOf_56 hl (k := 4) rfl (nI_1 _) (by decide) rfl (fun ls hl => ?_)
              refine lv_goto (tgt := 8) hx hb dX2_lengthOf_59 (by decide) ?_
              exact ih (k + 1) x_8 (y + 1) (by omega) hR _ _ _ hW hS (lv_sub hl [4, 1, 2, 0] rfl)
            · skip
              try rw [if_neg c_7] at hR
              refine lv_iconst (v := 0) hx hb dX2_lengthOf_46 (by decide) ?_
              exact we_i hC hr hlocks (v := 0) (hR.symm) rfl hW hS dX2_lengthOf_47
  exact hlp_1 8 0 a1 0 rfl hR _ _ _ hW hS (lv_sub hl [3, 2, 1, 0] rfl)
theorem nb_ite {c : Prop} [Decidable c] {a b : wB × Int32} (ha : narrow .boolean (.int a.2) = .int a.2) (hb : narrow .boolean (.int b.2) = .int b.2) : narrow .boolean (.int (ite c a b).2) = .int (ite c a b).2 := by
  by_cases h : c
  · rw [if_pos h]; exact ha
  · rw [if_neg h]; exact hb
theorem nb_0 {b : wB} : narrow .boolean (.int (b, (0 : Int32)).2) = .int (b, (0 : Int32)).2 := show narrow .boolean (.int (0 : Int32)) = .int (0 : Int32) by decide
theorem nb_1 {b : wB} : narrow .boolean (.int (b, (1 : Int32)).2) = .int (b, (1 : Int32)).2 := show narrow .boolean (.int (1 : Int32)) = .int (1 : Int32) by decide
theorem nar_char_i (x : Int32) : narrow .char (.int (vp_nar .char x)) = .int (vp_nar .char x) := by
  simp only [vp_nar, narrow]
  simp
  congr 1
  apply UInt32.toNat_inj.mp
  rw [UInt32.toNat_mod, UInt32.toNat_mod]
  exact Nat.mod_mod _ _
def fX2_append (B : wB) (a1 : Int32) : wB :=
  if (B 6 0) < 0 then B
  else if 80 ≤ (B 6 0) then B
  else (bput (bput B 7 (B 6 0).toNatClampNeg a1) 6 0 ((B 6 0) + 1))
abbrev rX2_append : Room := { frames := 0, cells := 0, slots := 0, locals := 0 }
set_option maxHeartbeats 4000000 in
set_option maxRecDepth 100000 in
theorem kX2_append (l : Launch) (G : wG) (Z : wZ) (B : wB) (a1 : Int32)  : mV l yX2_append wsX2_append rX2_append G [.ref (G.2.2.1 11 6), .int a1] (wset Z 11 B) (wset Z 11 (fX2_append B a1)) := by
  refine Met.ofW (cc := cX2_append) (maxL := 2) (ret := none) (by decide) rfl ?_
  intro p e s m args below meth c s₁ B0 hml hv
  obtain ⟨rfl, hW, hK, hL⟩ := hv
  have hlocks := B0.notSynchronized
  have hr := B0.returns
  have hC : wX p s m c cX2_append _ wsX2_append RX2 G := ⟨B0.exec, B0.bytes, findClass_of_methodNamed B0.named, atoms_spec (ws := wsX2_append) B0.pre, hK, hL⟩
  have hx := hC.1
  have hb := hC.2.1
  have hts := hC.2.2.2.1
  have hinRX2 : ∀ w ∈ wsX20, w ∈ wsX2_append := by decide +kernel
  have hk0 := hts (.fieldLink RX2 21 "RampShafts$Pad" "length" "I") (by decide +kernel)
  have hk1 := hts (.fieldLink RX2 9 "RampShafts$Pad" "signs" "[C") (by decide +kernel)
  have hS : va_S (wA G) s.heap s.heap [] := va_S.rf
  have hl := lv_entry ([.ref (G.2.2.1 11 6), .int a1]) (n := 2) (Nat.le_of_ble_eq_true rfl)
  rw [lg_entry_eq]
  generalize (lg_sl ([.ref (G.2.2.1 11 6), .int a1]) ++ List.replicate (2 - (lg_sl ([.ref (G.2.2.1 11 6), .int a1])).length) Slot.unset).toArray = ls at hl ⊢
  have hl : lv_has ls 2 [(0, .ref (G.2.2.1 11 6)), (1, .int a1)] := hl
  refine lv_aload_n hx hb dX2_append_0 rfl (lv_at hl 0 rfl) ?_
  refine wr_get hC hinRX2 hW (vS (by decide)) ce_s6 rfl 1 (by decide) hk0 rfl dX2_append_1 ?_
  refine lv_if_lt (tgt := 39) hx hb dX2_append_4 (by decide) (fun c_1 => ?_) (fun c_1 => ?_)
  · skip
    have hf : fX2_append B a1 = B := (if_pos c_1).trans rfl
    exact we_v hC hr hlocks (congrArg (wset Z 11) hf).symm hW hS dX2_append_39
  · skip
    refine lv_aload_n hx hb dX2_append_7 rfl (lv_at hl 0 rfl) ?_
    refine wr_get hC hinRX2 hW (vS (by decide)) ce_s6 rfl 1 (by decide) hk0 rfl dX2_append_8 ?_
    refine lv_aload_n hx hb dX2_append_11 rfl (lv_at hl 0 rfl) ?_
    refine wr_get hC hinRX2 hW (vS (by decide)) ce_s6 rfl 0 (by decide) hk1 rfl dX2_append_12 ?_
    refine wr_alen (v := 80) hC hW (vS (by decide)) ce_s7 (ty := .char) rfl rfl dX2_append_15 ?_
    refine lv_icmp_ge (tgt := 39) hx hb dX2_append_16 (by decide) (fun c_2 => ?_) (fun c_2 => ?_)
    · skip
      have hf : fX2_append B a1 = B := (if_neg c_1).trans ((if_pos c_2).trans rfl)
      exact we_v hC hr hlocks (congrArg (wset Z 11) hf).symm hW hS dX2_append_39
    · skip
      refine lv_aload_n hx hb dX2_append_19 rfl (lv_at hl 0 rfl) ?_
      refine wr_get hC hinRX2 hW (vS (by decide)) ce_s6 rfl 0 (by decide) hk1 rfl dX2_append_20 ?_
      refine lv_aload_n hx hb dX2_append_23 rfl (lv_at hl 0 rfl) ?_
      refine wr_get hC hinRX2 hW (vS (by decide)) ce_s6 rfl 1 (by decide) hk0 rfl dX2_append_24 ?_
      refine lv_iload_n hx hb dX2_append_27 rfl (lv_at hl 1 rfl) ?_
      have hv_3 : vp_in (B 6 0) 80 := in_ge (N := 80) (by decide) (by decide) c_1 c_2
      refine wr_cast (kA := 2) (Z' := wset Z 11 (bput B 7 (B 6 0).toNatClampNeg a1)) hC hW hS (vS (by decide)) ce_s7 rfl hv_3 wset_off pu_s7 dX2_append_28 (fun H locs hW hS => ?_)
      refine lv_aload_n hx hb dX2_append_29 rfl (lv_at hl 0 rfl) ?_
      refine lv_dup hx hb dX2_append_30 rfl ?_
      refine wr_get hC hinRX2 hW (vS (by decide)) ce_s6 rfl 1 (by decide) hk0 rfl dX2_append_31 ?_
      refine lv_re (y := B 6 0) (bput_j (by omega)) ?_
      refine lv_iconst (v := 1) hx hb dX2_append_34 (by decide) ?_
      refine lv_iadd hx hb dX2_append_35 ?_
      refine wr_put (Z' := wset Z 11 (bput (bput B 7 (B 6 0).toNatClampNeg a1) 6 0 ((B 6 0) + 1))) (v := .int ((B 6 0) + 1)) hC hinRX2 tyX2 tyX2_ok nmX2 hW hS (vS (by decide)) ce_s6 rfl 1 (by decide) hk0 rfl (tyX2_ok 1 (by decide)) rfl rfl (Nat.le_of_ble_eq_true rfl) wset_off pu_s6_0 dX2_append_36 (fun H locs hW hS => ?_)
      have hf : fX2_append B a1 = (bput (bput B 7 (B 6 0).toNatClampNeg a1) 6 0 ((B 6 0) + 1)) := (if_neg c_1).trans ((if_neg c_2).trans rfl)
      exact we_v hC hr hlocks (congrArg (wset Z 11) hf).symm hW hS dX2_append_39
def fX2_signAt (B : wB) (a1 : Int32) : Int32 :=
  if a1 < 0 then 0
  else if (B 6 0) ≤ a1 then 0
  else if a1 < 80 then vp_nar .char (B 7 a1.toNatClampNeg)
  else 0
abbrev rX2_signAt : Room := { frames := 0, cells := 0, slots := 0, locals := 0 }
set_option maxHeartbeats 4000000 in
set_option maxRecDepth 100000 in
theorem kX2_signAt (l : Launch) (G : wG) (Z : wZ) (B : wB) (a1 : Int32)  : mI l yX2_signAt wsX2_signAt rX2_signAt G [.ref (G.2.2.1 11 6), .int a1] (wset Z 11 B) (fX2_signAt B a1) (wset Z 11 B) := by
  refine Met.ofW (cc := cX2_signAt) (maxL := 2) (ret := (some .char)) (by decide) rfl ?_
  intro p e s m args below meth c s₁ B0 hml hv
  obtain ⟨rfl, hW, hK, hL⟩ := hv
  have hlocks := B0.notSynchronized
  have hr := B0.returns
  have hC : wX p s m c cX2_signAt _ wsX2_signAt RX2 G := ⟨B0.exec, B0.bytes, findClass_of_methodNamed B0.named, atoms_spec (ws := wsX2_signAt) B0.pre, hK, hL⟩
  have hx := hC.1
  have hb := hC.2.1
  have hts := hC.2.2.2.1
  have hinRX2 : ∀ w ∈ wsX20, w ∈ wsX2_signAt := by decide +kernel
  have hk0 := hts (.fieldLink RX2 21 "RampShafts$Pad" "length" "I") (by decide +kernel)
  have hk1 := hts (.fieldLink RX2 9 "RampShafts$Pad" "signs" "[C") (by decide +kernel)
  have hS : va_S (wA G) s.heap s.heap [] := va_S.rf
  have hl := lv_entry ([.ref (G.2.2.1 11 6), .int a1]) (n := 2) (Nat.le_of_ble_eq_true rfl)
  rw [lg_entry_eq]
  generalize (lg_sl ([.ref (G.2.2.1 11 6), .int a1]) ++ List.replicate (2 - (lg_sl ([.ref (G.2.2.1 11 6), .int a1])).length) Slot.unset).toArray = ls at hl ⊢
  have hl : lv_has ls 2 [(0, .ref (G.2.2.1 11 6)), (1, .int a1)] := hl
  refine lv_iload_n hx hb dX2_signAt_0 rfl (lv_at hl 1 rfl) ?_
  refine lv_if_lt (tgt := 21) hx hb dX2_signAt_1 (by decide) (fun c_1 => ?_) (fun c_1 => ?_)
  · skip
    refine lv_iconst (v := 0) hx hb dX2_signAt_21 (by decide) ?_
    have hf : fX2_signAt B a1 = 0 := (if_pos c_1).trans rfl
    exact we_c hC hr hlocks (by first | rfl | decide | assumption | exact nar_char_i _) hf.symm rfl hW hS dX2_signAt_22
  · skip
    refine lv_iload_n hx hb dX2_signAt_4 rfl (lv_at hl 1 rfl) ?_
    refine lv_aload_n hx hb dX2_signAt_5 rfl (lv_at hl 0 rfl) ?_
    refine wr_get hC hinRX2 hW (vS (by decide)) ce_s6 rfl 1 (by decide) hk0 rfl dX2_signAt_6 ?_
    refine lv_icmp_ge (tgt := 21) hx hb dX2_signAt_9 (by decide) (fun c_2 => ?_) (fun c_2 => ?_)
    · skip
      refine lv_iconst (v := 0) hx hb dX2_signAt_21 (by decide) ?_
      have hf : fX2_signAt B a1 = 0 := (if_neg c_1).trans ((if_pos c_2).trans rfl)
      exact we_c hC hr hlocks (by first | rfl | decide | assumption | exact nar_char_i _) hf.symm rfl hW hS dX2_signAt_22
    · skip
      refine lv_iload_n hx hb dX2_signAt_12 rfl (lv_at hl 1 rfl) ?_
      refine lv_aload_n hx hb dX2_signAt_13 rfl (lv_at hl 0 rfl) ?_
      refine wr_get hC hinRX2 hW (vS (by decide)) ce_s6 rfl 0 (by decide) hk1 rfl dX2_signAt_14 ?_
      refine wr_alen (v := 80) hC hW (vS (by decide)) ce_s7 (ty := .char) rfl rfl dX2_signAt_17 ?_
      refine lv_icmp_lt (tgt := 23) hx hb dX2_signAt_18 (by decide) (fun c_3 => ?_) (fun c_3 => ?_)
      · skip
        refine lv_aload_n hx hb dX2_signAt_23 rfl (lv_at hl 0 rfl) ?_
        refine wr_get hC hinRX2 hW (vS (by decide)) ce_s6 rfl 0 (by decide) hk1 rfl dX2_signAt_24 ?_
        refine lv_iload_n hx hb dX2_signAt_27 rfl (lv_at hl 1 rfl) ?_
        have hv_4 : vp_in a1 80 := in_lt (N := 80) (by decide) (by decide) c_1 c_3
        refine wr_cald (kA := 2) hC hW (vS (by decide)) ce_s7 rfl hv_4 dX2_signAt_28 ?_
        have hf : fX2_signAt B a1 = vp_nar .char (B 7 a1.toNatClampNeg) := (if_neg c_1).trans ((if_neg c_2).trans ((if_pos c_3).trans rfl))
        exact we_c hC hr hlocks (by first | rfl | decide | assumption | exact nar_char_i _) hf.symm rfl hW hS dX2_signAt_29
      · skip
        refine lv_iconst (v := 0) hx hb dX2_signAt_21 (by decide) ?_
        have hf : fX2_signAt B a1 = 0 := (if_neg c_1).trans ((if_neg c_2).trans ((if_neg c_3).trans rfl))
        exact we_c hC hr hlocks (by first | rfl | decide | assumption | exact nar_char_i _) hf.symm rfl hW hS dX2_signAt_22
def fX4_begin (B : wB) : wB :=
  (bput B 5 0 0)
abbrev rX4_begin : Room := { frames := 0, cells := 0, slots := 0, locals := 0 }
set_option maxHeartbeats 4000000 in
set_option maxRecDepth 100000 in
theorem kX4_begin (l : Launch) (G : wG) (Z : wZ) (B : wB)   : mV l yX4_begin wsX4_begin rX4_begin G [.ref (G.2.2.1 11 5)] (wset Z 11 B) (wset Z 11 (fX4_begin B)) := by
  refine Met.ofW (cc := cX4_begin) (maxL := 1) (ret := none) (by decide) rfl ?_
  intro p e s m args below meth c s₁ B0 hml hv
  obtain ⟨rfl, hW, hK, hL⟩ := hv
  have hlocks := B0.notSynchronized
  have hr := B0.returns
  have hC : wX p s m c cX4_begin _ wsX4_begin RX4 G := ⟨B0.exec, B0.bytes, findClass_of_methodNamed B0.named, atoms_spec (ws := wsX4_begin) B0.pre, hK, hL⟩
  have hx := hC.1
  have hb := hC.2.1
  have hts := hC.2.2.2.1
  have hinRX4 : ∀ w ∈ wsX40, w ∈ wsX4_begin := by decide +kernel
  have hk0 := hts (.fieldLink RX4 18 "RampShafts$Reader" "at" "I") (by decide +kernel)
  have hS : va_S (wA G) s.heap s.heap [] := va_S.rf
  have hl := lv_entry ([.ref (G.2.2.1 11 5)]) (n := 1) (Nat.le_of_ble_eq_true rfl)
  rw [lg_entry_eq]
  generalize (lg_sl ([.ref (G.2.2.1 11 5)]) ++ List.replicate (1 - (lg_sl ([.ref (G.2.2.1 11 5)])).length) Slot.unset).toArray = ls at hl ⊢
  have hl : lv_has ls 1 [(0, .ref (G.2.2.1 11 5))] := hl
  refine lv_aload_n hx hb dX4_begin_0 rfl (lv_at hl 0 rfl) ?_
  refine lv_iconst (v := 0) hx hb dX4_begin_1 (by decide) ?_
  refine wr_put (Z' := wset Z 11 (bput B 5 0 0)) (v := .int 0) hC hinRX4 tyX4 tyX4_ok nmX4 hW hS (vS (by decide)) ce_s5 rfl 1 (by decide) hk0 rfl (tyX4_ok 1 (by decide)) rfl rfl (Nat.le_of_ble_eq_true rfl) wset_off pu_s5_0 dX4_begin_2 (fun H locs hW hS => ?_)
  have hf : fX4_begin B = (bput B 5 0 0) := rfl
  exact we_v hC hr hlocks (congrArg (wset Z 11) hf).symm hW hS dX4_begin_5
def fX4_takeDigit (B : wB) : wB × Int32 :=
  let x_1 := fX2_signAt B (B 5 0)
  if x_1 < 48 then (B, (-1))
  else if x_1 ≤ 57 then ((bput B 5 0 ((B 5 0) + 1)), x_1 - 48)
  else (B, (-1))
abbrev rX4_takeDigit : Room := { frames := 1, cells := 0, slots := 0, locals := 21 }
set_option maxHeartbeats 4000000 in
set_option maxRecDepth 100000 in
theorem kX4_takeDigit (l : Launch) (G : wG) (Z : wZ) (B : wB)   : mI l yX4_takeDigit wsX4_takeDigit rX4_takeDigit G [.ref (G.2.2.1 11 5)] (wset Z 11 B) (fX4_takeDigit B).2 (wset Z 11 (fX4_takeDigit B).1) := by
  refine Met.ofW (cc := cX4_takeDigit) (maxL := 2) (ret := (some .int)) (by decide) rfl ?_
  intro p e s m args below meth c s₁ B0 hml hv
  obtain ⟨rfl, hW, hK, hL⟩ := hv
  have hlocks := B0.notSynchronized
  have hr := B0.returns
  have hC : wX p s m c cX4_takeDigit _ wsX4_takeDigit RX4 G := ⟨B0.exec, B0.bytes, findClass_of_methodNamed B0.named, atoms_spec (ws := wsX4_takeDigit) B0.pre, hK, hL⟩
  have hx := hC.1
  have hb := hC.2.1
  have hts := hC.2.2.2.1
  have hinRX4 : ∀ w ∈ wsX40, w ∈ wsX4_takeDigit := by decide +kernel
  have hk0 := hts (.fieldLink RX4 12 "RampShafts$Reader" "pad" "LRampShafts$Pad;") (by decide +kernel)
  have hk1 := hts (.fieldLink RX4 18 "RampShafts$Reader" "at" "I") (by decide +kernel)
  have hS : va_S (wA G) s.heap s.heap [] := va_S.rf
  have hl := lv_entry ([.ref (G.2.2.1 11 5)]) (n := 2) (Nat.le_of_ble_eq_true rfl)
  rw [lg_entry_eq]
  generalize (lg_sl ([.ref (G.2.2.1 11 5)]) ++ List.replicate (2 - (lg_sl ([.ref (G.2.2.1 11 5)])).length) Slot.unset).toArray = ls at hl ⊢
  have hl : lv_has ls 2 [(0, .ref (G.2.2.1 11 5))] := hl
  refine lv_aload_n hx hb dX4_takeDigit_0 rfl (lv_at hl 0 rfl) ?_
  refine wr_get hC hinRX4 hW (vS (by decide)) ce_s5 rfl 0 (by decide) hk0 rfl dX4_takeDigit_1 ?_
  refine lv_aload_n hx hb dX4_takeDigit_4 rfl (lv_at hl 0 rfl) ?_
  refine wr_get hC hinRX4 hW (vS (by decide)) ce_s5 rfl 1 (by decide) hk1 rfl dX4_takeDigit_5 ?_
  refine wc_i hC hml (kX2_signAt l G Z B (B 5 0)) (cwV 1 hts gX4_takeDigit_X2_signAt rfl rfl rfl (by decide +kernel) ⟨Nat.le_of_ble_eq_true rfl, Nat.le_of_ble_eq_true rfl⟩) hW hS (vS (by decide)) ce_s6 rfl rfl rfl rfl hl.1 (Nat.le_of_ble_eq_true rfl) dX4_takeDigit_8 (fun H locs hW hS => ?_)
  refine lv_topi (fun x_1 ex_1 => ?_)
  refine lv_istore_n (lv' := [(1, .int x_1), (0, .ref (G.2.2.1 11 5))]) hx hb dX4_takeDigit_11 rfl hl (by decide) rfl (fun ls hl => ?_)
  refine lv_iload_n hx hb dX4_takeDigit_12 rfl (lv_at hl 0 rfl) ?_
  refine lv_bipush (v := 48) hx hb dX4_takeDigit_13 (by decide) ?_
  refine lv_icmp_lt (tgt := 24) hx hb dX4_takeDigit_15 (by decide) (fun c_2 => ?_) (fun c_2 => ?_)
  · skip
    refine lv_iconst (v := (-1)) hx hb dX4_takeDigit_24 (by decide) ?_
    have hf : fX4_takeDigit B = (B, (-1)) := by
      subst ex_1
      exact (if_pos c_2).trans rfl
    exact we_i hC hr hlocks (congrArg Prod.snd hf).symm (congrArg (fun u => wset Z 11 u.1) hf).symm hW hS dX4_takeDigit_25
  · skip
    refine lv_iload_n hx hb dX4_takeDigit_18 rfl (lv_at hl 0 rfl) ?_
    refine lv_bipush (v := 57) hx hb dX4_takeDigit_19 (by decide) ?_
    refine lv_icmp_le (tgt := 26) hx hb dX4_takeDigit_21 (by decide) (fun c_3 => ?_) (fun c_3 => ?_)
    · skip
      refine lv_aload_n hx hb dX4_takeDigit_26 rfl (lv_at hl 1 rfl) ?_
      refine lv_dup hx hb dX4_takeDigit_27 rfl ?_
      refine wr_get hC hinRX4 hW (vS (by decide)) ce_s5 rfl 1 (by decide) hk1 rfl dX4_takeDigit_28 ?_
      refine lv_iconst (v := 1) hx hb dX4_takeDigit_31 (by decide) ?_
      refine lv_iadd hx hb dX4_takeDigit_32 ?_
      refine wr_put (Z' := wset Z 11 (bput B 5 0 ((B 5 0) + 1))) (v := .int ((B 5 0) + 1)) hC hinRX4 tyX4 tyX4_ok nmX4 hW hS (vS (by decide)) ce_s5 rfl 1 (by decide) hk1 rfl (tyX4_ok 1 (by decide)) rfl rfl (Nat.le_of_ble_eq_true rfl) wset_off pu_s5_0 dX4_takeDigit_33 (fun H locs hW hS => ?_)
      refine lv_iload_n hx hb dX4_takeDigit_36 rfl (lv_at hl 0 rfl) ?_
      refine lv_bipush (v := 48) hx hb dX4_takeDigit_37 (by decide) ?_
      refine lv_isub hx hb dX4_takeDigit_39 ?_
      have hf : fX4_takeDigit B = ((bput B 5 0 ((B 5 0) + 1)), x_1 - 48) := by
        subst ex_1
        exact (if_neg c_2).trans ((if_pos c_3).trans rfl)
      exact we_i hC hr hlocks (congrArg Prod.snd hf).symm (congrArg (fun u => wset Z 11 u.1) hf).symm hW hS dX4_takeDigit_40
    · skip
      refine lv_iconst (v := (-1)) hx hb dX4_takeDigit_24 (by decide) ?_
      have hf : fX4_takeDigit B = (B, (-1)) := by
        subst ex_1
        exact (if_neg c_2).trans ((if_neg c_3).trans rfl)
      exact we_i hC hr hlocks (congrArg Prod.snd hf).symm (congrArg (fun u => wset Z 11 u.1) hf).symm hW hS dX4_takeDigit_25
def fX4_takeNumber (B : wB) : wB × Int32 :=
  let P_1 := fX4_takeDigit B
  let x_2 := P_1.2
  if 1 ≤ x_2 then (let P_5 := fX4_takeDigit P_1.1
    let x_6 := P_5.2
    if 0 ≤ x_6 then (let x_8 := (x_2 * 10) + x_6
      let P_10 := fX4_takeDigit P_5.1
      let x_11 := P_10.2
      if 0 ≤ x_11 then (let x_13 := (x_8 * 10) + x_11
        let P_15 := fX4_takeDigit P_10.1
        let x_16 := P_15.2
        if 0 ≤ x_16 then (let x_18 := (x_13 * 10) + x_16
          (P_15.1, x_18))
        else (P_15.1, x_13))
      else (P_10.1, x_8))
    else (P_5.1, x_2))
  else (P_1.1, x_2)
abbrev rX4_takeNumber : Room := { frames := 2, cells := 0, slots := 0, locals := 42 }
set_option maxHeartbeats 4000000 in
set_option maxRecDepth 100000 in
theorem kX4_takeNumber (l : Launch) (G : wG) (Z : wZ) (B : wB)   : mI l yX4_takeNumber wsX4_takeNumber rX4_takeNumber G [.ref (G.2.2.1 11 5)] (wset Z 11 B) (fX4_takeNumber B).2 (wset Z 11 (fX4_takeNumber B).1) := by
  refine Met.ofW (cc := cX4_takeNumber) (maxL := 4) (ret := (some .int)) (by decide) rfl ?_
  intro p e s m args below meth c s₁ B0 hml hv
  obtain ⟨rfl, hW, hK, hL⟩ := hv
  have hlocks := B0.notSynchronized
  have hr := B0.returns
  have hC : wX p s m c cX4_takeNumber _ wsX4_takeNumber RX4 G := ⟨B0.exec, B0.bytes, findClass_of_methodNamed B0.named, atoms_spec (ws := wsX4_takeNumber) B0.pre, hK, hL⟩
  have hx := hC.1
  have hb := hC.2.1
  have hts := hC.2.2.2.1
  have hS : va_S (wA G) s.heap s.heap [] := va_S.rf
  have hl := lv_entry ([.ref (G.2.2.1 11 5)]) (n := 4) (Nat.le_of_ble_eq_true rfl)
  rw [lg_entry_eq]
  generalize (lg_sl ([.ref (G.2.2.1 11 5)]) ++ List.replicate (4 - (lg_sl ([.ref (G.2.2.1 11 5)])).length) Slot.unset).toArray = ls at hl ⊢
  have hl : lv_has ls 4 [(0, .ref (G.2.2.1 11 5))] := hl
  refine lv_aload_n hx hb dX4_takeNumber_0 rfl (lv_at hl 0 rfl) ?_
  refine wc_i hC hml (kX4_takeDigit l G Z B) (cwV 0 hts gX4_takeNumber_X4_takeDigit rfl rfl rfl (by decide +kernel) ⟨Nat.le_of_ble_eq_true rfl, Nat.le_of_ble_eq_true rfl⟩) hW hS (vS (by decide)) ce_s5 rfl rfl rfl rfl hl.1 (Nat.le_of_ble_eq_true rfl) dX4_takeNumber_1 (fun H locs hW hS => ?_)
  obtain ⟨P_1, eP_1⟩ : ∃ y, y = fX4_takeDigit B := ⟨_, rfl⟩
  rw [← eP_1] at hW ⊢
  refine lv_topi (fun x_2 ex_2 => ?_)
  refine lv_istore_n (lv' := [(1, .int x_2), (0, .ref (G.2.2.1 11 5))]) hx hb dX4_takeNumber_4 rfl hl (by decide) rfl (fun ls hl => ?_)
  refine lv_iload_n hx hb dX4_takeNumber_5 rfl (lv_at hl 0 rfl) ?_
  refine lv_iconst (v := 1) hx hb dX4_takeNumber_6 (by decide) ?_
  refine lv_icmp_ge (tgt := 12) hx hb dX4_takeNumber_7 (by decide) (fun c_3 => ?_) (fun c_3 => ?_)
  · skip
    refine lv_iconst (v := 1) hx hb dX4_takeNumber_12 (by decide) ?_
    refine lv_istore_n (lv' := [(2, .int 1), (1, .int x_2), (0, .ref (G.2.2.1 11 5))]) hx hb dX4_takeNumber_13 rfl hl (by decide) rfl (fun ls hl => ?_)
    refine lv_iload_n hx hb dX4_takeNumber_14 rfl (lv_at hl 0 rfl) ?_
    refine lv_iconst (v := 4) hx hb dX4_takeNumber_15 (by decide) ?_
    refine lv_icmp_ge (tgt := 44) hx hb dX4_takeNumber_16 (by decide) (fun c_4 => ?_) (fun c_4 => ?_)
    · exact absurd c_4 (by decide)
    · skip
      refine lv_aload_n hx hb dX4_takeNumber_19 rfl (lv_at hl 2 rfl) ?_
      refine wc_i hC hml (kX4_takeDigit l G Z P_1.1) (cwV 0 hts gX4_takeNumber_X4_takeDigit rfl rfl rfl (by decide +kernel) ⟨Nat.le_of_ble_eq_true rfl, Nat.le_of_ble_eq_true rfl⟩) hW hS (vS (by decide)) ce_s5 rfl rfl rfl rfl hl.1 (Nat.le_of_ble_eq_true rfl) dX4_takeNumber_20 (fun H locs hW hS => ?_)
      obtain ⟨P_5, eP_5⟩ : ∃ y, y = fX4_takeDigit P_1.1 := ⟨_, rfl⟩
      rw [← eP_5] at hW ⊢
      refine lv_topi (fun x_6 ex_6 => ?_)
      refine lv_istore_n (lv' := [(3, .int x_6), (2, .int 1), (1, .int x_2), (0, .ref (G.2.2.1 11 5))]) hx hb dX4_takeNumber_23 rfl hl (by decide) rfl (fun ls hl => ?_)
      refine lv_iload_n hx hb dX4_takeNumber_24 rfl (lv_at hl 0 rfl) ?_
      refine lv_if_ge (tgt := 31) hx hb dX4_takeNumber_25 (by decide) (fun c_7 => ?_) (fun c_7 => ?_)
      · skip
        refine lv_iload_n hx hb dX4_takeNumber_31 rfl (lv_at hl 2 rfl) ?_
        refine lv_bipush (v := 10) hx hb dX4_takeNumber_32 (by decide) ?_
        refine lv_imul hx hb dX4_takeNumber_34 ?_
        refine lv_iload_n hx hb dX4_takeNumber_35 rfl (lv_at hl 0 rfl) ?_
        refine lv_iadd hx hb dX4_takeNumber_36 ?_
        refine lv_topi (fun x_8 ex_8 => ?_)
        refine lv_istore_n (lv' := [(1, .int x_8), (3, .int x_6), (2, .int 1), (0, .ref (G.2.2.1 11 5))]) hx hb dX4_takeNumber_37 rfl hl (by decide) rfl (fun ls hl => ?_)
        refine lv_iinc (v := 2) (lv' := [(2, .int 2), (1, .int x_8), (3, .int x_6), (0, .ref (G.2.2.1 11 5))]) hx hb dX4_takeNumber_38 hl (k := 2) rfl (by decide) (by decide) rfl (fun ls hl => ?_)
        refine lv_goto (tgt := 14) hx hb dX4_takeNumber_41 (by decide) ?_
        refine lv_iload_n hx hb dX4_takeNumber_14 rfl (lv_at hl 0 rfl) ?_
        refine lv_iconst (v := 4) hx hb dX4_takeNumber_15 (by decide) ?_
        refine lv_icmp_ge (tgt := 44) hx hb dX4_takeNumber_16 (by decide) (fun c_9 => ?_) (fun c_9 => ?_)
        · exact absurd c_9 (by decide)
        · skip
          refine lv_aload_n hx hb dX4_takeNumber_19 rfl (lv_at hl 3 rfl) ?_
          refine wc_i hC hml (kX4_takeDigit l G Z P_5.1) (cwV 0 hts gX4_takeNumber_X4_takeDigit rfl rfl rfl (by decide +kernel) ⟨Nat.le_of_ble_eq_true rfl, Nat.le_of_ble_eq_true rfl⟩) hW hS (vS (by decide)) ce_s5 rfl rfl rfl rfl hl.1 (Nat.le_of_ble_eq_true rfl) dX4_takeNumber_20 (fun H locs hW hS => ?_)
          obtain ⟨P_10, eP_10⟩ : ∃ y, y = fX4_takeDigit P_5.1 := ⟨_, rfl⟩
          rw [← eP_10] at hW ⊢
          refine lv_topi (fun x_11 ex_11 => ?_)
          refine lv_istore_n (lv' := [(3, .int x_11), (2, .int 2), (1, .int x_8), (0, .ref (G.2.2.1 11 5))]) hx hb dX4_takeNumber_23 rfl hl (by decide) rfl (fun ls hl => ?_)
          refine lv_iload_n hx hb dX4_takeNumber_24 rfl (lv_at hl 0 rfl) ?_
          refine lv_if_ge (tgt := 31) hx hb dX4_takeNumber_25 (by decide) (fun c_12 => ?_) (fun c_12 => ?_)
          · skip
            refine lv_iload_n hx hb dX4_takeNumber_31 rfl (lv_at hl 2 rfl) ?_
            refine lv_bipush (v := 10) hx hb dX4_takeNumber_32 (by decide) ?_
            refine lv_imul hx hb dX4_takeNumber_34 ?_
            refine lv_iload_n hx hb dX4_takeNumber_35 rfl (lv_at hl 0 rfl) ?_
            refine lv_iadd hx hb dX4_takeNumber_36 ?_
            refine lv_topi (fun x_13 ex_13 => ?_)
            refine lv_istore_n (lv' := [(1, .int x_13), (3, .int x_11), (2, .int 2), (0, .ref (G.2.2.1 11 5))]) hx hb dX4_takeNumber_37 rfl hl (by decide) rfl (fun ls hl => ?_)
            refine lv_iinc (v := 3) (lv' := [(2, .int 3), (1, .int x_13), (3, .int x_11), (0, .ref (G.2.2.1 11 5))]) hx hb dX4_takeNumber_38 hl (k := 2) rfl (by decide) (by decide) rfl (fun ls hl => ?_)
            refine lv_goto (tgt := 14) hx hb dX4_takeNumber_41 (by decide) ?_
            refine lv_iload_n hx hb dX4_takeNumber_14 rfl (lv_at hl 0 rfl) ?_
            refine lv_iconst (v := 4) hx hb dX4_takeNumber_15 (by decide) ?_
            refine lv_icmp_ge (tgt := 44) hx hb dX4_takeNumber_16 (by decide) (fun c_14 => ?_) (fun c_14 => ?_)
            · exact absurd c_14 (by decide)
            · skip
              refine lv_aload_n hx hb dX4_takeNumber_19 rfl (lv_at hl 3 rfl) ?_
              refine wc_i hC hml (kX4_takeDigit l G Z P_10.1) (cwV 0 hts gX4_takeNumber_X4_takeDigit rfl rfl rfl (by decide +kernel) ⟨Nat.le_of_ble_eq_true rfl, Nat.le_of_ble_eq_true rfl⟩) hW hS (vS (by decide)) ce_s5 rfl rfl rfl rfl hl.1 (Nat.le_of_ble_eq_true rfl) dX4_takeNumber_20 (fun H locs hW hS => ?_)
              obtain ⟨P_15, eP_15⟩ : ∃ y, y = fX4_takeDigit P_10.1 := ⟨_, rfl⟩
              rw [← eP_15] at hW ⊢
              refine lv_topi (fun x_16 ex_16 => ?_)
              refine lv_istore_n (lv' := [(3, .int x_16), (2, .int 3), (1, .int x_13), (0, .ref (G.2.2.1 11 5))]) hx hb dX4_takeNumber_23 rfl hl (by decide) rfl (fun ls hl => ?_)
              refine lv_iload_n hx hb dX4_takeNumber_24 rfl (lv_at hl 0 rfl) ?_
              refine lv_if_ge (tgt := 31) hx hb dX4_takeNumber_25 (by decide) (fun c_17 => ?_) (fun c_17 => ?_)
              · skip
                refine lv_iload_n hx hb dX4_takeNumber_31 rfl (lv_at hl 2 rfl) ?_
                refine lv_bipush (v := 10) hx hb dX4_takeNumber_32 (by decide) ?_
                refine lv_imul hx hb dX4_takeNumber_34 ?_
                refine lv_iload_n hx hb dX4_takeNumber_35 rfl (lv_at hl 0 rfl) ?_
                refine lv_iadd hx hb dX4_takeNumber_36 ?_
                refine lv_topi (fun x_18 ex_18 => ?_)
                refine lv_istore_n (lv' := [(1, .int x_18), (3, .int x_16), (2, .int 3), (0, .ref (G.2.2.1 11 5))]) hx hb dX4_takeNumber_37 rfl hl (by decide) rfl (fun ls hl => ?_)
                refine lv_iinc (v := 4) (lv' := [(2, .int 4), (1, .int x_18), (3, .int x_16), (0, .ref (G.2.2.1 11 5))]) hx hb dX4_takeNumber_38 hl (k := 2) rfl (by decide) (by decide) rfl (fun ls hl => ?_)
                refine lv_goto (tgt := 14) hx hb dX4_takeNumber_41 (by decide) ?_
                refine lv_iload_n hx hb dX4_takeNumber_14 rfl (lv_at hl 0 rfl) ?_
                refine lv_iconst (v := 4) hx hb dX4_takeNumber_15 (by decide) ?_
                refine lv_icmp_ge (tgt := 44) hx hb dX4_takeNumber_16 (by decide) (fun c_19 => ?_) (fun c_19 => ?_)
                · skip
                  refine lv_iload_n hx hb dX4_takeNumber_44 rfl (lv_at hl 1 rfl) ?_
                  have hf : fX4_takeNumber B = (P_15.1, x_18) := by
                    subst ex_18
                    subst ex_16
                    subst eP_15
                    subst ex_13
                    subst ex_11
                    subst eP_10
                    subst ex_8
                    subst ex_6
                    subst eP_5
                    subst ex_2
                    subst eP_1
                    exact (if_pos c_3).trans ((if_pos c_7).trans ((if_pos c_12).trans ((if_pos c_17).trans rfl)))
                  exact we_i hC hr hlocks (congrArg Prod.snd hf).symm (congrArg (fun u => wset Z 11 u.1) hf).symm hW hS dX4_takeNumber_45
                · exact absurd c_19 (by decide)
              · skip
                refine lv_goto (tgt := 44) hx hb dX4_takeNumber_28 (by decide) ?_
                refine lv_iload_n hx hb dX4_takeNumber_44 rfl (lv_at hl 2 rfl) ?_
                have hf : fX4_takeNumber B = (P_15.1, x_13) := by
                  subst ex_16
                  subst eP_15
                  subst ex_13
                  subst ex_11
                  subst eP_10
                  subst ex_8
                  subst ex_6
                  subst eP_5
                  subst ex_2
                  subst eP_1
                  exact (if_pos c_3).trans ((if_pos c_7).trans ((if_pos c_12).trans ((if_neg c_17).trans rfl)))
                exact we_i hC hr hlocks (congrArg Prod.snd hf).symm (congrArg (fun u => wset Z 11 u.1) hf).symm hW hS dX4_takeNumber_45
          · skip
            refine lv_goto (tgt := 44) hx hb dX4_takeNumber_28 (by decide) ?_
            refine lv_iload_n hx hb dX4_takeNumber_44 rfl (lv_at hl 2 rfl) ?_
            have hf : fX4_takeNumber B = (P_10.1, x_8) := by
              subst ex_11
              subst eP_10
              subst ex_8
              subst ex_6
              subst eP_5
              subst ex_2
              subst eP_1
              exact (if_pos c_3).trans ((if_pos c_7).trans ((if_neg c_12).trans rfl))
            exact we_i hC hr hlocks (congrArg Prod.snd hf).symm (congrArg (fun u => wset Z 11 u.1) hf).symm hW hS dX4_takeNumber_45
      · skip
        refine lv_goto (tgt := 44) hx hb dX4_takeNumber_28 (by decide) ?_
        refine lv_iload_n hx hb dX4_takeNumber_44 rfl (lv_at hl 2 rfl) ?_
        have hf : fX4_takeNumber B = (P_5.1, x_2) := by
          subst ex_6
          subst eP_5
          subst ex_2
          subst eP_1
          exact (if_pos c_3).trans ((if_neg c_7).trans rfl)
        exact we_i hC hr hlocks (congrArg Prod.snd hf).symm (congrArg (fun u => wset Z 11 u.1) hf).symm hW hS dX4_takeNumber_45
  · skip
    refine lv_iload_n hx hb dX4_takeNumber_10 rfl (lv_at hl 0 rfl) ?_
    have hf : fX4_takeNumber B = (P_1.1, x_2) := by
      subst ex_2
      subst eP_1
      exact (if_neg c_3).trans rfl
    exact we_i hC hr hlocks (congrArg Prod.snd hf).symm (congrArg (fun u => wset Z 11 u.1) hf).symm hW hS dX4_takeNumber_11
def fX4_skip (B : wB) (a1 : Int32) : wB × Int32 :=
  let x_1 := fX2_signAt B (B 5 0)
  if x_1 = a1 then ((bput B 5 0 ((B 5 0) + 1)), 1)
  else (B, 0)
abbrev rX4_skip : Room := { frames := 1, cells := 0, slots := 0, locals := 21 }
set_option maxHeartbeats 4000000 in
set_option maxRecDepth 100000 in
theorem kX4_skip (l : Launch) (G : wG) (Z : wZ) (B : wB) (a1 : Int32)  : mI l yX4_skip wsX4_skip rX4_skip G [.ref (G.2.2.1 11 5), .int a1] (wset Z 11 B) (fX4_skip B a1).2 (wset Z 11 (fX4_skip B a1).1) := by
  refine Met.ofW (cc := cX4_skip) (maxL := 2) (ret := (some .boolean)) (by decide) rfl ?_
  intro p e s m args below meth c s₁ B0 hml hv
  obtain ⟨rfl, hW, hK, hL⟩ := hv
  have hlocks := B0.notSynchronized
  have hr := B0.returns
  have hC : wX p s m c cX4_skip _ wsX4_skip RX4 G := ⟨B0.exec, B0.bytes, findClass_of_methodNamed B0.named, atoms_spec (ws := wsX4_skip) B0.pre, hK, hL⟩
  have hx := hC.1
  have hb := hC.2.1
  have hts := hC.2.2.2.1
  have hinRX4 : ∀ w ∈ wsX40, w ∈ wsX4_skip := by decide +kernel
  have hk0 := hts (.fieldLink RX4 12 "RampShafts$Reader" "pad" "LRampShafts$Pad;") (by decide +kernel)
  have hk1 := hts (.fieldLink RX4 18 "RampShafts$Reader" "at" "I") (by decide +kernel)
  have hS : va_S (wA G) s.heap s.heap [] := va_S.rf
  have hl := lv_entry ([.ref (G.2.2.1 11 5), .int a1]) (n := 2) (Nat.le_of_ble_eq_true rfl)
  rw [lg_entry_eq]
  generalize (lg_sl ([.ref (G.2.2.1 11 5), .int a1]) ++ List.replicate (2 - (lg_sl ([.ref (G.2.2.1 11 5), .int a1])).length) Slot.unset).toArray = ls at hl ⊢
  have hl : lv_has ls 2 [(0, .ref (G.2.2.1 11 5)), (1, .int a1)] := hl
  refine lv_aload_n hx hb dX4_skip_0 rfl (lv_at hl 0 rfl) ?_
  refine wr_get hC hinRX4 hW (vS (by decide)) ce_s5 rfl 0 (by decide) hk0 rfl dX4_skip_1 ?_
  refine lv_aload_n hx hb dX4_skip_4 rfl (lv_at hl 0 rfl) ?_
  refine wr_get hC hinRX4 hW (vS (by decide)) ce_s5 rfl 1 (by decide) hk1 rfl dX4_skip_5 ?_
  refine wc_i hC hml (kX2_signAt l G Z B (B 5 0)) (cwV 1 hts gX4_skip_X2_signAt rfl rfl rfl (by decide +kernel) ⟨Nat.le_of_ble_eq_true rfl, Nat.le_of_ble_eq_true rfl⟩) hW hS (vS (by decide)) ce_s6 rfl rfl rfl rfl hl.1 (Nat.le_of_ble_eq_true rfl) dX4_skip_8 (fun H locs hW hS => ?_)
  refine lv_topi (fun x_1 ex_1 => ?_)
  refine lv_iload_n hx hb dX4_skip_11 rfl (lv_at hl 1 rfl) ?_
  refine lv_icmp_eq (tgt := 17) hx hb dX4_skip_12 (by decide) (fun c_2 => ?_) (fun c_2 => ?_)
  · skip
    refine lv_aload_n hx hb dX4_skip_17 rfl (lv_at hl 0 rfl) ?_
    refine lv_dup hx hb dX4_skip_18 rfl ?_
    refine wr_get hC hinRX4 hW (vS (by decide)) ce_s5 rfl 1 (by decide) hk1 rfl dX4_skip_19 ?_
    refine lv_iconst (v := 1) hx hb dX4_skip_22 (by decide) ?_
    refine lv_iadd hx hb dX4_skip_23 ?_
    refine wr_put (Z' := wset Z 11 (bput B 5 0 ((B 5 0) + 1))) (v := .int ((B 5 0) + 1)) hC hinRX4 tyX4 tyX4_ok nmX4 hW hS (vS (by decide)) ce_s5 rfl 1 (by decide) hk1 rfl (tyX4_ok 1 (by decide)) rfl rfl (Nat.le_of_ble_eq_true rfl) wset_off pu_s5_0 dX4_skip_24 (fun H locs hW hS => ?_)
    refine lv_iconst (v := 1) hx hb dX4_skip_27 (by decide) ?_
    have hf : fX4_skip B a1 = ((bput B 5 0 ((B 5 0) + 1)), 1) := by
      subst ex_1
      exact (if_pos c_2).trans rfl
    exact we_z hC hr hlocks (by first | rfl | decide | assumption | exact nar_char_i _) (congrArg Prod.snd hf).symm (congrArg (fun u => wset Z 11 u.1) hf).symm hW hS dX4_skip_28
  · skip
    refine lv_iconst (v := 0) hx hb dX4_skip_15 (by decide) ?_
    have hf : fX4_skip B a1 = (B, 0) := by
      subst ex_1
      exact (if_neg c_2).trans rfl
    exact we_z hC hr hlocks (by first | rfl | decide | assumption | exact nar_char_i _) (congrArg Prod.snd hf).symm (congrArg (fun u => wset Z 11 u.1) hf).symm hW hS dX4_skip_16
theorem nbX4_skip {B : wB} {a1 : Int32} : narrow .boolean (.int ((fX4_skip B a1).2)) = .int ((fX4_skip B a1).2) := (nb_ite nb_1 nb_0)
def fX4_readDigit (B : wB) : wB × Int32 :=
  let P_1 := fX4_takeDigit B
  if P_1.2 < 0 then ((bput P_1.1 5 3 P_1.2), 0)
  else ((bput P_1.1 5 3 P_1.2), 1)
abbrev rX4_readDigit : Room := { frames := 2, cells := 0, slots := 0, locals := 42 }
set_option maxHeartbeats 4000000 in
set_option maxRecDepth 100000 in
theorem kX4_readDigit (l : Launch) (G : wG) (Z : wZ) (B : wB)   : mI l yX4_readDigit wsX4_readDigit rX4_readDigit G [.ref (G.2.2.1 11 5)] (wset Z 11 B) (fX4_readDigit B).2 (wset Z 11 (fX4_readDigit B).1) := by
  refine Met.ofW (cc := cX4_readDigit) (maxL := 1) (ret := (some .boolean)) (by decide) rfl ?_
  intro p e s m args below meth c s₁ B0 hml hv
  obtain ⟨rfl, hW, hK, hL⟩ := hv
  have hlocks := B0.notSynchronized
  have hr := B0.returns
  have hC : wX p s m c cX4_readDigit _ wsX4_readDigit RX4 G := ⟨B0.exec, B0.bytes, findClass_of_methodNamed B0.named, atoms_spec (ws := wsX4_readDigit) B0.pre, hK, hL⟩
  have hx := hC.1
  have hb := hC.2.1
  have hts := hC.2.2.2.1
  have hinRX4 : ∀ w ∈ wsX40, w ∈ wsX4_readDigit := by decide +kernel
  have hk0 := hts (.fieldLink RX4 59 "RampShafts$Reader" "digit" "I") (by decide +kernel)
  have hS : va_S (wA G) s.heap s.heap [] := va_S.rf
  have hl := lv_entry ([.ref (G.2.2.1 11 5)]) (n := 1) (Nat.le_of_ble_eq_true rfl)
  rw [lg_entry_eq]
  generalize (lg_sl ([.ref (G.2.2.1 11 5)]) ++ List.replicate (1 - (lg_sl ([.ref (G.2.2.1 11 5)])).length) Slot.unset).toArray = ls at hl ⊢
  have hl : lv_has ls 1 [(0, .ref (G.2.2.1 11 5))] := hl
  refine lv_aload_n hx hb dX4_readDigit_0 rfl (lv_at hl 0 rfl) ?_
  refine lv_aload_n hx hb dX4_readDigit_1 rfl (lv_at hl 0 rfl) ?_
  refine wc_i hC hml (kX4_takeDigit l G Z B) (cwV 0 hts gX4_readDigit_X4_takeDigit rfl rfl rfl (by decide +kernel) ⟨Nat.le_of_ble_eq_true rfl, Nat.le_of_ble_eq_true rfl⟩) hW hS (vS (by decide)) ce_s5 rfl rfl rfl rfl hl.1 (Nat.le_of_ble_eq_true rfl) dX4_readDigit_2 (fun H locs hW hS => ?_)
  obtain ⟨P_1, eP_1⟩ : ∃ y, y = fX4_takeDigit B := ⟨_, rfl⟩
  rw [← eP_1] at hW ⊢
  refine wr_put (Z' := wset Z 11 (bput P_1.1 5 3 P_1.2)) (v := .int P_1.2) hC hinRX4 tyX4 tyX4_ok nmX4 hW hS (vS (by decide)) ce_s5 rfl 4 (by decide) hk0 rfl (tyX4_ok 4 (by decide)) rfl rfl (Nat.le_of_ble_eq_true rfl) wset_off pu_s5_3 dX4_readDigit_5 (fun H locs hW hS => ?_)
  refine lv_aload_n hx hb dX4_readDigit_8 rfl (lv_at hl 0 rfl) ?_
  refine wr_get hC hinRX4 hW (vS (by decide)) ce_s5 rfl 4 (by decide) hk0 rfl dX4_readDigit_9 ?_
  refine lv_re (y := P_1.2) (bput_h) ?_
  refine lv_if_lt (tgt := 19) hx hb dX4_readDigit_12 (by decide) (fun c_2 => ?_) (fun c_2 => ?_)
  · skip
    refine lv_iconst (v := 0) hx hb dX4_readDigit_19 (by decide) ?_
    have hf : fX4_readDigit B = ((bput P_1.1 5 3 P_1.2), 0) := by
      subst eP_1
      exact (if_pos c_2).trans rfl
    exact we_z hC hr hlocks (by first | rfl | decide | assumption | exact nar_char_i _) (congrArg Prod.snd hf).symm (congrArg (fun u => wset Z 11 u.1) hf).symm hW hS dX4_readDigit_20
  · skip
    refine lv_iconst (v := 1) hx hb dX4_readDigit_15 (by decide) ?_
    refine lv_goto (tgt := 20) hx hb dX4_readDigit_16 (by decide) ?_
    have hf : fX4_readDigit B = ((bput P_1.1 5 3 P_1.2), 1) := by
      subst eP_1
      exact (if_neg c_2).trans rfl
    exact we_z hC hr hlocks (by first | rfl | decide | assumption | exact nar_char_i _) (congrArg Prod.snd hf).symm (congrArg (fun u => wset Z 11 u.1) hf).symm hW hS dX4_readDigit_20
theorem nbX4_readDigit {B : wB} : narrow .boolean (.int ((fX4_readDigit B).2)) = .int ((fX4_readDigit B).2) := (nb_ite nb_0 nb_1)
def fX4_readLoad (B : wB) : wB × Int32 :=
  let P_1 := fX4_takeDigit B
  if P_1.2 < 0 then ((bput P_1.1 5 4 P_1.2), 0)
  else ((bput P_1.1 5 4 P_1.2), 1)
abbrev rX4_readLoad : Room := { frames := 2, cells := 0, slots := 0, locals := 42 }
set_option maxHeartbeats 4000000 in
set_option maxRecDepth 100000 in
theorem kX4_readLoad (l : Launch) (G : wG) (Z : wZ) (B : wB)   : mI l yX4_readLoad wsX4_readLoad rX4_readLoad G [.ref (G.2.2.1 11 5)] (wset Z 11 B) (fX4_readLoad B).2 (wset Z 11 (fX4_readLoad B).1) := by
  refine Met.ofW (cc := cX4_readLoad) (maxL := 1) (ret := (some .boolean)) (by decide) rfl ?_
  intro p e s m args below meth c s₁ B0 hml hv
  obtain ⟨rfl, hW, hK, hL⟩ := hv
  have hlocks := B0.notSynchronized
  have hr := B0.returns
  have hC : wX p s m c cX4_readLoad _ wsX4_readLoad RX4 G := ⟨B0.exec, B0.bytes, findClass_of_methodNamed B0.named, atoms_spec (ws := wsX4_readLoad) B0.pre, hK, hL⟩
  have hx := hC.1
  have hb := hC.2.1
  have hts := hC.2.2.2.1
  have hinRX4 : ∀ w ∈ wsX40, w ∈ wsX4_readLoad := by decide +kernel
  have hk0 := hts (.fieldLink RX4 62 "RampShafts$Reader" "value" "I") (by decide +kernel)
  have hS : va_S (wA G) s.heap s.heap [] := va_S.rf
  have hl := lv_entry ([.ref (G.2.2.1 11 5)]) (n := 1) (Nat.le_of_ble_eq_true rfl)
  rw [lg_entry_eq]
  generalize (lg_sl ([.ref (G.2.2.1 11 5)]) ++ List.replicate (1 - (lg_sl ([.ref (G.2.2.1 11 5)])).length) Slot.unset).toArray = ls at hl ⊢
  have hl : lv_has ls 1 [(0, .ref (G.2.2.1 11 5))] := hl
  refine lv_aload_n hx hb dX4_readLoad_0 rfl (lv_at hl 0 rfl) ?_
  refine lv_aload_n hx hb dX4_readLoad_1 rfl (lv_at hl 0 rfl) ?_
  refine wc_i hC hml (kX4_takeDigit l G Z B) (cwV 0 hts gX4_readLoad_X4_takeDigit rfl rfl rfl (by decide +kernel) ⟨Nat.le_of_ble_eq_true rfl, Nat.le_of_ble_eq_true rfl⟩) hW hS (vS (by decide)) ce_s5 rfl rfl rfl rfl hl.1 (Nat.le_of_ble_eq_true rfl) dX4_readLoad_2 (fun H locs hW hS => ?_)
  obtain ⟨P_1, eP_1⟩ : ∃ y, y = fX4_takeDigit B := ⟨_, rfl⟩
  rw [← eP_1] at hW ⊢
  refine wr_put (Z' := wset Z 11 (bput P_1.1 5 4 P_1.2)) (v := .int P_1.2) hC hinRX4 tyX4 tyX4_ok nmX4 hW hS (vS (by decide)) ce_s5 rfl 5 (by decide) hk0 rfl (tyX4_ok 5 (by decide)) rfl rfl (Nat.le_of_ble_eq_true rfl) wset_off pu_s5_4 dX4_readLoad_5 (fun H locs hW hS => ?_)
  refine lv_aload_n hx hb dX4_readLoad_8 rfl (lv_at hl 0 rfl) ?_
  refine wr_get hC hinRX4 hW (vS (by decide)) ce_s5 rfl 5 (by decide) hk0 rfl dX4_readLoad_9 ?_
  refine lv_re (y := P_1.2) (bput_h) ?_
  refine lv_if_lt (tgt := 19) hx hb dX4_readLoad_12 (by decide) (fun c_2 => ?_) (fun c_2 => ?_)
  · skip
    refine lv_iconst (v := 0) hx hb dX4_readLoad_19 (by decide) ?_
    have hf : fX4_readLoad B = ((bput P_1.1 5 4 P_1.2), 0) := by
      subst eP_1
      exact (if_pos c_2).trans rfl
    exact we_z hC hr hlocks (by first | rfl | decide | assumption | exact nar_char_i _) (congrArg Prod.snd hf).symm (congrArg (fun u => wset Z 11 u.1) hf).symm hW hS dX4_readLoad_20
  · skip
    refine lv_iconst (v := 1) hx hb dX4_readLoad_15 (by decide) ?_
    refine lv_goto (tgt := 20) hx hb dX4_readLoad_16 (by decide) ?_
    have hf : fX4_readLoad B = ((bput P_1.1 5 4 P_1.2), 1) := by
      subst eP_1
      exact (if_neg c_2).trans rfl
    exact we_z hC hr hlocks (by first | rfl | decide | assumption | exact nar_char_i _) (congrArg Prod.snd hf).symm (congrArg (fun u => wset Z 11 u.1) hf).symm hW hS dX4_readLoad_20
theorem nbX4_readLoad {B : wB} : narrow .boolean (.int ((fX4_readLoad B).2)) = .int ((fX4_readLoad B).2) := (nb_ite nb_0 nb_1)
def fX4_readNumber (B : wB) : wB × Int32 :=
  let P_1 := fX4_takeNumber B
  if P_1.2 < 0 then ((bput P_1.1 5 2 P_1.2), 0)
  else ((bput P_1.1 5 2 P_1.2), 1)
abbrev rX4_readNumber : Room := { frames := 3, cells := 0, slots := 0, locals := 65 }
set_option maxHeartbeats 4000000 in
set_option maxRecDepth 100000 in
theorem kX4_readNumber (l : Launch) (G : wG) (Z : wZ) (B : wB)   : mI l yX4_readNumber wsX4_readNumber rX4_readNumber G [.ref (G.2.2.1 11 5)] (wset Z 11 B) (fX4_readNumber B).2 (wset Z 11 (fX4_readNumber B).1) := by
  refine Met.ofW (cc := cX4_readNumber) (maxL := 1) (ret := (some .boolean)) (by decide) rfl ?_
  intro p e s m args below meth c s₁ B0 hml hv
  obtain ⟨rfl, hW, hK, hL⟩ := hv
  have hlocks := B0.notSynchronized
  have hr := B0.returns
  have hC : wX p s m c cX4_readNumber _ wsX4_readNumber RX4 G := ⟨B0.exec, B0.bytes, findClass_of_methodNamed B0.named, atoms_spec (ws := wsX4_readNumber) B0.pre, hK, hL⟩
  have hx := hC.1
  have hb := hC.2.1
  have hts := hC.2.2.2.1
  have hinRX4 : ∀ w ∈ wsX40, w ∈ wsX4_readNumber := by decide +kernel
  have hk0 := hts (.fieldLink RX4 68 "RampShafts$Reader" "number" "I") (by decide +kernel)
  have hS : va_S (wA G) s.heap s.heap [] := va_S.rf
  have hl := lv_entry ([.ref (G.2.2.1 11 5)]) (n := 1) (Nat.le_of_ble_eq_true rfl)
  rw [lg_entry_eq]
  generalize (lg_sl ([.ref (G.2.2.1 11 5)]) ++ List.replicate (1 - (lg_sl ([.ref (G.2.2.1 11 5)])).length) Slot.unset).toArray = ls at hl ⊢
  have hl : lv_has ls 1 [(0, .ref (G.2.2.1 11 5))] := hl
  refine lv_aload_n hx hb dX4_readNumber_0 rfl (lv_at hl 0 rfl) ?_
  refine lv_aload_n hx hb dX4_readNumber_1 rfl (lv_at hl 0 rfl) ?_
  refine wc_i hC hml (kX4_takeNumber l G Z B) (cwV 0 hts gX4_readNumber_X4_takeNumber rfl rfl rfl (by decide +kernel) ⟨Nat.le_of_ble_eq_true rfl, Nat.le_of_ble_eq_true rfl⟩) hW hS (vS (by decide)) ce_s5 rfl rfl rfl rfl hl.1 (Nat.le_of_ble_eq_true rfl) dX4_readNumber_2 (fun H locs hW hS => ?_)
  obtain ⟨P_1, eP_1⟩ : ∃ y, y = fX4_takeNumber B := ⟨_, rfl⟩
  rw [← eP_1] at hW ⊢
  refine wr_put (Z' := wset Z 11 (bput P_1.1 5 2 P_1.2)) (v := .int P_1.2) hC hinRX4 tyX4 tyX4_ok nmX4 hW hS (vS (by decide)) ce_s5 rfl 3 (by decide) hk0 rfl (tyX4_ok 3 (by decide)) rfl rfl (Nat.le_of_ble_eq_true rfl) wset_off pu_s5_2 dX4_readNumber_5 (fun H locs hW hS => ?_)
  refine lv_aload_n hx hb dX4_readNumber_8 rfl (lv_at hl 0 rfl) ?_
  refine wr_get hC hinRX4 hW (vS (by decide)) ce_s5 rfl 3 (by decide) hk0 rfl dX4_readNumber_9 ?_
  refine lv_re (y := P_1.2) (bput_h) ?_
  refine lv_if_lt (tgt := 19) hx hb dX4_readNumber_12 (by decide) (fun c_2 => ?_) (fun c_2 => ?_)
  · skip
    refine lv_iconst (v := 0) hx hb dX4_readNumber_19 (by decide) ?_
    have hf : fX4_readNumber B = ((bput P_1.1 5 2 P_1.2), 0) := by
      subst eP_1
      exact (if_pos c_2).trans rfl
    exact we_z hC hr hlocks (by first | rfl | decide | assumption | exact nar_char_i _) (congrArg Prod.snd hf).symm (congrArg (fun u => wset Z 11 u.1) hf).symm hW hS dX4_readNumber_20
  · skip
    refine lv_iconst (v := 1) hx hb dX4_readNumber_15 (by decide) ?_
    refine lv_goto (tgt := 20) hx hb dX4_readNumber_16 (by decide) ?_
    have hf : fX4_readNumber B = ((bput P_1.1 5 2 P_1.2), 1) := by
      subst eP_1
      exact (if_neg c_2).trans rfl
    exact we_z hC hr hlocks (by first | rfl | decide | assumption | exact nar_char_i _) (congrArg Prod.snd hf).symm (congrArg (fun u => wset Z 11 u.1) hf).symm hW hS dX4_readNumber_20
theorem nbX4_readNumber {B : wB} : narrow .boolean (.int ((fX4_readNumber B).2)) = .int ((fX4_readNumber B).2) := (nb_ite nb_0 nb_1)
def fX4_readPlace (B : wB) : wB × Int32 :=
  let P_1 := fX4_skip B 45
  let x_2 := P_1.2
  let P_3 := fX4_takeNumber P_1.1
  let x_4 := P_3.2
  if x_2 = 0 then (if x_4 < 0 then ((bput P_3.1 5 4 x_4), 0)
    else ((bput P_3.1 5 4 x_4), 1))
  else if x_4 < 0 then ((bput P_3.1 5 4 (-x_4)), 0)
  else ((bput P_3.1 5 4 (-x_4)), 1)
abbrev rX4_readPlace : Room := { frames := 3, cells := 0, slots := 0, locals := 65 }
set_option maxHeartbeats 4000000 in
set_option maxRecDepth 100000 in
theorem kX4_readPlace (l : Launch) (G : wG) (Z : wZ) (B : wB)   : mI l yX4_readPlace wsX4_readPlace rX4_readPlace G [.ref (G.2.2.1 11 5)] (wset Z 11 B) (fX4_readPlace B).2 (wset Z 11 (fX4_readPlace B).1) := by
  refine Met.ofW (cc := cX4_readPlace) (maxL := 3) (ret := (some .boolean)) (by decide) rfl ?_
  intro p e s m args below meth c s₁ B0 hml hv
  obtain ⟨rfl, hW, hK, hL⟩ := hv
  have hlocks := B0.notSynchronized
  have hr := B0.returns
  have hC : wX p s m c cX4_readPlace _ wsX4_readPlace RX4 G := ⟨B0.exec, B0.bytes, findClass_of_methodNamed B0.named, atoms_spec (ws := wsX4_readPlace) B0.pre, hK, hL⟩
  have hx := hC.1
  have hb := hC.2.1
  have hts := hC.2.2.2.1
  have hinRX4 : ∀ w ∈ wsX40, w ∈ wsX4_readPlace := by decide +kernel
  have hk0 := hts (.fieldLink RX4 62 "RampShafts$Reader" "value" "I") (by decide +kernel)
  have hS : va_S (wA G) s.heap s.heap [] := va_S.rf
  have hl := lv_entry ([.ref (G.2.2.1 11 5)]) (n := 3) (Nat.le_of_ble_eq_true rfl)
  rw [lg_entry_eq]
  generalize (lg_sl ([.ref (G.2.2.1 11 5)]) ++ List.replicate (3 - (lg_sl ([.ref (G.2.2.1 11 5)])).length) Slot.unset).toArray = ls at hl ⊢
  have hl : lv_has ls 3 [(0, .ref (G.2.2.1 11 5))] := hl
  refine lv_aload_n hx hb dX4_readPlace_0 rfl (lv_at hl 0 rfl) ?_
  refine lv_bipush (v := 45) hx hb dX4_readPlace_1 (by decide) ?_
  refine wc_i hC hml (kX4_skip l G Z B 45) (cwV 1 hts gX4_readPlace_X4_skip rfl rfl rfl (by decide +kernel) ⟨Nat.le_of_ble_eq_true rfl, Nat.le_of_ble_eq_true rfl⟩) hW hS (vS (by decide)) ce_s5 rfl rfl rfl rfl hl.1 (Nat.le_of_ble_eq_true rfl) dX4_readPlace_3 (fun H locs hW hS => ?_)
  obtain ⟨P_1, eP_1⟩ : ∃ y, y = fX4_skip B 45 := ⟨_, rfl⟩
  rw [← eP_1] at hW ⊢
  refine lv_topi (fun x_2 ex_2 => ?_)
  refine lv_istore_n (lv' := [(1, .int x_2), (0, .ref (G.2.2.1 11 5))]) hx hb dX4_readPlace_6 rfl hl (by decide) rfl (fun ls hl => ?_)
  refine lv_aload_n hx hb dX4_readPlace_7 rfl (lv_at hl 1 rfl) ?_
  refine wc_i hC hml (kX4_takeNumber l G Z P_1.1) (cwV 0 hts gX4_readPlace_X4_takeNumber rfl rfl rfl (by decide +kernel) ⟨Nat.le_of_ble_eq_true rfl, Nat.le_of_ble_eq_true rfl⟩) hW hS (vS (by decide)) ce_s5 rfl rfl rfl rfl hl.1 (Nat.le_of_ble_eq_true rfl) dX4_readPlace_8 (fun H locs hW hS => ?_)
  obtain ⟨P_3, eP_3⟩ : ∃ y, y = fX4_takeNumber P_1.1 := ⟨_, rfl⟩
  rw [← eP_3] at hW ⊢
  refine lv_topi (fun x_4 ex_4 => ?_)
  refine lv_istore_n (lv' := [(2, .int x_4), (1, .int x_2), (0, .ref (G.2.2.1 11 5))]) hx hb dX4_readPlace_11 rfl hl (by decide) rfl (fun ls hl => ?_)
  refine lv_aload_n hx hb dX4_readPlace_12 rfl (lv_at hl 2 rfl) ?_
  refine lv_iload_n hx hb dX4_readPlace_13 rfl (lv_at hl 1 rfl) ?_
  refine lv_if_eq (tgt := 22) hx hb dX4_readPlace_14 (by decide) (fun c_5 => ?_) (fun c_5 => ?_)
  · skip
    refine lv_iload_n hx hb dX4_readPlace_22 rfl (lv_at hl 0 rfl) ?_
    refine wr_put (Z' := wset Z 11 (bput P_3.1 5 4 x_4)) (v := .int x_4) hC hinRX4 tyX4 tyX4_ok nmX4 hW hS (vS (by decide)) ce_s5 rfl 5 (by decide) hk0 rfl (tyX4_ok 5 (by decide)) rfl rfl (Nat.le_of_ble_eq_true rfl) wset_off pu_s5_4 dX4_readPlace_23 (fun H locs hW hS => ?_)
    refine lv_iload_n hx hb dX4_readPlace_26 rfl (lv_at hl 0 rfl) ?_
    refine lv_if_lt (tgt := 34) hx hb dX4_readPlace_27 (by decide) (fun c_6 => ?_) (fun c_6 => ?_)
    · skip
      refine lv_iconst (v := 0) hx hb dX4_readPlace_34 (by decide) ?_
      have hf : fX4_readPlace B = ((bput P_3.1 5 4 x_4), 0) := by
        subst ex_4
        subst eP_3
        subst ex_2
        subst eP_1
        exact (if_pos c_5).trans ((if_pos c_6).trans rfl)
      exact we_z hC hr hlocks (by first | rfl | decide | assumption | exact nar_char_i _) (congrArg Prod.snd hf).symm (congrArg (fun u => wset Z 11 u.1) hf).symm hW hS dX4_readPlace_35
    · skip
      refine lv_iconst (v := 1) hx hb dX4_readPlace_30 (by decide) ?_
      refine lv_goto (tgt := 35) hx hb dX4_readPlace_31 (by decide) ?_
      have hf : fX4_readPlace B = ((bput P_3.1 5 4 x_4), 1) := by
        subst ex_4
        subst eP_3
        subst ex_2
        subst eP_1
        exact (if_pos c_5).trans ((if_neg c_6).trans rfl)
      exact we_z hC hr hlocks (by first | rfl | decide | assumption | exact nar_char_i _) (congrArg Prod.snd hf).symm (congrArg (fun u => wset Z 11 u.1) hf).symm hW hS dX4_readPlace_35
  · skip
    refine lv_iload_n hx hb dX4_readPlace_17 rfl (lv_at hl 0 rfl) ?_
    refine lv_ineg hx hb dX4_readPlace_18 ?_
    refine lv_goto (tgt := 23) hx hb dX4_readPlace_19 (by decide) ?_
    refine wr_put (Z' := wset Z 11 (bput P_3.1 5 4 (-x_4))) (v := .int (-x_4)) hC hinRX4 tyX4 tyX4_ok nmX4 hW hS (vS (by decide)) ce_s5 rfl 5 (by decide) hk0 rfl (tyX4_ok 5 (by decide)) rfl rfl (Nat.le_of_ble_eq_true rfl) wset_off pu_s5_4 dX4_readPlace_23 (fun H locs hW hS => ?_)
    refine lv_iload_n hx hb dX4_readPlace_26 rfl (lv_at hl 0 rfl) ?_
    refine lv_if_lt (tgt := 34) hx hb dX4_readPlace_27 (by decide) (fun c_7 => ?_) (fun c_7 => ?_)
    · skip
      refine lv_iconst (v := 0) hx hb dX4_readPlace_34 (by decide) ?_
      have hf : fX4_readPlace B = ((bput P_3.1 5 4 (-x_4)), 0) := by
        subst ex_4
        subst eP_3
        subst ex_2
        subst eP_1
        exact (if_neg c_5).trans ((if_pos c_7).trans rfl)
      exact we_z hC hr hlocks (by first | rfl | decide | assumption | exact nar_char_i _) (congrArg Prod.snd hf).symm (congrArg (fun u => wset Z 11 u.1) hf).symm hW hS dX4_readPlace_35
    · skip
      refine lv_iconst (v := 1) hx hb dX4_readPlace_30 (by decide) ?_
      refine lv_goto (tgt := 35) hx hb dX4_readPlace_31 (by decide) ?_
      have hf : fX4_readPlace B = ((bput P_3.1 5 4 (-x_4)), 1) := by
        subst ex_4
        subst eP_3
        subst ex_2
        subst eP_1
        exact (if_neg c_5).trans ((if_neg c_7).trans rfl)
      exact we_z hC hr hlocks (by first | rfl | decide | assumption | exact nar_char_i _) (congrArg Prod.snd hf).symm (congrArg (fun u => wset Z 11 u.1) hf).symm hW hS dX4_readPlace_35
theorem nbX4_readPlace {B : wB} : narrow .boolean (.int ((fX4_readPlace B).2)) = .int ((fX4_readPlace B).2) := (nb_ite (nb_ite nb_0 nb_1) (nb_ite nb_0 nb_1))

theorem in_lt {x y : Int32} {N M : Nat} (hy : y.toInt = N) (hM : N ≤ M) (h0 : ¬ x < 0) (h1 : x < y) : vp_in x M := by
  rw [vp_in_iff]
  rw [Int32.lt_iff_toInt_lt] at h0 h1
  have e0 : (0 : Int32).toInt = 0 := by decide
  omega
theorem in_ge {x y : Int32} {N M : Nat} (hy : y.toInt = N) (hM : N ≤ M) (h0 : ¬ x < 0) (h1 : ¬ y ≤ x) : vp_in x M := by
  rw [vp_in_iff]
  rw [Int32.lt_iff_toInt_lt] at h0
  rw [Int32.le_iff_toInt_le] at h1
  have e0 : (0 : Int32).toInt = 0 := by decide
  omega
theorem nI_self {x : Int32} (h : ¬ x < 0) : x = nI x.toNatClampNeg := by
  obtain ⟨j, hj, rfl⟩ := nI_of h
  rw [nI_clamp hj]
abbrev hX0_find (B : wB) (a : Int32) : Prop := ¬ a < 0 ∧ ¬ B 0 0 ≤ a ∧ a < 4
theorem find_lt {B : wB} {a : Int32} (h : hX0_find B a) : a.toNatClampNeg < 4 := vp_lt (in_lt (N := 4) (by decide) (by decide) h.1 h.2.2)
abbrev rX0_find : Room := { frames := 0, cells := 0, slots := 0, locals := 0 }
set_option maxHeartbeats 4000000 in
set_option maxRecDepth 100000 in
theorem kX0_find (l : Launch) (G : wG) (Z : wZ) (i : Nat) (hi : i < 11) (B : wB) (a1 : Int32)  : mQ l yX0_find wsX0_find rX0_find G [.ref (G.2.2.1 i 0), .int a1] (wset Z i B) (if hX0_find B a1 then some (G.2.2.1 i (3 + a1.toNatClampNeg)) else none) (wset Z i B) := by
  refine Met.ofW (cc := cX0_find) (maxL := 2) (ret := (some (.object "RampShafts$Shaft"))) (by decide) rfl ?_
  intro p e s m args below meth c s₁ B0 hml hv
  obtain ⟨rfl, hW, hK, hL⟩ := hv
  have hlocks := B0.notSynchronized
  have hr := B0.returns
  have hC : wX p s m c cX0_find _ wsX0_find RX0 G := ⟨B0.exec, B0.bytes, findClass_of_methodNamed B0.named, atoms_spec (ws := wsX0_find) B0.pre, hK, hL⟩
  have hx := hC.1
  have hb := hC.2.1
  have hts := hC.2.2.2.1
  have hinRX0 : ∀ w ∈ wsX00, w ∈ wsX0_find := by decide +kernel
  have hk0 := hts (.fieldLink RX0 42 "RampShafts$Bench" "shaftCount" "I") (by decide +kernel)
  have hk1 := hts (.fieldLink RX0 20 "RampShafts$Bench" "shafts" "[LRampShafts$Shaft;") (by decide +kernel)
  have hS : va_S (wA G) s.heap s.heap [] := va_S.rf
  have hl := lv_entry ([.ref (G.2.2.1 i 0), .int a1]) (n := 2) (Nat.le_of_ble_eq_true rfl)
  rw [lg_entry_eq]
  generalize (lg_sl ([.ref (G.2.2.1 i 0), .int a1]) ++ List.replicate (2 - (lg_sl ([.ref (G.2.2.1 i 0), .int a1])).length) Slot.unset).toArray = ls at hl ⊢
  have hl : lv_has ls 2 [(0, .ref (G.2.2.1 i 0)), (1, .int a1)] := hl
  refine lv_iload_n hx hb dX0_find_0 rfl (lv_at hl 1 rfl) ?_
  refine lv_if_lt (tgt := 21) hx hb dX0_find_1 (by decide) (fun c_1 => ?_) (fun c_1 => ?_)
  · skip
    refine lv_null hx hb dX0_find_21 ?_
    exact we_q hC hr ⟨_, rfl⟩ hlocks (by rw [if_neg (by simp only [hX0_find, not_and]; intros; simp_all)]; rfl) rfl hW hS dX0_find_22
  · skip
    refine lv_iload_n hx hb dX0_find_4 rfl (lv_at hl 1 rfl) ?_
    refine lv_aload_n hx hb dX0_find_5 rfl (lv_at hl 0 rfl) ?_
    refine wr_get hC hinRX0 hW (vB hi (by decide)) (ce_b0 hi) rfl 5 (by decide) hk0 rfl dX0_find_6 ?_
    refine lv_icmp_ge (tgt := 21) hx hb dX0_find_9 (by decide) (fun c_2 => ?_) (fun c_2 => ?_)
    · skip
      refine lv_null hx hb dX0_find_21 ?_
      exact we_q hC hr ⟨_, rfl⟩ hlocks (by rw [if_neg (by simp only [hX0_find, not_and]; intros; simp_all)]; rfl) rfl hW hS dX0_find_22
    · skip
      refine lv_iload_n hx hb dX0_find_12 rfl (lv_at hl 1 rfl) ?_
      refine lv_aload_n hx hb dX0_find_13 rfl (lv_at hl 0 rfl) ?_
      refine wr_get hC hinRX0 hW (vB hi (by decide)) (ce_b0 hi) rfl 1 (by decide) hk1 rfl dX0_find_14 ?_
      refine wr_alen (v := 4) hC hW (vB hi (by decide)) (ce_b2 hi) (ty := .object _) rfl rfl dX0_find_17 ?_
      refine lv_icmp_lt (tgt := 23) hx hb dX0_find_18 (by decide) (fun c_3 => ?_) (fun c_3 => ?_)
      · skip
        refine lv_aload_n hx hb dX0_find_23 rfl (lv_at hl 0 rfl) ?_
        refine wr_get hC hinRX0 hW (vB hi (by decide)) (ce_b0 hi) rfl 1 (by decide) hk1 rfl dX0_find_24 ?_
        refine lv_iload_n hx hb dX0_find_27 rfl (lv_at hl 1 rfl) ?_
        have hv_4 : vp_in a1 4 := in_lt (N := 4) (by decide) (by decide) c_1 c_3
        refine wr_aald (v := .ref (G.2.2.1 i (3 + a1.toNatClampNeg))) (kA := 3) hC hW (vB hi (by decide)) (ce_b2 hi) rfl hv_4 rfl dX0_find_28 ?_
        exact we_q hC hr ⟨_, rfl⟩ hlocks (by rw [if_pos ⟨c_1, c_2, c_3⟩]; rfl) rfl hW hS dX0_find_29
      · skip
        refine lv_null hx hb dX0_find_21 ?_
        exact we_q hC hr ⟨_, rfl⟩ hlocks (by rw [if_neg (by simp only [hX0_find, not_and]; intros; simp_all)]; rfl) rfl hW hS dX0_find_22
def fX0_isPlace (a1 : Int32) : Int32 :=
  if a1 < (-9999) then 0
  else if 9999 < a1 then 0
  else 1
abbrev rX0_isPlace : Room := { frames := 0, cells := 0, slots := 0, locals := 0 }
set_option maxHeartbeats 4000000 in
set_option maxRecDepth 100000 in
theorem kX0_isPlace (l : Launch) (G : wG) (Z : wZ)  (a1 : Int32)  : mI l yX0_isPlace wsX0_isPlace rX0_isPlace G [.int a1] Z (fX0_isPlace a1) Z := by
  refine Met.ofW (cc := cX0_isPlace) (maxL := 1) (ret := (some .boolean)) (by decide) rfl ?_
  intro p e s m args below meth c s₁ B0 hml hv
  obtain ⟨rfl, hW, hK, hL⟩ := hv
  have hlocks := B0.notSynchronized
  have hr := B0.returns
  have hC : wX p s m c cX0_isPlace _ wsX0_isPlace RX0 G := ⟨B0.exec, B0.bytes, findClass_of_methodNamed B0.named, atoms_spec (ws := wsX0_isPlace) B0.pre, hK, hL⟩
  have hx := hC.1
  have hb := hC.2.1
  have hts := hC.2.2.2.1
  have hS : va_S (wA G) s.heap s.heap [] := va_S.rf
  have hl := lv_entry ([.int a1]) (n := 1) (Nat.le_of_ble_eq_true rfl)
  rw [lg_entry_eq]
  generalize (lg_sl ([.int a1]) ++ List.replicate (1 - (lg_sl ([.int a1])).length) Slot.unset).toArray = ls at hl ⊢
  have hl : lv_has ls 1 [(0, .int a1)] := hl
  refine lv_iload_n hx hb dX0_isPlace_0 rfl (lv_at hl 0 rfl) ?_
  refine lv_sipush (v := (-9999)) hx hb dX0_isPlace_1 (by decide) ?_
  refine lv_icmp_lt (tgt := 18) hx hb dX0_isPlace_4 (by decide) (fun c_1 => ?_) (fun c_1 => ?_)
  · skip
    refine lv_iconst (v := 0) hx hb dX0_isPlace_18 (by decide) ?_
    have hf : fX0_isPlace a1 = 0 := (if_pos c_1).trans rfl
    exact we_z hC hr hlocks (by first | rfl | decide | assumption | exact nar_char_i _) hf.symm rfl hW hS dX0_isPlace_19
  · skip
    refine lv_iload_n hx hb dX0_isPlace_7 rfl (lv_at hl 0 rfl) ?_
    refine lv_sipush (v := 9999) hx hb dX0_isPlace_8 (by decide) ?_
    refine lv_icmp_gt (tgt := 18) hx hb dX0_isPlace_11 (by decide) (fun c_2 => ?_) (fun c_2 => ?_)
    · skip
      refine lv_iconst (v := 0) hx hb dX0_isPlace_18 (by decide) ?_
      have hf : fX0_isPlace a1 = 0 := (if_neg c_1).trans ((if_pos c_2).trans rfl)
      exact we_z hC hr hlocks (by first | rfl | decide | assumption | exact nar_char_i _) hf.symm rfl hW hS dX0_isPlace_19
    · skip
      refine lv_iconst (v := 1) hx hb dX0_isPlace_14 (by decide) ?_
      refine lv_goto (tgt := 19) hx hb dX0_isPlace_15 (by decide) ?_
      have hf : fX0_isPlace a1 = 1 := (if_neg c_1).trans ((if_neg c_2).trans rfl)
      exact we_z hC hr hlocks (by first | rfl | decide | assumption | exact nar_char_i _) hf.symm rfl hW hS dX0_isPlace_19
def fX0_addShaft (B : wB) (a1 : Int32) : wB × Int32 :=
  if a1 = 1 then (if (B 0 0) < 0 then (B, (-4))
    else if (B 0 0) < 4 then ((bput (bput B (3 + (B 0 0).toNatClampNeg) 0 a1) 0 0 ((B 0 0) + 1)), ((B 0 0) + 1) - 1)
    else (B, (-4)))
  else if a1 = 2 then (if (B 0 0) < 0 then (B, (-4))
    else if (B 0 0) < 4 then ((bput (bput B (3 + (B 0 0).toNatClampNeg) 0 a1) 0 0 ((B 0 0) + 1)), ((B 0 0) + 1) - 1)
    else (B, (-4)))
  else if a1 = 4 then (if (B 0 0) < 0 then (B, (-4))
    else if (B 0 0) < 4 then ((bput (bput B (3 + (B 0 0).toNatClampNeg) 0 a1) 0 0 ((B 0 0) + 1)), ((B 0 0) + 1) - 1)
    else (B, (-4)))
  else (B, (-2))
abbrev rX0_addShaft : Room := { frames := 0, cells := 0, slots := 0, locals := 0 }
set_option maxHeartbeats 4000000 in
set_option maxRecDepth 100000 in
theorem kX0_addShaft (l : Launch) (G : wG) (Z : wZ) (i : Nat) (hi : i < 11) (B : wB) (a1 : Int32)  : mI l yX0_addShaft wsX0_addShaft rX0_addShaft G [.ref (G.2.2.1 i 0), .int a1] (wset Z i B) (fX0_addShaft B a1).2 (wset Z i (fX0_addShaft B a1).1) := by
  refine Met.ofW (cc := cX0_addShaft) (maxL := 2) (ret := (some .int)) (by decide) rfl ?_
  intro p e s m args below meth c s₁ B0 hml hv
  obtain ⟨rfl, hW, hK, hL⟩ := hv
  have hlocks := B0.notSynchronized
  have hr := B0.returns
  have hC : wX p s m c cX0_addShaft _ wsX0_addShaft RX0 G := ⟨B0.exec, B0.bytes, findClass_of_methodNamed B0.named, atoms_spec (ws := wsX0_addShaft) B0.pre, hK, hL⟩
  have hx := hC.1
  have hb := hC.2.1
  have hts := hC.2.2.2.1
  have hinRX0 : ∀ w ∈ wsX00, w ∈ wsX0_addShaft := by decide +kernel
  have hinRX5 : ∀ w ∈ wsX50, w ∈ wsX0_addShaft := by decide +kernel
  have hk0 := hts (.fieldLink RX0 42 "RampShafts$Bench" "shaftCount" "I") (by decide +kernel)
  have hk1 := hts (.fieldLink RX0 20 "RampShafts$Bench" "shafts" "[LRampShafts$Shaft;") (by decide +kernel)
  have hk2 := hts (.fieldLink RX0 52 "RampShafts$Shaft" "micro" "I") (by decide +kernel)
  have hS : va_S (wA G) s.heap s.heap [] := va_S.rf
  have hl := lv_entry ([.ref (G.2.2.1 i 0), .int a1]) (n := 2) (Nat.le_of_ble_eq_true rfl)
  rw [lg_entry_eq]
  generalize (lg_sl ([.ref (G.2.2.1 i 0), .int a1]) ++ List.replicate (2 - (lg_sl ([.ref (G.2.2.1 i 0), .int a1])).length) Slot.unset).toArray = ls at hl ⊢
  have hl : lv_has ls 2 [(0, .ref (G.2.2.1 i 0)), (1, .int a1)] := hl
  refine lv_iload_n hx hb dX0_addShaft_0 rfl (lv_at hl 1 rfl) ?_
  refine lv_iconst (v := 1) hx hb dX0_addShaft_1 (by decide) ?_
  refine lv_icmp_eq (tgt := 18) hx hb dX0_addShaft_2 (by decide) (fun c_1 => ?_) (fun c_1 => ?_)
  · skip
    refine lv_aload_n hx hb dX0_addShaft_18 rfl (lv_at hl 0 rfl) ?_
    refine wr_get hC hinRX0 hW (vB hi (by decide)) (ce_b0 hi) rfl 5 (by decide) hk0 rfl dX0_addShaft_19 ?_
    refine lv_if_lt (tgt := 37) hx hb dX0_addShaft_22 (by decide) (fun c_2 => ?_) (fun c_2 => ?_)
    · skip
      refine lv_bipush (v := (-4)) hx hb dX0_addShaft_37 (by decide) ?_
      have hf : fX0_addShaft B a1 = (B, (-4)) := (if_pos c_1).trans ((if_pos c_2).trans rfl)
      exact we_i hC hr hlocks (congrArg Prod.snd hf).symm (congrArg (fun u => wset Z i u.1) hf).symm hW hS dX0_addShaft_39
    · skip
      refine lv_aload_n hx hb dX0_addShaft_25 rfl (lv_at hl 0 rfl) ?_
      refine wr_get hC hinRX0 hW (vB hi (by decide)) (ce_b0 hi) rfl 5 (by decide) hk0 rfl dX0_addShaft_26 ?_
      refine lv_aload_n hx hb dX0_addShaft_29 rfl (lv_at hl 0 rfl) ?_
      refine wr_get hC hinRX0 hW (vB hi (by decide)) (ce_b0 hi) rfl 1 (by decide) hk1 rfl dX0_addShaft_30 ?_
      refine wr_alen (v := 4) hC hW (vB hi (by decide)) (ce_b2 hi) (ty := .object _) rfl rfl dX0_addShaft_33 ?_
      refine lv_icmp_lt (tgt := 40) hx hb dX0_addShaft_34 (by decide) (fun c_3 => ?_) (fun c_3 => ?_)
      · skip
        refine lv_aload_n hx hb dX0_addShaft_40 rfl (lv_at hl 0 rfl) ?_
        refine wr_get hC hinRX0 hW (vB hi (by decide)) (ce_b0 hi) rfl 1 (by decide) hk1 rfl dX0_addShaft_41 ?_
        refine lv_aload_n hx hb dX0_addShaft_44 rfl (lv_at hl 0 rfl) ?_
        refine wr_get hC hinRX0 hW (vB hi (by decide)) (ce_b0 hi) rfl 5 (by decide) hk0 rfl dX0_addShaft_45 ?_
        have hv_4 : vp_in (B 0 0) 4 := in_lt (N := 4) (by decide) (by decide) c_2 c_3
        refine wr_aald (v := .ref (G.2.2.1 i (3 + (B 0 0).toNatClampNeg))) (kA := 3) hC hW (vB hi (by decide)) (ce_b2 hi) rfl hv_4 rfl dX0_addShaft_48 ?_
        refine lv_iload_n hx hb dX0_addShaft_49 rfl (lv_at hl 1 rfl) ?_
        refine wr_put (Z' := wset Z i (bput B (3 + (B 0 0).toNatClampNeg) 0 a1)) (v := .int a1) hC hinRX5 tyX5 tyX5_ok nmX5 hW hS (vBs hi (vp_lt hv_4)) (ce_bs hi (vp_lt hv_4)) rfl 0 (by decide) hk2 rfl (tyX5_ok 0 (by decide)) rfl rfl (Nat.le_of_ble_eq_true rfl) wset_off (pu_bs_0 hi (vp_lt hv_4)) dX0_addShaft_50 (fun H locs hW hS => ?_)
        refine lv_aload_n hx hb dX0_addShaft_53 rfl (lv_at hl 0 rfl) ?_
        refine lv_dup hx hb dX0_addShaft_54 rfl ?_
        refine wr_get hC hinRX0 hW (vB hi (by decide)) (ce_b0 hi) rfl 5 (by decide) hk0 rfl dX0_addShaft_55 ?_
        refine lv_re (y := B 0 0) (bput_j (by omega)) ?_
        refine lv_iconst (v := 1) hx hb dX0_addShaft_58 (by decide) ?_
        refine lv_iadd hx hb dX0_addShaft_59 ?_
        refine wr_put (Z' := wset Z i (bput (bput B (3 + (B 0 0).toNatClampNeg) 0 a1) 0 0 ((B 0 0) + 1))) (v := .int ((B 0 0) + 1)) hC hinRX0 tyX0 tyX0_ok nmX0 hW hS (vB hi (by decide)) (ce_b0 hi) rfl 5 (by decide) hk0 rfl (tyX0_ok 5 (by decide)) rfl rfl (Nat.le_of_ble_eq_true rfl) wset_off (pu_b0_0 hi) dX0_addShaft_60 (fun H locs hW hS => ?_)
        refine lv_aload_n hx hb dX0_addShaft_63 rfl (lv_at hl 0 rfl) ?_
        refine wr_get hC hinRX0 hW (vB hi (by decide)) (ce_b0 hi) rfl 5 (by decide) hk0 rfl dX0_addShaft_64 ?_
        refine lv_re (y := (B 0 0) + 1) (bput_h) ?_
        refine lv_iconst (v := 1) hx hb dX0_addShaft_67 (by decide) ?_
        refine lv_isub hx hb dX0_addShaft_68 ?_
        have hf : fX0_addShaft B a1 = ((bput (bput B (3 + (B 0 0).toNatClampNeg) 0 a1) 0 0 ((B 0 0) + 1)), ((B 0 0) + 1) - 1) := (if_pos c_1).trans ((if_neg c_2).trans ((if_pos c_3).trans rfl))
        exact we_i hC hr hlocks (congrArg Prod.snd hf).symm (congrArg (fun u => wset Z i u.1) hf).symm hW hS dX0_addShaft_69
      · skip
        refine lv_bipush (v := (-4)) hx hb dX0_addShaft_37 (by decide) ?_
        have hf : fX0_addShaft B a1 = (B, (-4)) := (if_pos c_1).trans ((if_neg c_2).trans ((if_neg c_3).trans rfl))
        exact we_i hC hr hlocks (congrArg Prod.snd hf).symm (congrArg (fun u => wset Z i u.1) hf).symm hW hS dX0_addShaft_39
  · skip
    refine lv_iload_n hx hb dX0_addShaft_5 rfl (lv_at hl 1 rfl) ?_
    refine lv_iconst (v := 2) hx hb dX0_addShaft_6 (by decide) ?_
    refine lv_icmp_eq (tgt := 18) hx hb dX0_addShaft_7 (by decide) (fun c_5 => ?_) (fun c_5 => ?_)
    · skip
      refine lv_aload_n hx hb dX0_addShaft_18 rfl (lv_at hl 0 rfl) ?_
      refine wr_get hC hinRX0 hW (vB hi (by decide)) (ce_b0 hi) rfl 5 (by decide) hk0 rfl dX0_addShaft_19 ?_
      refine lv_if_lt (tgt := 37) hx hb dX0_addShaft_22 (by decide) (fun c_6 => ?_) (fun c_6 => ?_)
      · skip
        refine lv_bipush (v := (-4)) hx hb dX0_addShaft_37 (by decide) ?_
        have hf : fX0_addShaft B a1 = (B, (-4)) := (if_neg c_1).trans ((if_pos c_5).trans ((if_pos c_6).trans rfl))
        exact we_i hC hr hlocks (congrArg Prod.snd hf).symm (congrArg (fun u => wset Z i u.1) hf).symm hW hS dX0_addShaft_39
      · skip
        refine lv_aload_n hx hb dX0_addShaft_25 rfl (lv_at hl 0 rfl) ?_
        refine wr_get hC hinRX0 hW (vB hi (by decide)) (ce_b0 hi) rfl 5 (by decide) hk0 rfl dX0_addShaft_26 ?_
        refine lv_aload_n hx hb dX0_addShaft_29 rfl (lv_at hl 0 rfl) ?_
        refine wr_get hC hinRX0 hW (vB hi (by decide)) (ce_b0 hi) rfl 1 (by decide) hk1 rfl dX0_addShaft_30 ?_
        refine wr_alen (v := 4) hC hW (vB hi (by decide)) (ce_b2 hi) (ty := .object _) rfl rfl dX0_addShaft_33 ?_
        refine lv_icmp_lt (tgt := 40) hx hb dX0_addShaft_34 (by decide) (fun c_7 => ?_) (fun c_7 => ?_)
        · skip
          refine lv_aload_n hx hb dX0_addShaft_40 rfl (lv_at hl 0 rfl) ?_
          refine wr_get hC hinRX0 hW (vB hi (by decide)) (ce_b0 hi) rfl 1 (by decide) hk1 rfl dX0_addShaft_41 ?_
          refine lv_aload_n hx hb dX0_addShaft_44 rfl (lv_at hl 0 rfl) ?_
          refine wr_get hC hinRX0 hW (vB hi (by decide)) (ce_b0 hi) rfl 5 (by decide) hk0 rfl dX0_addShaft_45 ?_
          have hv_8 : vp_in (B 0 0) 4 := in_lt (N := 4) (by decide) (by decide) c_6 c_7
          refine wr_aald (v := .ref (G.2.2.1 i (3 + (B 0 0).toNatClampNeg))) (kA := 3) hC hW (vB hi (by decide)) (ce_b2 hi) rfl hv_8 rfl dX0_addShaft_48 ?_
          refine lv_iload_n hx hb dX0_addShaft_49 rfl (lv_at hl 1 rfl) ?_
          refine wr_put (Z' := wset Z i (bput B (3 + (B 0 0).toNatClampNeg) 0 a1)) (v := .int a1) hC hinRX5 tyX5 tyX5_ok nmX5 hW hS (vBs hi (vp_lt hv_8)) (ce_bs hi (vp_lt hv_8)) rfl 0 (by decide) hk2 rfl (tyX5_ok 0 (by decide)) rfl rfl (Nat.le_of_ble_eq_true rfl) wset_off (pu_bs_0 hi (vp_lt hv_8)) dX0_addShaft_50 (fun H locs hW hS => ?_)
          refine lv_aload_n hx hb dX0_addShaft_53 rfl (lv_at hl 0 rfl) ?_
          refine lv_dup hx hb dX0_addShaft_54 rfl ?_
          refine wr_get hC hinRX0 hW (vB hi (by decide)) (ce_b0 hi) rfl 5 (by decide) hk0 rfl dX0_addShaft_55 ?_
          refine lv_re (y := B 0 0) (bput_j (by omega)) ?_
          refine lv_iconst (v := 1) hx hb dX0_addShaft_58 (by decide) ?_
          refine lv_iadd hx hb dX0_addShaft_59 ?_
          refine wr_put (Z' := wset Z i (bput (bput B (3 + (B 0 0).toNatClampNeg) 0 a1) 0 0 ((B 0 0) + 1))) (v := .int ((B 0 0) + 1)) hC hinRX0 tyX0 tyX0_ok nmX0 hW hS (vB hi (by decide)) (ce_b0 hi) rfl 5 (by decide) hk0 rfl (tyX0_ok 5 (by decide)) rfl rfl (Nat.le_of_ble_eq_true rfl) wset_off (pu_b0_0 hi) dX0_addShaft_60 (fun H locs hW hS => ?_)
          refine lv_aload_n hx hb dX0_addShaft_63 rfl (lv_at hl 0 rfl) ?_
          refine wr_get hC hinRX0 hW (vB hi (by decide)) (ce_b0 hi) rfl 5 (by decide) hk0 rfl dX0_addShaft_64 ?_
          refine lv_re (y := (B 0 0) + 1) (bput_h) ?_
          refine lv_iconst (v := 1) hx hb dX0_addShaft_67 (by decide) ?_
          refine lv_isub hx hb dX0_addShaft_68 ?_
          have hf : fX0_addShaft B a1 = ((bput (bput B (3 + (B 0 0).toNatClampNeg) 0 a1) 0 0 ((B 0 0) + 1)), ((B 0 0) + 1) - 1) := (if_neg c_1).trans ((if_pos c_5).trans ((if_neg c_6).trans ((if_pos c_7).trans rfl)))
          exact we_i hC hr hlocks (congrArg Prod.snd hf).symm (congrArg (fun u => wset Z i u.1) hf).symm hW hS dX0_addShaft_69
        · skip
          refine lv_bipush (v := (-4)) hx hb dX0_addShaft_37 (by decide) ?_
          have hf : fX0_addShaft B a1 = (B, (-4)) := (if_neg c_1).trans ((if_pos c_5).trans ((if_neg c_6).trans ((if_neg c_7).trans rfl)))
          exact we_i hC hr hlocks (congrArg Prod.snd hf).symm (congrArg (fun u => wset Z i u.1) hf).symm hW hS dX0_addShaft_39
    · skip
      refine lv_iload_n hx hb dX0_addShaft_10 rfl (lv_at hl 1 rfl) ?_
      refine lv_iconst (v := 4) hx hb dX0_addShaft_11 (by decide) ?_
      refine lv_icmp_eq (tgt := 18) hx hb dX0_addShaft_12 (by decide) (fun c_9 => ?_) (fun c_9 => ?_)
      · skip
        refine lv_aload_n hx hb dX0_addShaft_18 rfl (lv_at hl 0 rfl) ?_
        refine wr_get hC hinRX0 hW (vB hi (by decide)) (ce_b0 hi) rfl 5 (by decide) hk0 rfl dX0_addShaft_19 ?_
        refine lv_if_lt (tgt := 37) hx hb dX0_addShaft_22 (by decide) (fun c_10 => ?_) (fun c_10 => ?_)
        · skip
          refine lv_bipush (v := (-4)) hx hb dX0_addShaft_37 (by decide) ?_
          have hf : fX0_addShaft B a1 = (B, (-4)) := (if_neg c_1).trans ((if_neg c_5).trans ((if_pos c_9).trans ((if_pos c_10).trans rfl)))
          exact we_i hC hr hlocks (congrArg Prod.snd hf).symm (congrArg (fun u => wset Z i u.1) hf).symm hW hS dX0_addShaft_39
        · skip
          refine lv_aload_n hx hb dX0_addShaft_25 rfl (lv_at hl 0 rfl) ?_
          refine wr_get hC hinRX0 hW (vB hi (by decide)) (ce_b0 hi) rfl 5 (by decide) hk0 rfl dX0_addShaft_26 ?_
          refine lv_aload_n hx hb dX0_addShaft_29 rfl (lv_at hl 0 rfl) ?_
          refine wr_get hC hinRX0 hW (vB hi (by decide)) (ce_b0 hi) rfl 1 (by decide) hk1 rfl dX0_addShaft_30 ?_
          refine wr_alen (v := 4) hC hW (vB hi (by decide)) (ce_b2 hi) (ty := .object _) rfl rfl dX0_addShaft_33 ?_
          refine lv_icmp_lt (tgt := 40) hx hb dX0_addShaft_34 (by decide) (fun c_11 => ?_) (fun c_11 => ?_)
          · skip
            refine lv_aload_n hx hb dX0_addShaft_40 rfl (lv_at hl 0 rfl) ?_
            refine wr_get hC hinRX0 hW (vB hi (by decide)) (ce_b0 hi) rfl 1 (by decide) hk1 rfl dX0_addShaft_41 ?_
            refine lv_aload_n hx hb dX0_addShaft_44 rfl (lv_at hl 0 rfl) ?_
            refine wr_get hC hinRX0 hW (vB hi (by decide)) (ce_b0 hi) rfl 5 (by decide) hk0 rfl dX0_addShaft_45 ?_
            have hv_12 : vp_in (B 0 0) 4 := in_lt (N := 4) (by decide) (by decide) c_10 c_11
            refine wr_aald (v := .ref (G.2.2.1 i (3 + (B 0 0).toNatClampNeg))) (kA := 3) hC hW (vB hi (by decide)) (ce_b2 hi) rfl hv_12 rfl dX0_addShaft_48 ?_
            refine lv_iload_n hx hb dX0_addShaft_49 rfl (lv_at hl 1 rfl) ?_
            refine wr_put (Z' := wset Z i (bput B (3 + (B 0 0).toNatClampNeg) 0 a1)) (v := .int a1) hC hinRX5 tyX5 tyX5_ok nmX5 hW hS (vBs hi (vp_lt hv_12)) (ce_bs hi (vp_lt hv_12)) rfl 0 (by decide) hk2 rfl (tyX5_ok 0 (by decide)) rfl rfl (Nat.le_of_ble_eq_true rfl) wset_off (pu_bs_0 hi (vp_lt hv_12)) dX0_addShaft_50 (fun H locs hW hS => ?_)
            refine lv_aload_n hx hb dX0_addShaft_53 rfl (lv_at hl 0 rfl) ?_
            refine lv_dup hx hb dX0_addShaft_54 rfl ?_
            refine wr_get hC hinRX0 hW (vB hi (by decide)) (ce_b0 hi) rfl 5 (by decide) hk0 rfl dX0_addShaft_55 ?_
            refine lv_re (y := B 0 0) (bput_j (by omega)) ?_
            refine lv_iconst (v := 1) hx hb dX0_addShaft_58 (by decide) ?_
            refine lv_iadd hx hb dX0_addShaft_59 ?_
            refine wr_put (Z' := wset Z i (bput (bput B (3 + (B 0 0).toNatClampNeg) 0 a1) 0 0 ((B 0 0) + 1))) (v := .int ((B 0 0) + 1)) hC hinRX0 tyX0 tyX0_ok nmX0 hW hS (vB hi (by decide)) (ce_b0 hi) rfl 5 (by decide) hk0 rfl (tyX0_ok 5 (by decide)) rfl rfl (Nat.le_of_ble_eq_true rfl) wset_off (pu_b0_0 hi) dX0_addShaft_60 (fun H locs hW hS => ?_)
            refine lv_aload_n hx hb dX0_addShaft_63 rfl (lv_at hl 0 rfl) ?_
            refine wr_get hC hinRX0 hW (vB hi (by decide)) (ce_b0 hi) rfl 5 (by decide) hk0 rfl dX0_addShaft_64 ?_
            refine lv_re (y := (B 0 0) + 1) (bput_h) ?_
            refine lv_iconst (v := 1) hx hb dX0_addShaft_67 (by decide) ?_
            refine lv_isub hx hb dX0_addShaft_68 ?_
            have hf : fX0_addShaft B a1 = ((bput (bput B (3 + (B 0 0).toNatClampNeg) 0 a1) 0 0 ((B 0 0) + 1)), ((B 0 0) + 1) - 1) := (if_neg c_1).trans ((if_neg c_5).trans ((if_pos c_9).trans ((if_neg c_10).trans ((if_pos c_11).trans rfl))))
            exact we_i hC hr hlocks (congrArg Prod.snd hf).symm (congrArg (fun u => wset Z i u.1) hf).symm hW hS dX0_addShaft_69
          · skip
            refine lv_bipush (v := (-4)) hx hb dX0_addShaft_37 (by decide) ?_
            have hf : fX0_addShaft B a1 = (B, (-4)) := (if_neg c_1).trans ((if_neg c_5).trans ((if_pos c_9).trans ((if_neg c_10).trans ((if_neg c_11).trans rfl))))
            exact we_i hC hr hlocks (congrArg Prod.snd hf).symm (congrArg (fun u => wset Z i u.1) hf).symm hW hS dX0_addShaft_39
      · skip
        refine lv_bipush (v := (-2)) hx hb dX0_addShaft_15 (by decide) ?_
        have hf : fX0_addShaft B a1 = (B, (-2)) := (if_neg c_1).trans ((if_neg c_5).trans ((if_neg c_9).trans rfl))
        exact we_i hC hr hlocks (congrArg Prod.snd hf).symm (congrArg (fun u => wset Z i u.1) hf).symm hW hS dX0_addShaft_17
def fX0_changeLoad (B : wB) (a1 : Int32) (a2 : Int32) : wB × Int32 :=
  if hX0_find B a1 then (if a2 < 0 then (B, (-2))
    else if a2 ≤ 9 then (let x_4 := B (3 + a1.toNatClampNeg) 1
      ((bput B (3 + a1.toNatClampNeg) 1 a2), x_4))
    else (B, (-2)))
  else (B, (-1))
abbrev rX0_changeLoad : Room := { frames := 1, cells := 0, slots := 0, locals := 21 }
set_option maxHeartbeats 4000000 in
set_option maxRecDepth 100000 in
theorem kX0_changeLoad (l : Launch) (G : wG) (Z : wZ) (i : Nat) (hi : i < 11) (B : wB) (a1 : Int32) (a2 : Int32)  : mI l yX0_changeLoad wsX0_changeLoad rX0_changeLoad G [.ref (G.2.2.1 i 0), .int a1, .int a2] (wset Z i B) (fX0_changeLoad B a1 a2).2 (wset Z i (fX0_changeLoad B a1 a2).1) := by
  refine Met.ofW (cc := cX0_changeLoad) (maxL := 5) (ret := (some .int)) (by decide) rfl ?_
  intro p e s m args below meth c s₁ B0 hml hv
  obtain ⟨rfl, hW, hK, hL⟩ := hv
  have hlocks := B0.notSynchronized
  have hr := B0.returns
  have hC : wX p s m c cX0_changeLoad _ wsX0_changeLoad RX0 G := ⟨B0.exec, B0.bytes, findClass_of_methodNamed B0.named, atoms_spec (ws := wsX0_changeLoad) B0.pre, hK, hL⟩
  have hx := hC.1
  have hb := hC.2.1
  have hts := hC.2.2.2.1
  have hinRX5 : ∀ w ∈ wsX50, w ∈ wsX0_changeLoad := by decide +kernel
  have hk0 := hts (.fieldLink RX0 59 "RampShafts$Shaft" "load" "I") (by decide +kernel)
  have hS : va_S (wA G) s.heap s.heap [] := va_S.rf
  have hl := lv_entry ([.ref (G.2.2.1 i 0), .int a1, .int a2]) (n := 5) (Nat.le_of_ble_eq_true rfl)
  rw [lg_entry_eq]
  generalize (lg_sl ([.ref (G.2.2.1 i 0), .int a1, .int a2]) ++ List.replicate (5 - (lg_sl ([.ref (G.2.2.1 i 0), .int a1, .int a2])).length) Slot.unset).toArray = ls at hl ⊢
  have hl : lv_has ls 5 [(0, .ref (G.2.2.1 i 0)), (1, .int a1), (2, .int a2)] := hl
  refine lv_aload_n hx hb dX0_changeLoad_0 rfl (lv_at hl 0 rfl) ?_
  refine lv_iload_n hx hb dX0_changeLoad_1 rfl (lv_at hl 1 rfl) ?_
  refine wc_q hC hml (kX0_find l G Z i hi B a1) (cwV 1 hts gX0_changeLoad_X0_find rfl rfl rfl (by decide +kernel) ⟨Nat.le_of_ble_eq_true rfl, Nat.le_of_ble_eq_true rfl⟩) hW hS (vB hi (by decide)) (ce_b0 hi) rfl rfl rfl rfl hl.1 (Nat.le_of_ble_eq_true rfl) dX0_changeLoad_2 (fun H locs hW hS => ?_)
  by_cases c_1 : hX0_find B a1
  · refine lv_rev (v' := .ref (G.2.2.1 i (3 + a1.toNatClampNeg))) (congrArg va_rf (if_pos c_1)) ?_
    refine lv_astore_n (lv' := [(3, .ref (G.2.2.1 i (3 + a1.toNatClampNeg))), (0, .ref (G.2.2.1 i 0)), (1, .int a1), (2, .int a2)]) hx hb dX0_changeLoad_5 rfl hl (by decide) rfl (fun ls hl => ?_)
    refine lv_aload_n hx hb dX0_changeLoad_6 rfl (lv_at hl 0 rfl) ?_
    refine lv_ifnonnull (tgt := 12) hx hb dX0_changeLoad_7 (by decide) ?_
    refine lv_iload_n hx hb dX0_changeLoad_12 rfl (lv_at hl 3 rfl) ?_
    refine lv_if_lt (tgt := 22) hx hb dX0_changeLoad_13 (by decide) (fun c_2 => ?_) (fun c_2 => ?_)
    · skip
      refine lv_bipush (v := (-2)) hx hb dX0_changeLoad_22 (by decide) ?_
      have hf : fX0_changeLoad B a1 a2 = (B, (-2)) := (if_pos c_1).trans ((if_pos c_2).trans rfl)
      exact we_i hC hr hlocks (congrArg Prod.snd hf).symm (congrArg (fun u => wset Z i u.1) hf).symm hW hS dX0_changeLoad_24
    · skip
      refine lv_iload_n hx hb dX0_changeLoad_16 rfl (lv_at hl 3 rfl) ?_
      refine lv_bipush (v := 9) hx hb dX0_changeLoad_17 (by decide) ?_
      refine lv_icmp_le (tgt := 25) hx hb dX0_changeLoad_19 (by decide) (fun c_3 => ?_) (fun c_3 => ?_)
      · skip
        refine lv_aload_n hx hb dX0_changeLoad_25 rfl (lv_at hl 0 rfl) ?_
        refine wr_get hC hinRX5 hW (vBs hi (find_lt c_1)) (ce_bs hi (find_lt c_1)) rfl 1 (by decide) hk0 rfl dX0_changeLoad_26 ?_
        refine lv_topi (fun x_4 ex_4 => ?_)
        refine lv_istore (lv' := [(4, .int x_4), (3, .ref (G.2.2.1 i (3 + a1.toNatClampNeg))), (0, .ref (G.2.2.1 i 0)), (1, .int a1), (2, .int a2)]) hx hb dX0_changeLoad_29 hl (by decide) rfl (fun ls hl => ?_)
        refine lv_aload_n hx hb dX0_changeLoad_31 rfl (lv_at hl 1 rfl) ?_
        refine lv_iload_n hx hb dX0_changeLoad_32 rfl (lv_at hl 4 rfl) ?_
        refine wr_put (Z' := wset Z i (bput B (3 + a1.toNatClampNeg) 1 a2)) (v := .int a2) hC hinRX5 tyX5 tyX5_ok nmX5 hW hS (vBs hi (find_lt c_1)) (ce_bs hi (find_lt c_1)) rfl 1 (by decide) hk0 rfl (tyX5_ok 1 (by decide)) rfl rfl (Nat.le_of_ble_eq_true rfl) wset_off (pu_bs_1 hi (find_lt c_1)) dX0_changeLoad_33 (fun H locs hW hS => ?_)
        refine lv_iload hx hb dX0_changeLoad_36 (lv_at hl 0 rfl) ?_
        have hf : fX0_changeLoad B a1 a2 = ((bput B (3 + a1.toNatClampNeg) 1 a2), x_4) := by
          subst ex_4
          exact (if_pos c_1).trans ((if_neg c_2).trans ((if_pos c_3).trans rfl))
        exact we_i hC hr hlocks (congrArg Prod.snd hf).symm (congrArg (fun u => wset Z i u.1) hf).symm hW hS dX0_changeLoad_38
      · skip
        refine lv_bipush (v := (-2)) hx hb dX0_changeLoad_22 (by decide) ?_
        have hf : fX0_changeLoad B a1 a2 = (B, (-2)) := (if_pos c_1).trans ((if_neg c_2).trans ((if_neg c_3).trans rfl))
        exact we_i hC hr hlocks (congrArg Prod.snd hf).symm (congrArg (fun u => wset Z i u.1) hf).symm hW hS dX0_changeLoad_24
  · refine lv_rev (v' := .null) (congrArg va_rf (if_neg c_1)) ?_
    refine lv_astore_nN (lv' := [(3, .null), (0, .ref (G.2.2.1 i 0)), (1, .int a1), (2, .int a2)]) hx hb dX0_changeLoad_5 rfl hl (by decide) rfl (fun ls hl => ?_)
    refine lv_aload_nN hx hb dX0_changeLoad_6 rfl (lv_at hl 0 rfl) ?_
    refine lv_ifnonnullN hx hb dX0_changeLoad_7 ?_
    refine lv_iconst (v := (-1)) hx hb dX0_changeLoad_10 (by decide) ?_
    have hf : fX0_changeLoad B a1 a2 = (B, (-1)) := (if_neg c_1).trans rfl
    exact we_i hC hr hlocks (congrArg Prod.snd hf).symm (congrArg (fun u => wset Z i u.1) hf).symm hW hS dX0_changeLoad_11
def fX0_moveTo (B : wB) (a1 : Int32) (a2 : Int32) : wB × Int32 :=
  if hX0_find B a1 then (let x_2 := fX0_isPlace a2
    if x_2 = 0 then (B, (-2))
    else let x_4 := fX5_moves a1.toNatClampNeg B
    if x_4 = 0 then (let B_6 := fX5_beginOrWait a1.toNatClampNeg B a2 (B 0 2)
      (B_6, B_6 (3 + a1.toNatClampNeg) 10))
    else let x_7 := fX5_canWait a1.toNatClampNeg B
    if x_7 = 0 then (B, (-4))
    else let B_9 := fX5_beginOrWait a1.toNatClampNeg B a2 (B 0 2)
    (B_9, B_9 (3 + a1.toNatClampNeg) 10))
  else (B, (-1))
abbrev rX0_moveTo : Room := { frames := 3, cells := 0, slots := 0, locals := 69 }
set_option maxHeartbeats 4000000 in
set_option maxRecDepth 100000 in
theorem kX0_moveTo (l : Launch) (G : wG) (Z : wZ) (i : Nat) (hi : i < 11) (B : wB) (a1 : Int32) (a2 : Int32)  : mI l yX0_moveTo wsX0_moveTo rX0_moveTo G [.ref (G.2.2.1 i 0), .int a1, .int a2] (wset Z i B) (fX0_moveTo B a1 a2).2 (wset Z i (fX0_moveTo B a1 a2).1) := by
  refine Met.ofW (cc := cX0_moveTo) (maxL := 4) (ret := (some .int)) (by decide) rfl ?_
  intro p e s m args below meth c s₁ B0 hml hv
  obtain ⟨rfl, hW, hK, hL⟩ := hv
  have hlocks := B0.notSynchronized
  have hr := B0.returns
  have hC : wX p s m c cX0_moveTo _ wsX0_moveTo RX0 G := ⟨B0.exec, B0.bytes, findClass_of_methodNamed B0.named, atoms_spec (ws := wsX0_moveTo) B0.pre, hK, hL⟩
  have hx := hC.1
  have hb := hC.2.1
  have hts := hC.2.2.2.1
  have hinRX0 : ∀ w ∈ wsX00, w ∈ wsX0_moveTo := by decide +kernel
  have hinRX5 : ∀ w ∈ wsX50, w ∈ wsX0_moveTo := by decide +kernel
  have hk0 := hts (.fieldLink RX0 49 "RampShafts$Bench" "time" "I") (by decide +kernel)
  have hk1 := hts (.fieldLink RX0 12 "RampShafts$Bench" "ramp" "LRampShafts$Ramp;") (by decide +kernel)
  have hk2 := hts (.fieldLink RX0 77 "RampShafts$Shaft" "waitCount" "I") (by decide +kernel)
  have hS : va_S (wA G) s.heap s.heap [] := va_S.rf
  have hl := lv_entry ([.ref (G.2.2.1 i 0), .int a1, .int a2]) (n := 4) (Nat.le_of_ble_eq_true rfl)
  rw [lg_entry_eq]
  generalize (lg_sl ([.ref (G.2.2.1 i 0), .int a1, .int a2]) ++ List.replicate (4 - (lg_sl ([.ref (G.2.2.1 i 0), .int a1, .int a2])).length) Slot.unset).toArray = ls at hl ⊢
  have hl : lv_has ls 4 [(0, .ref (G.2.2.1 i 0)), (1, .int a1), (2, .int a2)] := hl
  refine lv_aload_n hx hb dX0_moveTo_0 rfl (lv_at hl 0 rfl) ?_
  refine lv_iload_n hx hb dX0_moveTo_1 rfl (lv_at hl 1 rfl) ?_
  refine wc_q hC hml (kX0_find l G Z i hi B a1) (cwV 1 hts gX0_moveTo_X0_find rfl rfl rfl (by decide +kernel) ⟨Nat.le_of_ble_eq_true rfl, Nat.le_of_ble_eq_true rfl⟩) hW hS (vB hi (by decide)) (ce_b0 hi) rfl rfl rfl rfl hl.1 (Nat.le_of_ble_eq_true rfl) dX0_moveTo_2 (fun H locs hW hS => ?_)
  by_cases c_1 : hX0_find B a1
  · refine lv_rev (v' := .ref (G.2.2.1 i (3 + a1.toNatClampNeg))) (congrArg va_rf (if_pos c_1)) ?_
    refine lv_astore_n (lv' := [(3, .ref (G.2.2.1 i (3 + a1.toNatClampNeg))), (0, .ref (G.2.2.1 i 0)), (1, .int a1), (2, .int a2)]) hx hb dX0_moveTo_5 rfl hl (by decide) rfl (fun ls hl => ?_)
    refine lv_aload_n hx hb dX0_moveTo_6 rfl (lv_at hl 0 rfl) ?_
    refine lv_ifnonnull (tgt := 12) hx hb dX0_moveTo_7 (by decide) ?_
    refine lv_iload_n hx hb dX0_moveTo_12 rfl (lv_at hl 3 rfl) ?_
    refine wc_s hC hml (kX0_isPlace l G (wset Z i B) a2) (cwS 1 hts gX0_moveTo_X0_isPlace rfl rfl rfl (by decide +kernel) ⟨Nat.le_of_ble_eq_true rfl, Nat.le_of_ble_eq_true rfl⟩) hW hS rfl rfl hl.1 (Nat.le_of_ble_eq_true rfl) dX0_moveTo_13 (fun H locs hW hS => ?_)
    refine lv_topi (fun x_2 ex_2 => ?_)
    refine lv_if_ne (tgt := 22) hx hb dX0_moveTo_16 (by decide) (fun c_3 => ?_) (fun c_3 => ?_)
    · skip
      refine lv_aload_n hx hb dX0_moveTo_22 rfl (lv_at hl 0 rfl) ?_
      refine wc_i hC hml (kX5_moves l G Z i hi a1.toNatClampNeg (find_lt c_1) B) (cwV 0 hts gX0_moveTo_X5_moves rfl rfl rfl (by decide +kernel) ⟨Nat.le_of_ble_eq_true rfl, Nat.le_of_ble_eq_true rfl⟩) hW hS (vBs hi (find_lt c_1)) (ce_bs hi (find_lt c_1)) rfl rfl rfl rfl hl.1 (Nat.le_of_ble_eq_true rfl) dX0_moveTo_23 (fun H locs hW hS => ?_)
      refine lv_topi (fun x_4 ex_4 => ?_)
      refine lv_if_eq (tgt := 39) hx hb dX0_moveTo_26 (by decide) (fun c_5 => ?_) (fun c_5 => ?_)
      · skip
        refine lv_aload_n hx hb dX0_moveTo_39 rfl (lv_at hl 0 rfl) ?_
        refine lv_iload_n hx hb dX0_moveTo_40 rfl (lv_at hl 3 rfl) ?_
        refine lv_aload_n hx hb dX0_moveTo_41 rfl (lv_at hl 1 rfl) ?_
        refine wr_get hC hinRX0 hW (vB hi (by decide)) (ce_b0 hi) rfl 7 (by decide) hk0 rfl dX0_moveTo_42 ?_
        refine lv_aload_n hx hb dX0_moveTo_45 rfl (lv_at hl 1 rfl) ?_
        refine wr_get hC hinRX0 hW (vB hi (by decide)) (ce_b0 hi) rfl 0 (by decide) hk1 rfl dX0_moveTo_46 ?_
        refine wc_v hC hml (kX5_beginOrWait l G Z i hi a1.toNatClampNeg (find_lt c_1) B a2 (B 0 2)) (cwV 3 hts gX0_moveTo_X5_beginOrWait rfl rfl rfl (by decide +kernel) ⟨Nat.le_of_ble_eq_true rfl, Nat.le_of_ble_eq_true rfl⟩) hW hS (vBs hi (find_lt c_1)) (ce_bs hi (find_lt c_1)) rfl rfl rfl rfl hl.1 (Nat.le_of_ble_eq_true rfl) dX0_moveTo_49 (fun H locs hW hS => ?_)
        obtain ⟨B_6, eB_6⟩ : ∃ y, y = fX5_beginOrWait a1.toNatClampNeg B a2 (B 0 2) := ⟨_, rfl⟩
        rw [← eB_6] at hW
        refine lv_aload_n hx hb dX0_moveTo_52 rfl (lv_at hl 0 rfl) ?_
        refine wr_get hC hinRX5 hW (vBs hi (find_lt c_1)) (ce_bs hi (find_lt c_1)) rfl 10 (by decide) hk2 rfl dX0_moveTo_53 ?_
        have hf : fX0_moveTo B a1 a2 = (B_6, B_6 (3 + a1.toNatClampNeg) 10) := by
          subst eB_6
          subst ex_4
          subst ex_2
          exact (if_pos c_1).trans ((if_neg c_3).trans ((if_pos c_5).trans rfl))
        exact we_i hC hr hlocks (congrArg Prod.snd hf).symm (congrArg (fun u => wset Z i u.1) hf).symm hW hS dX0_moveTo_56
      · skip
        refine lv_aload_n hx hb dX0_moveTo_29 rfl (lv_at hl 0 rfl) ?_
        refine wc_i hC hml (kX5_canWait l G Z i hi a1.toNatClampNeg (find_lt c_1) B) (cwV 0 hts gX0_moveTo_X5_canWait rfl rfl rfl (by decide +kernel) ⟨Nat.le_of_ble_eq_true rfl, Nat.le_of_ble_eq_true rfl⟩) hW hS (vBs hi (find_lt c_1)) (ce_bs hi (find_lt c_1)) rfl rfl rfl rfl hl.1 (Nat.le_of_ble_eq_true rfl) dX0_moveTo_30 (fun H locs hW hS => ?_)
        refine lv_topi (fun x_7 ex_7 => ?_)
        refine lv_if_ne (tgt := 39) hx hb dX0_moveTo_33 (by decide) (fun c_8 => ?_) (fun c_8 => ?_)
        · skip
          refine lv_aload_n hx hb dX0_moveTo_39 rfl (lv_at hl 0 rfl) ?_
          refine lv_iload_n hx hb dX0_moveTo_40 rfl (lv_at hl 3 rfl) ?_
          refine lv_aload_n hx hb dX0_moveTo_41 rfl (lv_at hl 1 rfl) ?_
          refine wr_get hC hinRX0 hW (vB hi (by decide)) (ce_b0 hi) rfl 7 (by decide) hk0 rfl dX0_moveTo_42 ?_
          refine lv_aload_n hx hb dX0_moveTo_45 rfl (lv_at hl 1 rfl) ?_
          refine wr_get hC hinRX0 hW (vB hi (by decide)) (ce_b0 hi) rfl 0 (by decide) hk1 rfl dX0_moveTo_46 ?_
          refine wc_v hC hml (kX5_beginOrWait l G Z i hi a1.toNatClampNeg (find_lt c_1) B a2 (B 0 2)) (cwV 3 hts gX0_moveTo_X5_beginOrWait rfl rfl rfl (by decide +kernel) ⟨Nat.le_of_ble_eq_true rfl, Nat.le_of_ble_eq_true rfl⟩) hW hS (vBs hi (find_lt c_1)) (ce_bs hi (find_lt c_1)) rfl rfl rfl rfl hl.1 (Nat.le_of_ble_eq_true rfl) dX0_moveTo_49 (fun H locs hW hS => ?_)
          obtain ⟨B_9, eB_9⟩ : ∃ y, y = fX5_beginOrWait a1.toNatClampNeg B a2 (B 0 2) := ⟨_, rfl⟩
          rw [← eB_9] at hW
          refine lv_aload_n hx hb dX0_moveTo_52 rfl (lv_at hl 0 rfl) ?_
          refine wr_get hC hinRX5 hW (vBs hi (find_lt c_1)) (ce_bs hi (find_lt c_1)) rfl 10 (by decide) hk2 rfl dX0_moveTo_53 ?_
          have hf : fX0_moveTo B a1 a2 = (B_9, B_9 (3 + a1.toNatClampNeg) 10) := by
            subst eB_9
            subst ex_7
            subst ex_4
            subst ex_2
            exact (if_pos c_1).trans ((if_neg c_3).trans ((if_neg c_5).trans ((if_neg c_8).trans rfl)))
          exact we_i hC hr hlocks (congrArg Prod.snd hf).symm (congrArg (fun u => wset Z i u.1) hf).symm hW hS dX0_moveTo_56
        · skip
          refine lv_bipush (v := (-4)) hx hb dX0_moveTo_36 (by decide) ?_
          have hf : fX0_moveTo B a1 a2 = (B, (-4)) := by
            subst ex_7
            subst ex_4
            subst ex_2
            exact (if_pos c_1).trans ((if_neg c_3).trans ((if_neg c_5).trans ((if_pos c_8).trans rfl)))
          exact we_i hC hr hlocks (congrArg Prod.snd hf).symm (congrArg (fun u => wset Z i u.1) hf).symm hW hS dX0_moveTo_38
    · skip
      refine lv_bipush (v := (-2)) hx hb dX0_moveTo_19 (by decide) ?_
      have hf : fX0_moveTo B a1 a2 = (B, (-2)) := by
        subst ex_2
        exact (if_pos c_1).trans ((if_pos c_3).trans rfl)
      exact we_i hC hr hlocks (congrArg Prod.snd hf).symm (congrArg (fun u => wset Z i u.1) hf).symm hW hS dX0_moveTo_21
  · refine lv_rev (v' := .null) (congrArg va_rf (if_neg c_1)) ?_
    refine lv_astore_nN (lv' := [(3, .null), (0, .ref (G.2.2.1 i 0)), (1, .int a1), (2, .int a2)]) hx hb dX0_moveTo_5 rfl hl (by decide) rfl (fun ls hl => ?_)
    refine lv_aload_nN hx hb dX0_moveTo_6 rfl (lv_at hl 0 rfl) ?_
    refine lv_ifnonnullN hx hb dX0_moveTo_7 ?_
    refine lv_iconst (v := (-1)) hx hb dX0_moveTo_10 (by decide) ?_
    have hf : fX0_moveTo B a1 a2 = (B, (-1)) := (if_neg c_1).trans rfl
    exact we_i hC hr hlocks (congrArg Prod.snd hf).symm (congrArg (fun u => wset Z i u.1) hf).symm hW hS dX0_moveTo_11
def fX0_halt (B : wB) (a1 : Int32) : wB × Int32 :=
  if hX0_find B a1 then (let x_2 := fX5_moves a1.toNatClampNeg B
    if x_2 = 0 then (B, (-5))
    else let B_4 := fX5_slowDown a1.toNatClampNeg B
    (B_4, B_4 (3 + a1.toNatClampNeg) 5))
  else (B, (-1))
abbrev rX0_halt : Room := { frames := 3, cells := 0, slots := 0, locals := 61 }
set_option maxHeartbeats 4000000 in
set_option maxRecDepth 100000 in
theorem kX0_halt (l : Launch) (G : wG) (Z : wZ) (i : Nat) (hi : i < 11) (B : wB) (a1 : Int32)  : mI l yX0_halt wsX0_halt rX0_halt G [.ref (G.2.2.1 i 0), .int a1] (wset Z i B) (fX0_halt B a1).2 (wset Z i (fX0_halt B a1).1) := by
  refine Met.ofW (cc := cX0_halt) (maxL := 3) (ret := (some .int)) (by decide) rfl ?_
  intro p e s m args below meth c s₁ B0 hml hv
  obtain ⟨rfl, hW, hK, hL⟩ := hv
  have hlocks := B0.notSynchronized
  have hr := B0.returns
  have hC : wX p s m c cX0_halt _ wsX0_halt RX0 G := ⟨B0.exec, B0.bytes, findClass_of_methodNamed B0.named, atoms_spec (ws := wsX0_halt) B0.pre, hK, hL⟩
  have hx := hC.1
  have hb := hC.2.1
  have hts := hC.2.2.2.1
  have hinRX5 : ∀ w ∈ wsX50, w ∈ wsX0_halt := by decide +kernel
  have hk0 := hts (.fieldLink RX0 87 "RampShafts$Shaft" "left" "I") (by decide +kernel)
  have hS : va_S (wA G) s.heap s.heap [] := va_S.rf
  have hl := lv_entry ([.ref (G.2.2.1 i 0), .int a1]) (n := 3) (Nat.le_of_ble_eq_true rfl)
  rw [lg_entry_eq]
  generalize (lg_sl ([.ref (G.2.2.1 i 0), .int a1]) ++ List.replicate (3 - (lg_sl ([.ref (G.2.2.1 i 0), .int a1])).length) Slot.unset).toArray = ls at hl ⊢
  have hl : lv_has ls 3 [(0, .ref (G.2.2.1 i 0)), (1, .int a1)] := hl
  refine lv_aload_n hx hb dX0_halt_0 rfl (lv_at hl 0 rfl) ?_
  refine lv_iload_n hx hb dX0_halt_1 rfl (lv_at hl 1 rfl) ?_
  refine wc_q hC hml (kX0_find l G Z i hi B a1) (cwV 1 hts gX0_halt_X0_find rfl rfl rfl (by decide +kernel) ⟨Nat.le_of_ble_eq_true rfl, Nat.le_of_ble_eq_true rfl⟩) hW hS (vB hi (by decide)) (ce_b0 hi) rfl rfl rfl rfl hl.1 (Nat.le_of_ble_eq_true rfl) dX0_halt_2 (fun H locs hW hS => ?_)
  by_cases c_1 : hX0_find B a1
  · refine lv_rev (v' := .ref (G.2.2.1 i (3 + a1.toNatClampNeg))) (congrArg va_rf (if_pos c_1)) ?_
    refine lv_astore_n (lv' := [(2, .ref (G.2.2.1 i (3 + a1.toNatClampNeg))), (0, .ref (G.2.2.1 i 0)), (1, .int a1)]) hx hb dX0_halt_5 rfl hl (by decide) rfl (fun ls hl => ?_)
    refine lv_aload_n hx hb dX0_halt_6 rfl (lv_at hl 0 rfl) ?_
    refine lv_ifnonnull (tgt := 12) hx hb dX0_halt_7 (by decide) ?_
    refine lv_aload_n hx hb dX0_halt_12 rfl (lv_at hl 0 rfl) ?_
    refine wc_i hC hml (kX5_moves l G Z i hi a1.toNatClampNeg (find_lt c_1) B) (cwV 0 hts gX0_halt_X5_moves rfl rfl rfl (by decide +kernel) ⟨Nat.le_of_ble_eq_true rfl, Nat.le_of_ble_eq_true rfl⟩) hW hS (vBs hi (find_lt c_1)) (ce_bs hi (find_lt c_1)) rfl rfl rfl rfl hl.1 (Nat.le_of_ble_eq_true rfl) dX0_halt_13 (fun H locs hW hS => ?_)
    refine lv_topi (fun x_2 ex_2 => ?_)
    refine lv_if_ne (tgt := 22) hx hb dX0_halt_16 (by decide) (fun c_3 => ?_) (fun c_3 => ?_)
    · skip
      refine lv_aload_n hx hb dX0_halt_22 rfl (lv_at hl 0 rfl) ?_
      refine wc_v hC hml (kX5_slowDown l G Z i hi a1.toNatClampNeg (find_lt c_1) B) (cwV 0 hts gX0_halt_X5_slowDown rfl rfl rfl (by decide +kernel) ⟨Nat.le_of_ble_eq_true rfl, Nat.le_of_ble_eq_true rfl⟩) hW hS (vBs hi (find_lt c_1)) (ce_bs hi (find_lt c_1)) rfl rfl rfl rfl hl.1 (Nat.le_of_ble_eq_true rfl) dX0_halt_23 (fun H locs hW hS => ?_)
      obtain ⟨B_4, eB_4⟩ : ∃ y, y = fX5_slowDown a1.toNatClampNeg B := ⟨_, rfl⟩
      rw [← eB_4] at hW
      refine lv_aload_n hx hb dX0_halt_26 rfl (lv_at hl 0 rfl) ?_
      refine wr_get hC hinRX5 hW (vBs hi (find_lt c_1)) (ce_bs hi (find_lt c_1)) rfl 5 (by decide) hk0 rfl dX0_halt_27 ?_
      have hf : fX0_halt B a1 = (B_4, B_4 (3 + a1.toNatClampNeg) 5) := by
        subst eB_4
        subst ex_2
        exact (if_pos c_1).trans ((if_neg c_3).trans rfl)
      exact we_i hC hr hlocks (congrArg Prod.snd hf).symm (congrArg (fun u => wset Z i u.1) hf).symm hW hS dX0_halt_30
    · skip
      refine lv_bipush (v := (-5)) hx hb dX0_halt_19 (by decide) ?_
      have hf : fX0_halt B a1 = (B, (-5)) := by
        subst ex_2
        exact (if_pos c_1).trans ((if_pos c_3).trans rfl)
      exact we_i hC hr hlocks (congrArg Prod.snd hf).symm (congrArg (fun u => wset Z i u.1) hf).symm hW hS dX0_halt_21
  · refine lv_rev (v' := .null) (congrArg va_rf (if_neg c_1)) ?_
    refine lv_astore_nN (lv' := [(2, .null), (0, .ref (G.2.2.1 i 0)), (1, .int a1)]) hx hb dX0_halt_5 rfl hl (by decide) rfl (fun ls hl => ?_)
    refine lv_aload_nN hx hb dX0_halt_6 rfl (lv_at hl 0 rfl) ?_
    refine lv_ifnonnullN hx hb dX0_halt_7 ?_
    refine lv_iconst (v := (-1)) hx hb dX0_halt_10 (by decide) ?_
    have hf : fX0_halt B a1 = (B, (-1)) := (if_neg c_1).trans rfl
    exact we_i hC hr hlocks (congrArg Prod.snd hf).symm (congrArg (fun u => wset Z i u.1) hf).symm hW hS dX0_halt_11
def fX0_bringHome (B : wB) (a1 : Int32) : wB × Int32 :=
  if hX0_find B a1 then (let x_2 := fX5_moves a1.toNatClampNeg B
    if x_2 = 0 then (let x_4 := (B (3 + a1.toNatClampNeg) 2) - (B (3 + a1.toNatClampNeg) 3)
      ((bput B (3 + a1.toNatClampNeg) 2 (B (3 + a1.toNatClampNeg) 3)), x_4 + 1000000))
    else (B, (-5)))
  else (B, (-1))
abbrev rX0_bringHome : Room := { frames := 1, cells := 0, slots := 0, locals := 21 }
set_option maxHeartbeats 4000000 in
set_option maxRecDepth 100000 in
theorem kX0_bringHome (l : Launch) (G : wG) (Z : wZ) (i : Nat) (hi : i < 11) (B : wB) (a1 : Int32)  : mI l yX0_bringHome wsX0_bringHome rX0_bringHome G [.ref (G.2.2.1 i 0), .int a1] (wset Z i B) (fX0_bringHome B a1).2 (wset Z i (fX0_bringHome B a1).1) := by
  refine Met.ofW (cc := cX0_bringHome) (maxL := 4) (ret := (some .int)) (by decide) rfl ?_
  intro p e s m args below meth c s₁ B0 hml hv
  obtain ⟨rfl, hW, hK, hL⟩ := hv
  have hlocks := B0.notSynchronized
  have hr := B0.returns
  have hC : wX p s m c cX0_bringHome _ wsX0_bringHome RX0 G := ⟨B0.exec, B0.bytes, findClass_of_methodNamed B0.named, atoms_spec (ws := wsX0_bringHome) B0.pre, hK, hL⟩
  have hx := hC.1
  have hb := hC.2.1
  have hts := hC.2.2.2.1
  have hinRX5 : ∀ w ∈ wsX50, w ∈ wsX0_bringHome := by decide +kernel
  have hk0 := hts (.fieldLink RX0 90 "RampShafts$Shaft" "says" "I") (by decide +kernel)
  have hk1 := hts (.fieldLink RX0 93 "RampShafts$Shaft" "stands" "I") (by decide +kernel)
  have hk2 := hts (.constant RX0 96 (1000000)) (by decide +kernel)
  have hS : va_S (wA G) s.heap s.heap [] := va_S.rf
  have hl := lv_entry ([.ref (G.2.2.1 i 0), .int a1]) (n := 4) (Nat.le_of_ble_eq_true rfl)
  rw [lg_entry_eq]
  generalize (lg_sl ([.ref (G.2.2.1 i 0), .int a1]) ++ List.replicate (4 - (lg_sl ([.ref (G.2.2.1 i 0), .int a1])).length) Slot.unset).toArray = ls at hl ⊢
  have hl : lv_has ls 4 [(0, .ref (G.2.2.1 i 0)), (1, .int a1)] := hl
  refine lv_aload_n hx hb dX0_bringHome_0 rfl (lv_at hl 0 rfl) ?_
  refine lv_iload_n hx hb dX0_bringHome_1 rfl (lv_at hl 1 rfl) ?_
  refine wc_q hC hml (kX0_find l G Z i hi B a1) (cwV 1 hts gX0_bringHome_X0_find rfl rfl rfl (by decide +kernel) ⟨Nat.le_of_ble_eq_true rfl, Nat.le_of_ble_eq_true rfl⟩) hW hS (vB hi (by decide)) (ce_b0 hi) rfl rfl rfl rfl hl.1 (Nat.le_of_ble_eq_true rfl) dX0_bringHome_2 (fun H locs hW hS => ?_)
  by_cases c_1 : hX0_find B a1
  · refine lv_rev (v' := .ref (G.2.2.1 i (3 + a1.toNatClampNeg))) (congrArg va_rf (if_pos c_1)) ?_
    refine lv_astore_n (lv' := [(2, .ref (G.2.2.1 i (3 + a1.toNatClampNeg))), (0, .ref (G.2.2.1 i 0)), (1, .int a1)]) hx hb dX0_bringHome_5 rfl hl (by decide) rfl (fun ls hl => ?_)
    refine lv_aload_n hx hb dX0_bringHome_6 rfl (lv_at hl 0 rfl) ?_
    refine lv_ifnonnull (tgt := 12) hx hb dX0_bringHome_7 (by decide) ?_
    refine lv_aload_n hx hb dX0_bringHome_12 rfl (lv_at hl 0 rfl) ?_
    refine wc_i hC hml (kX5_moves l G Z i hi a1.toNatClampNeg (find_lt c_1) B) (cwV 0 hts gX0_bringHome_X5_moves rfl rfl rfl (by decide +kernel) ⟨Nat.le_of_ble_eq_true rfl, Nat.le_of_ble_eq_true rfl⟩) hW hS (vBs hi (find_lt c_1)) (ce_bs hi (find_lt c_1)) rfl rfl rfl rfl hl.1 (Nat.le_of_ble_eq_true rfl) dX0_bringHome_13 (fun H locs hW hS => ?_)
    refine lv_topi (fun x_2 ex_2 => ?_)
    refine lv_if_eq (tgt := 22) hx hb dX0_bringHome_16 (by decide) (fun c_3 => ?_) (fun c_3 => ?_)
    · skip
      refine lv_aload_n hx hb dX0_bringHome_22 rfl (lv_at hl 0 rfl) ?_
      refine wr_get hC hinRX5 hW (vBs hi (find_lt c_1)) (ce_bs hi (find_lt c_1)) rfl 2 (by decide) hk0 rfl dX0_bringHome_23 ?_
      refine lv_aload_n hx hb dX0_bringHome_26 rfl (lv_at hl 0 rfl) ?_
      refine wr_get hC hinRX5 hW (vBs hi (find_lt c_1)) (ce_bs hi (find_lt c_1)) rfl 3 (by decide) hk1 rfl dX0_bringHome_27 ?_
      refine lv_isub hx hb dX0_bringHome_30 ?_
      refine lv_topi (fun x_4 ex_4 => ?_)
      refine lv_istore_n (lv' := [(3, .int x_4), (2, .ref (G.2.2.1 i (3 + a1.toNatClampNeg))), (0, .ref (G.2.2.1 i 0)), (1, .int a1)]) hx hb dX0_bringHome_31 rfl hl (by decide) rfl (fun ls hl => ?_)
      refine lv_aload_n hx hb dX0_bringHome_32 rfl (lv_at hl 1 rfl) ?_
      refine lv_aload_n hx hb dX0_bringHome_33 rfl (lv_at hl 1 rfl) ?_
      refine wr_get hC hinRX5 hW (vBs hi (find_lt c_1)) (ce_bs hi (find_lt c_1)) rfl 3 (by decide) hk1 rfl dX0_bringHome_34 ?_
      refine wr_put (Z' := wset Z i (bput B (3 + a1.toNatClampNeg) 2 (B (3 + a1.toNatClampNeg) 3))) (v := .int (B (3 + a1.toNatClampNeg) 3)) hC hinRX5 tyX5 tyX5_ok nmX5 hW hS (vBs hi (find_lt c_1)) (ce_bs hi (find_lt c_1)) rfl 2 (by decide) hk0 rfl (tyX5_ok 2 (by decide)) rfl rfl (Nat.le_of_ble_eq_true rfl) wset_off (pu_bs_2 hi (find_lt c_1)) dX0_bringHome_37 (fun H locs hW hS => ?_)
      refine lv_iload_n hx hb dX0_bringHome_40 rfl (lv_at hl 0 rfl) ?_
      refine lv_ldc (v := 1000000) hx hb hC.2.2.1 hk2 dX0_bringHome_41 ?_
      refine lv_iadd hx hb dX0_bringHome_43 ?_
      have hf : fX0_bringHome B a1 = ((bput B (3 + a1.toNatClampNeg) 2 (B (3 + a1.toNatClampNeg) 3)), x_4 + 1000000) := by
        subst ex_4
        subst ex_2
        exact (if_pos c_1).trans ((if_pos c_3).trans rfl)
      exact we_i hC hr hlocks (congrArg Prod.snd hf).symm (congrArg (fun u => wset Z i u.1) hf).symm hW hS dX0_bringHome_44
    · skip
      refine lv_bipush (v := (-5)) hx hb dX0_bringHome_19 (by decide) ?_
      have hf : fX0_bringHome B a1 = (B, (-5)) := by
        subst ex_2
        exact (if_pos c_1).trans ((if_neg c_3).trans rfl)
      exact we_i hC hr hlocks (congrArg Prod.snd hf).symm (congrArg (fun u => wset Z i u.1) hf).symm hW hS dX0_bringHome_21
  · refine lv_rev (v' := .null) (congrArg va_rf (if_neg c_1)) ?_
    refine lv_astore_nN (lv' := [(2, .null), (0, .ref (G.2.2.1 i 0)), (1, .int a1)]) hx hb dX0_bringHome_5 rfl hl (by decide) rfl (fun ls hl => ?_)
    refine lv_aload_nN hx hb dX0_bringHome_6 rfl (lv_at hl 0 rfl) ?_
    refine lv_ifnonnullN hx hb dX0_bringHome_7 ?_
    refine lv_iconst (v := (-1)) hx hb dX0_bringHome_10 (by decide) ?_
    have hf : fX0_bringHome B a1 = (B, (-1)) := (if_neg c_1).trans rfl
    exact we_i hC hr hlocks (congrArg Prod.snd hf).symm (congrArg (fun u => wset Z i u.1) hf).symm hW hS dX0_bringHome_11
def fX0_copyPlan (B : wB) (a1 : Int32) (a2 : Int32) : wB :=
  if a1 < 0 then B
  else if 12 ≤ a1 then B
  else if a2 < 0 then B
  else if a2 < 12 then (bput (bput (bput B 11 a2.toNatClampNeg (B 11 a1.toNatClampNeg)) 12 a2.toNatClampNeg (B 12 a1.toNatClampNeg)) 13 a2.toNatClampNeg (B 13 a1.toNatClampNeg))
  else B
abbrev rX0_copyPlan : Room := { frames := 0, cells := 0, slots := 0, locals := 0 }
set_option maxHeartbeats 4000000 in
set_option maxRecDepth 100000 in
theorem kX0_copyPlan (l : Launch) (G : wG) (Z : wZ) (i : Nat) (hi : i < 11) (B : wB) (a1 : Int32) (a2 : Int32)  : mV l yX0_copyPlan wsX0_copyPlan rX0_copyPlan G [.ref (G.2.2.1 i 0), .int a1, .int a2] (wset Z i B) (wset Z i (fX0_copyPlan B a1 a2)) := by
  refine Met.ofW (cc := cX0_copyPlan) (maxL := 3) (ret := none) (by decide) rfl ?_
  intro p e s m args below meth c s₁ B0 hml hv
  obtain ⟨rfl, hW, hK, hL⟩ := hv
  have hlocks := B0.notSynchronized
  have hr := B0.returns
  have hC : wX p s m c cX0_copyPlan _ wsX0_copyPlan RX0 G := ⟨B0.exec, B0.bytes, findClass_of_methodNamed B0.named, atoms_spec (ws := wsX0_copyPlan) B0.pre, hK, hL⟩
  have hx := hC.1
  have hb := hC.2.1
  have hts := hC.2.2.2.1
  have hinRX0 : ∀ w ∈ wsX00, w ∈ wsX0_copyPlan := by decide +kernel
  have hk0 := hts (.fieldLink RX0 25 "RampShafts$Bench" "planTimes" "[I") (by decide +kernel)
  have hk1 := hts (.fieldLink RX0 29 "RampShafts$Bench" "planShafts" "[I") (by decide +kernel)
  have hk2 := hts (.fieldLink RX0 32 "RampShafts$Bench" "planPlaces" "[I") (by decide +kernel)
  have hS : va_S (wA G) s.heap s.heap [] := va_S.rf
  have hl := lv_entry ([.ref (G.2.2.1 i 0), .int a1, .int a2]) (n := 3) (Nat.le_of_ble_eq_true rfl)
  rw [lg_entry_eq]
  generalize (lg_sl ([.ref (G.2.2.1 i 0), .int a1, .int a2]) ++ List.replicate (3 - (lg_sl ([.ref (G.2.2.1 i 0), .int a1, .int a2])).length) Slot.unset).toArray = ls at hl ⊢
  have hl : lv_has ls 3 [(0, .ref (G.2.2.1 i 0)), (1, .int a1), (2, .int a2)] := hl
  refine lv_iload_n hx hb dX0_copyPlan_0 rfl (lv_at hl 1 rfl) ?_
  refine lv_if_lt (tgt := 20) hx hb dX0_copyPlan_1 (by decide) (fun c_1 => ?_) (fun c_1 => ?_)
  · skip
    have hf : fX0_copyPlan B a1 a2 = B := (if_pos c_1).trans rfl
    exact we_v hC hr hlocks (congrArg (wset Z i) hf).symm hW hS dX0_copyPlan_20
  · skip
    refine lv_iload_n hx hb dX0_copyPlan_4 rfl (lv_at hl 1 rfl) ?_
    refine lv_bipush (v := 12) hx hb dX0_copyPlan_5 (by decide) ?_
    refine lv_icmp_ge (tgt := 20) hx hb dX0_copyPlan_7 (by decide) (fun c_2 => ?_) (fun c_2 => ?_)
    · skip
      have hf : fX0_copyPlan B a1 a2 = B := (if_neg c_1).trans ((if_pos c_2).trans rfl)
      exact we_v hC hr hlocks (congrArg (wset Z i) hf).symm hW hS dX0_copyPlan_20
    · skip
      refine lv_iload_n hx hb dX0_copyPlan_10 rfl (lv_at hl 2 rfl) ?_
      refine lv_if_lt (tgt := 20) hx hb dX0_copyPlan_11 (by decide) (fun c_3 => ?_) (fun c_3 => ?_)
      · skip
        have hf : fX0_copyPlan B a1 a2 = B := (if_neg c_1).trans ((if_neg c_2).trans ((if_pos c_3).trans rfl))
        exact we_v hC hr hlocks (congrArg (wset Z i) hf).symm hW hS dX0_copyPlan_20
      · skip
        refine lv_iload_n hx hb dX0_copyPlan_14 rfl (lv_at hl 2 rfl) ?_
        refine lv_bipush (v := 12) hx hb dX0_copyPlan_15 (by decide) ?_
        refine lv_icmp_lt (tgt := 21) hx hb dX0_copyPlan_17 (by decide) (fun c_4 => ?_) (fun c_4 => ?_)
        · skip
          refine lv_aload_n hx hb dX0_copyPlan_21 rfl (lv_at hl 0 rfl) ?_
          refine wr_get hC hinRX0 hW (vB hi (by decide)) (ce_b0 hi) rfl 2 (by decide) hk0 rfl dX0_copyPlan_22 ?_
          refine lv_iload_n hx hb dX0_copyPlan_25 rfl (lv_at hl 2 rfl) ?_
          refine lv_aload_n hx hb dX0_copyPlan_26 rfl (lv_at hl 0 rfl) ?_
          refine wr_get hC hinRX0 hW (vB hi (by decide)) (ce_b0 hi) rfl 2 (by decide) hk0 rfl dX0_copyPlan_27 ?_
          refine lv_iload_n hx hb dX0_copyPlan_30 rfl (lv_at hl 1 rfl) ?_
          have hv_5 : vp_in a1 12 := in_ge (N := 12) (by decide) (by decide) c_1 c_2
          refine wr_ald (kA := 0) hC hW (vB hi (by decide)) (ce_bp hi (by decide)) rfl hv_5 dX0_copyPlan_31 ?_
          have hv_6 : vp_in a2 12 := in_lt (N := 12) (by decide) (by decide) c_3 c_4
          refine wr_ast (kA := 0) (Z' := wset Z i (bput B 11 a2.toNatClampNeg (B 11 a1.toNatClampNeg))) hC hW hS (vB hi (by decide)) (ce_bp hi (by decide)) rfl hv_6 wset_off (pu_bp hi (by decide)) dX0_copyPlan_32 (fun H locs hW hS => ?_)
          refine lv_aload_n hx hb dX0_copyPlan_33 rfl (lv_at hl 0 rfl) ?_
          refine wr_get hC hinRX0 hW (vB hi (by decide)) (ce_b0 hi) rfl 3 (by decide) hk1 rfl dX0_copyPlan_34 ?_
          refine lv_iload_n hx hb dX0_copyPlan_37 rfl (lv_at hl 2 rfl) ?_
          refine lv_aload_n hx hb dX0_copyPlan_38 rfl (lv_at hl 0 rfl) ?_
          refine wr_get hC hinRX0 hW (vB hi (by decide)) (ce_b0 hi) rfl 3 (by decide) hk1 rfl dX0_copyPlan_39 ?_
          refine lv_iload_n hx hb dX0_copyPlan_42 rfl (lv_at hl 1 rfl) ?_
          have hv_7 : vp_in a1 12 := in_ge (N := 12) (by decide) (by decide) c_1 c_2
          refine wr_ald (kA := 0) hC hW (vB hi (by decide)) (ce_bp hi (by decide)) rfl hv_7 dX0_copyPlan_43 ?_
          refine lv_re (y := B 12 a1.toNatClampNeg) (bput_j (by omega)) ?_
          have hv_8 : vp_in a2 12 := in_lt (N := 12) (by decide) (by decide) c_3 c_4
          refine wr_ast (kA := 0) (Z' := wset Z i (bput (bput B 11 a2.toNatClampNeg (B 11 a1.toNatClampNeg)) 12 a2.toNatClampNeg (B 12 a1.toNatClampNeg))) hC hW hS (vB hi (by decide)) (ce_bp hi (by decide)) rfl hv_8 wset_off (pu_bp hi (by decide)) dX0_copyPlan_44 (fun H locs hW hS => ?_)
          refine lv_aload_n hx hb dX0_copyPlan_45 rfl (lv_at hl 0 rfl) ?_
          refine wr_get hC hinRX0 hW (vB hi (by decide)) (ce_b0 hi) rfl 4 (by decide) hk2 rfl dX0_copyPlan_46 ?_
          refine lv_iload_n hx hb dX0_copyPlan_49 rfl (lv_at hl 2 rfl) ?_
          refine lv_aload_n hx hb dX0_copyPlan_50 rfl (lv_at hl 0 rfl) ?_
          refine wr_get hC hinRX0 hW (vB hi (by decide)) (ce_b0 hi) rfl 4 (by decide) hk2 rfl dX0_copyPlan_51 ?_
          refine lv_iload_n hx hb dX0_copyPlan_54 rfl (lv_at hl 1 rfl) ?_
          have hv_9 : vp_in a1 12 := in_ge (N := 12) (by decide) (by decide) c_1 c_2
          refine wr_ald (kA := 0) hC hW (vB hi (by decide)) (ce_bp hi (by decide)) rfl hv_9 dX0_copyPlan_55 ?_
          refine lv_re (y := B 13 a1.toNatClampNeg) ((bput_j (by omega)).trans (bput_j (by omega))) ?_
          have hv_10 : vp_in a2 12 := in_lt (N := 12) (by decide) (by decide) c_3 c_4
          refine wr_ast (kA := 0) (Z' := wset Z i (bput (bput (bput B 11 a2.toNatClampNeg (B 11 a1.toNatClampNeg)) 12 a2.toNatClampNeg (B 12 a1.toNatClampNeg)) 13 a2.toNatClampNeg (B 13 a1.toNatClampNeg))) hC hW hS (vB hi (by decide)) (ce_bp hi (by decide)) rfl hv_10 wset_off (pu_bp hi (by decide)) dX0_copyPlan_56 (fun H locs hW hS => ?_)
          have hf : fX0_copyPlan B a1 a2 = (bput (bput (bput B 11 a2.toNatClampNeg (B 11 a1.toNatClampNeg)) 12 a2.toNatClampNeg (B 12 a1.toNatClampNeg)) 13 a2.toNatClampNeg (B 13 a1.toNatClampNeg)) := (if_neg c_1).trans ((if_neg c_2).trans ((if_neg c_3).trans ((if_pos c_4).trans rfl)))
          exact we_v hC hr hlocks (congrArg (wset Z i) hf).symm hW hS dX0_copyPlan_57
        · skip
          have hf : fX0_copyPlan B a1 a2 = B := (if_neg c_1).trans ((if_neg c_2).trans ((if_neg c_3).trans ((if_neg c_4).trans rfl)))
          exact we_v hC hr hlocks (congrArg (wset Z i) hf).symm hW hS dX0_copyPlan_20
def fX0_isDue (B : wB) (a1 : Int32) : Int32 :=
  if hX0_find B a1 then (let x_2 := fX5_moves a1.toNatClampNeg B
    if x_2 = 0 then 0
    else if (B (3 + a1.toNatClampNeg) 7) = (B 0 2) then 1
    else 0)
  else 0
abbrev rX0_isDue : Room := { frames := 1, cells := 0, slots := 0, locals := 21 }
set_option maxHeartbeats 4000000 in
set_option maxRecDepth 100000 in
theorem kX0_isDue (l : Launch) (G : wG) (Z : wZ) (i : Nat) (hi : i < 11) (B : wB) (a1 : Int32)  : mI l yX0_isDue wsX0_isDue rX0_isDue G [.ref (G.2.2.1 i 0), .int a1] (wset Z i B) (fX0_isDue B a1) (wset Z i B) := by
  refine Met.ofW (cc := cX0_isDue) (maxL := 3) (ret := (some .boolean)) (by decide) rfl ?_
  intro p e s m args below meth c s₁ B0 hml hv
  obtain ⟨rfl, hW, hK, hL⟩ := hv
  have hlocks := B0.notSynchronized
  have hr := B0.returns
  have hC : wX p s m c cX0_isDue _ wsX0_isDue RX0 G := ⟨B0.exec, B0.bytes, findClass_of_methodNamed B0.named, atoms_spec (ws := wsX0_isDue) B0.pre, hK, hL⟩
  have hx := hC.1
  have hb := hC.2.1
  have hts := hC.2.2.2.1
  have hinRX0 : ∀ w ∈ wsX00, w ∈ wsX0_isDue := by decide +kernel
  have hinRX5 : ∀ w ∈ wsX50, w ∈ wsX0_isDue := by decide +kernel
  have hk0 := hts (.fieldLink RX0 110 "RampShafts$Shaft" "next" "I") (by decide +kernel)
  have hk1 := hts (.fieldLink RX0 49 "RampShafts$Bench" "time" "I") (by decide +kernel)
  have hS : va_S (wA G) s.heap s.heap [] := va_S.rf
  have hl := lv_entry ([.ref (G.2.2.1 i 0), .int a1]) (n := 3) (Nat.le_of_ble_eq_true rfl)
  rw [lg_entry_eq]
  generalize (lg_sl ([.ref (G.2.2.1 i 0), .int a1]) ++ List.replicate (3 - (lg_sl ([.ref (G.2.2.1 i 0), .int a1])).length) Slot.unset).toArray = ls at hl ⊢
  have hl : lv_has ls 3 [(0, .ref (G.2.2.1 i 0)), (1, .int a1)] := hl
  refine lv_aload_n hx hb dX0_isDue_0 rfl (lv_at hl 0 rfl) ?_
  refine lv_iload_n hx hb dX0_isDue_1 rfl (lv_at hl 1 rfl) ?_
  refine wc_q hC hml (kX0_find l G Z i hi B a1) (cwV 1 hts gX0_isDue_X0_find rfl rfl rfl (by decide +kernel) ⟨Nat.le_of_ble_eq_true rfl, Nat.le_of_ble_eq_true rfl⟩) hW hS (vB hi (by decide)) (ce_b0 hi) rfl rfl rfl rfl hl.1 (Nat.le_of_ble_eq_true rfl) dX0_isDue_2 (fun H locs hW hS => ?_)
  by_cases c_1 : hX0_find B a1
  · refine lv_rev (v' := .ref (G.2.2.1 i (3 + a1.toNatClampNeg))) (congrArg va_rf (if_pos c_1)) ?_
    refine lv_astore_n (lv' := [(2, .ref (G.2.2.1 i (3 + a1.toNatClampNeg))), (0, .ref (G.2.2.1 i 0)), (1, .int a1)]) hx hb dX0_isDue_5 rfl hl (by decide) rfl (fun ls hl => ?_)
    refine lv_aload_n hx hb dX0_isDue_6 rfl (lv_at hl 0 rfl) ?_
    refine lv_ifnull hx hb dX0_isDue_7 ?_
    refine lv_aload_n hx hb dX0_isDue_10 rfl (lv_at hl 0 rfl) ?_
    refine wc_i hC hml (kX5_moves l G Z i hi a1.toNatClampNeg (find_lt c_1) B) (cwV 0 hts gX0_isDue_X5_moves rfl rfl rfl (by decide +kernel) ⟨Nat.le_of_ble_eq_true rfl, Nat.le_of_ble_eq_true rfl⟩) hW hS (vBs hi (find_lt c_1)) (ce_bs hi (find_lt c_1)) rfl rfl rfl rfl hl.1 (Nat.le_of_ble_eq_true rfl) dX0_isDue_11 (fun H locs hW hS => ?_)
    refine lv_topi (fun x_2 ex_2 => ?_)
    refine lv_if_eq (tgt := 32) hx hb dX0_isDue_14 (by decide) (fun c_3 => ?_) (fun c_3 => ?_)
    · skip
      refine lv_iconst (v := 0) hx hb dX0_isDue_32 (by decide) ?_
      have hf : fX0_isDue B a1 = 0 := by
        subst ex_2
        exact (if_pos c_1).trans ((if_pos c_3).trans rfl)
      exact we_z hC hr hlocks (by first | rfl | decide | assumption | exact nar_char_i _) hf.symm rfl hW hS dX0_isDue_33
    · skip
      refine lv_aload_n hx hb dX0_isDue_17 rfl (lv_at hl 0 rfl) ?_
      refine wr_get hC hinRX5 hW (vBs hi (find_lt c_1)) (ce_bs hi (find_lt c_1)) rfl 7 (by decide) hk0 rfl dX0_isDue_18 ?_
      refine lv_aload_n hx hb dX0_isDue_21 rfl (lv_at hl 1 rfl) ?_
      refine wr_get hC hinRX0 hW (vB hi (by decide)) (ce_b0 hi) rfl 7 (by decide) hk1 rfl dX0_isDue_22 ?_
      refine lv_icmp_ne (tgt := 32) hx hb dX0_isDue_25 (by decide) (fun c_4 => ?_) (fun c_4 => ?_)
      · skip
        refine lv_iconst (v := 0) hx hb dX0_isDue_32 (by decide) ?_
        have hf : fX0_isDue B a1 = 0 := by
          subst ex_2
          exact (if_pos c_1).trans ((if_neg c_3).trans ((if_neg c_4).trans rfl))
        exact we_z hC hr hlocks (by first | rfl | decide | assumption | exact nar_char_i _) hf.symm rfl hW hS dX0_isDue_33
      · skip
        refine lv_iconst (v := 1) hx hb dX0_isDue_28 (by decide) ?_
        refine lv_goto (tgt := 33) hx hb dX0_isDue_29 (by decide) ?_
        have hf : fX0_isDue B a1 = 1 := by
          subst ex_2
          exact (if_pos c_1).trans ((if_neg c_3).trans ((if_pos c_4).trans rfl))
        exact we_z hC hr hlocks (by first | rfl | decide | assumption | exact nar_char_i _) hf.symm rfl hW hS dX0_isDue_33
  · refine lv_rev (v' := .null) (congrArg va_rf (if_neg c_1)) ?_
    refine lv_astore_nN (lv' := [(2, .null), (0, .ref (G.2.2.1 i 0)), (1, .int a1)]) hx hb dX0_isDue_5 rfl hl (by decide) rfl (fun ls hl => ?_)
    refine lv_aload_nN hx hb dX0_isDue_6 rfl (lv_at hl 0 rfl) ?_
    refine lv_ifnullN (tgt := 32) hx hb dX0_isDue_7 (by decide) ?_
    refine lv_iconst (v := 0) hx hb dX0_isDue_32 (by decide) ?_
    have hf : fX0_isDue B a1 = 0 := (if_neg c_1).trans rfl
    exact we_z hC hr hlocks (by first | rfl | decide | assumption | exact nar_char_i _) hf.symm rfl hW hS dX0_isDue_33

theorem vp_lt {x : Int32} {n : Nat} (h : vp_in x n) : x.toNatClampNeg < n := Nat.not_le.mp fun q => h (Or.inr q)
def fX3_valueOf (B : wB) (a1 : Int32) : Int32 :=
  if a1 = 0 then B 1 0
  else if a1 = 1 then B 1 1
  else if a1 = 2 then B 1 2
  else if a1 = 3 then B 1 3
  else if a1 = 4 then B 1 4
  else (-2)
abbrev rX3_valueOf : Room := { frames := 0, cells := 0, slots := 0, locals := 0 }
set_option maxHeartbeats 4000000 in
set_option maxRecDepth 100000 in
theorem kX3_valueOf (l : Launch) (G : wG) (Z : wZ) (i : Nat) (hi : i < 11) (B : wB) (a1 : Int32)  : mI l yX3_valueOf wsX3_valueOf rX3_valueOf G [.ref (G.2.2.1 i 1), .int a1] (wset Z i B) (fX3_valueOf B a1) (wset Z i B) := by
  refine Met.ofW (cc := cX3_valueOf) (maxL := 2) (ret := (some .int)) (by decide) rfl ?_
  intro p e s m args below meth c s₁ B0 hml hv
  obtain ⟨rfl, hW, hK, hL⟩ := hv
  have hlocks := B0.notSynchronized
  have hr := B0.returns
  have hC : wX p s m c cX3_valueOf _ wsX3_valueOf RX3 G := ⟨B0.exec, B0.bytes, findClass_of_methodNamed B0.named, atoms_spec (ws := wsX3_valueOf) B0.pre, hK, hL⟩
  have hx := hC.1
  have hb := hC.2.1
  have hts := hC.2.2.2.1
  have hinRX3 : ∀ w ∈ wsX30, w ∈ wsX3_valueOf := by decide +kernel
  have hk0 := hts (.fieldLink RX3 9 "RampShafts$Ramp" "start" "I") (by decide +kernel)
  have hk1 := hts (.fieldLink RX3 15 "RampShafts$Ramp" "top" "I") (by decide +kernel)
  have hk2 := hts (.fieldLink RX3 18 "RampShafts$Ramp" "gain" "I") (by decide +kernel)
  have hk3 := hts (.fieldLink RX3 21 "RampShafts$Ramp" "grip" "I") (by decide +kernel)
  have hk4 := hts (.fieldLink RX3 24 "RampShafts$Ramp" "pull" "I") (by decide +kernel)
  have hS : va_S (wA G) s.heap s.heap [] := va_S.rf
  have hl := lv_entry ([.ref (G.2.2.1 i 1), .int a1]) (n := 2) (Nat.le_of_ble_eq_true rfl)
  rw [lg_entry_eq]
  generalize (lg_sl ([.ref (G.2.2.1 i 1), .int a1]) ++ List.replicate (2 - (lg_sl ([.ref (G.2.2.1 i 1), .int a1])).length) Slot.unset).toArray = ls at hl ⊢
  have hl : lv_has ls 2 [(0, .ref (G.2.2.1 i 1)), (1, .int a1)] := hl
  refine lv_iload_n hx hb dX3_valueOf_0 rfl (lv_at hl 1 rfl) ?_
  by_cases c_1 : a1 = 0
  · refine lv_re c_1 ?_
    refine lv_tableIn (tgt := 36) (off := 35) hx hb dX3_valueOf_1 (by decide) (by decide) (by decide) (by decide) ?_
    refine lv_aload_n hx hb dX3_valueOf_36 rfl (lv_at hl 0 rfl) ?_
    refine wr_get hC hinRX3 hW (vB hi (by decide)) (ce_b1 hi) rfl 0 (by decide) hk0 rfl dX3_valueOf_37 ?_
    have hf : fX3_valueOf B a1 = B 1 0 := (if_pos c_1).trans rfl
    exact we_i hC hr hlocks hf.symm rfl hW hS dX3_valueOf_40
  by_cases c_2 : a1 = 1
  · refine lv_re c_2 ?_
    refine lv_tableIn (tgt := 41) (off := 40) hx hb dX3_valueOf_1 (by decide) (by decide) (by decide) (by decide) ?_
    refine lv_aload_n hx hb dX3_valueOf_41 rfl (lv_at hl 0 rfl) ?_
    refine wr_get hC hinRX3 hW (vB hi (by decide)) (ce_b1 hi) rfl 1 (by decide) hk1 rfl dX3_valueOf_42 ?_
    have hf : fX3_valueOf B a1 = B 1 1 := (if_neg c_1).trans ((if_pos c_2).trans rfl)
    exact we_i hC hr hlocks hf.symm rfl hW hS dX3_valueOf_45
  by_cases c_3 : a1 = 2
  · refine lv_re c_3 ?_
    refine lv_tableIn (tgt := 46) (off := 45) hx hb dX3_valueOf_1 (by decide) (by decide) (by decide) (by decide) ?_
    refine lv_aload_n hx hb dX3_valueOf_46 rfl (lv_at hl 0 rfl) ?_
    refine wr_get hC hinRX3 hW (vB hi (by decide)) (ce_b1 hi) rfl 2 (by decide) hk2 rfl dX3_valueOf_47 ?_
    have hf : fX3_valueOf B a1 = B 1 2 := (if_neg c_1).trans ((if_neg c_2).trans ((if_pos c_3).trans rfl))
    exact we_i hC hr hlocks hf.symm rfl hW hS dX3_valueOf_50
  by_cases c_4 : a1 = 3
  · refine lv_re c_4 ?_
    refine lv_tableIn (tgt := 51) (off := 50) hx hb dX3_valueOf_1 (by decide) (by decide) (by decide) (by decide) ?_
    refine lv_aload_n hx hb dX3_valueOf_51 rfl (lv_at hl 0 rfl) ?_
    refine wr_get hC hinRX3 hW (vB hi (by decide)) (ce_b1 hi) rfl 3 (by decide) hk3 rfl dX3_valueOf_52 ?_
    have hf : fX3_valueOf B a1 = B 1 3 := (if_neg c_1).trans ((if_neg c_2).trans ((if_neg c_3).trans ((if_pos c_4).trans rfl)))
    exact we_i hC hr hlocks hf.symm rfl hW hS dX3_valueOf_55
  by_cases c_5 : a1 = 4
  · refine lv_re c_5 ?_
    refine lv_tableIn (tgt := 56) (off := 55) hx hb dX3_valueOf_1 (by decide) (by decide) (by decide) (by decide) ?_
    refine lv_aload_n hx hb dX3_valueOf_56 rfl (lv_at hl 0 rfl) ?_
    refine wr_get hC hinRX3 hW (vB hi (by decide)) (ce_b1 hi) rfl 4 (by decide) hk4 rfl dX3_valueOf_57 ?_
    have hf : fX3_valueOf B a1 = B 1 4 := (if_neg c_1).trans ((if_neg c_2).trans ((if_neg c_3).trans ((if_neg c_4).trans ((if_pos c_5).trans rfl))))
    exact we_i hC hr hlocks hf.symm rfl hW hS dX3_valueOf_60
  refine lv_tableOut (tgt := 61) hx hb dX3_valueOf_1 (by
    have hz : ∀ k : Int32, ¬ a1 = k → ¬ a1.toInt = k.toInt := fun k h q => h (Int32.toInt_inj.mp q)
    have c_1z : ¬ a1.toInt = 0 := fun q => hz 0 c_1 (q.trans (by decide))
    have c_2z : ¬ a1.toInt = 1 := fun q => hz 1 c_2 (q.trans (by decide))
    have c_3z : ¬ a1.toInt = 2 := fun q => hz 2 c_3 (q.trans (by decide))
    have c_4z : ¬ a1.toInt = 3 := fun q => hz 3 c_4 (q.trans (by decide))
    have c_5z : ¬ a1.toInt = 4 := fun q => hz 4 c_5 (q.trans (by decide))
    omega) (by decide) ?_
  refine lv_bipush (v := (-2)) hx hb dX3_valueOf_61 (by decide) ?_
  have hf : fX3_valueOf B a1 = (-2) := (if_neg c_1).trans ((if_neg c_2).trans ((if_neg c_3).trans ((if_neg c_4).trans ((if_neg c_5).trans rfl))))
  exact we_i hC hr hlocks hf.symm rfl hW hS dX3_valueOf_63
def fX3_intervalOf (B : wB) (a1 : Int32) : Int32 :=
  let x_1 := (B 1 0) - ((B 1 2) * a1)
  if x_1 ≤ (B 1 1) then B 1 1
  else x_1
abbrev rX3_intervalOf : Room := { frames := 0, cells := 0, slots := 0, locals := 0 }
set_option maxHeartbeats 4000000 in
set_option maxRecDepth 100000 in
theorem kX3_intervalOf (l : Launch) (G : wG) (Z : wZ) (i : Nat) (hi : i < 11) (B : wB) (a1 : Int32)  : mI l yX3_intervalOf wsX3_intervalOf rX3_intervalOf G [.ref (G.2.2.1 i 1), .int a1] (wset Z i B) (fX3_intervalOf B a1) (wset Z i B) := by
  refine Met.ofW (cc := cX3_intervalOf) (maxL := 3) (ret := (some .int)) (by decide) rfl ?_
  intro p e s m args below meth c s₁ B0 hml hv
  obtain ⟨rfl, hW, hK, hL⟩ := hv
  have hlocks := B0.notSynchronized
  have hr := B0.returns
  have hC : wX p s m c cX3_intervalOf _ wsX3_intervalOf RX3 G := ⟨B0.exec, B0.bytes, findClass_of_methodNamed B0.named, atoms_spec (ws := wsX3_intervalOf) B0.pre, hK, hL⟩
  have hx := hC.1
  have hb := hC.2.1
  have hts := hC.2.2.2.1
  have hinRX3 : ∀ w ∈ wsX30, w ∈ wsX3_intervalOf := by decide +kernel
  have hk0 := hts (.fieldLink RX3 9 "RampShafts$Ramp" "start" "I") (by decide +kernel)
  have hk1 := hts (.fieldLink RX3 18 "RampShafts$Ramp" "gain" "I") (by decide +kernel)
  have hk2 := hts (.fieldLink RX3 15 "RampShafts$Ramp" "top" "I") (by decide +kernel)
  have hS : va_S (wA G) s.heap s.heap [] := va_S.rf
  have hl := lv_entry ([.ref (G.2.2.1 i 1), .int a1]) (n := 3) (Nat.le_of_ble_eq_true rfl)
  rw [lg_entry_eq]
  generalize (lg_sl ([.ref (G.2.2.1 i 1), .int a1]) ++ List.replicate (3 - (lg_sl ([.ref (G.2.2.1 i 1), .int a1])).length) Slot.unset).toArray = ls at hl ⊢
  have hl : lv_has ls 3 [(0, .ref (G.2.2.1 i 1)), (1, .int a1)] := hl
  refine lv_aload_n hx hb dX3_intervalOf_0 rfl (lv_at hl 0 rfl) ?_
  refine wr_get hC hinRX3 hW (vB hi (by decide)) (ce_b1 hi) rfl 0 (by decide) hk0 rfl dX3_intervalOf_1 ?_
  refine lv_aload_n hx hb dX3_intervalOf_4 rfl (lv_at hl 0 rfl) ?_
  refine wr_get hC hinRX3 hW (vB hi (by decide)) (ce_b1 hi) rfl 2 (by decide) hk1 rfl dX3_intervalOf_5 ?_
  refine lv_iload_n hx hb dX3_intervalOf_8 rfl (lv_at hl 1 rfl) ?_
  refine lv_imul hx hb dX3_intervalOf_9 ?_
  refine lv_isub hx hb dX3_intervalOf_10 ?_
  refine lv_topi (fun x_1 ex_1 => ?_)
  refine lv_istore_n (lv' := [(2, .int x_1), (0, .ref (G.2.2.1 i 1)), (1, .int a1)]) hx hb dX3_intervalOf_11 rfl hl (by decide) rfl (fun ls hl => ?_)
  refine lv_iload_n hx hb dX3_intervalOf_12 rfl (lv_at hl 0 rfl) ?_
  refine lv_aload_n hx hb dX3_intervalOf_13 rfl (lv_at hl 1 rfl) ?_
  refine wr_get hC hinRX3 hW (vB hi (by decide)) (ce_b1 hi) rfl 1 (by decide) hk2 rfl dX3_intervalOf_14 ?_
  refine lv_icmp_le (tgt := 24) hx hb dX3_intervalOf_17 (by decide) (fun c_2 => ?_) (fun c_2 => ?_)
  · skip
    refine lv_aload_n hx hb dX3_intervalOf_24 rfl (lv_at hl 1 rfl) ?_
    refine wr_get hC hinRX3 hW (vB hi (by decide)) (ce_b1 hi) rfl 1 (by decide) hk2 rfl dX3_intervalOf_25 ?_
    have hf : fX3_intervalOf B a1 = B 1 1 := by
      subst ex_1
      exact (if_pos c_2).trans rfl
    exact we_i hC hr hlocks hf.symm rfl hW hS dX3_intervalOf_28
  · skip
    refine lv_iload_n hx hb dX3_intervalOf_20 rfl (lv_at hl 0 rfl) ?_
    refine lv_goto (tgt := 28) hx hb dX3_intervalOf_21 (by decide) ?_
    have hf : fX3_intervalOf B a1 = x_1 := by
      subst ex_1
      exact (if_neg c_2).trans rfl
    exact we_i hC hr hlocks hf.symm rfl hW hS dX3_intervalOf_28
def fX3_isInRange (a1 : Int32) (a2 : Int32) : Int32 :=
  if a1 = 0 then (if a2 < 10 then 0
    else if 200 < a2 then 0
    else 1)
  else if a1 = 1 then (if a2 < 2 then 0
    else if 50 < a2 then 0
    else 1)
  else if a1 = 2 then (if a2 < 1 then 0
    else if 40 < a2 then 0
    else 1)
  else if a1 = 3 then (if a2 < 0 then 0
    else if 40 < a2 then 0
    else 1)
  else if a1 = 4 then (if a2 < 0 then 0
    else if 20 < a2 then 0
    else 1)
  else 0
abbrev rX3_isInRange : Room := { frames := 0, cells := 0, slots := 0, locals := 0 }
set_option maxHeartbeats 4000000 in
set_option maxRecDepth 100000 in
theorem kX3_isInRange (l : Launch) (G : wG) (Z : wZ)  (a1 : Int32) (a2 : Int32)  : mI l yX3_isInRange wsX3_isInRange rX3_isInRange G [.int a1, .int a2] Z (fX3_isInRange a1 a2) Z := by
  refine Met.ofW (cc := cX3_isInRange) (maxL := 2) (ret := (some .boolean)) (by decide) rfl ?_
  intro p e s m args below meth c s₁ B0 hml hv
  obtain ⟨rfl, hW, hK, hL⟩ := hv
  have hlocks := B0.notSynchronized
  have hr := B0.returns
  have hC : wX p s m c cX3_isInRange _ wsX3_isInRange RX3 G := ⟨B0.exec, B0.bytes, findClass_of_methodNamed B0.named, atoms_spec (ws := wsX3_isInRange) B0.pre, hK, hL⟩
  have hx := hC.1
  have hb := hC.2.1
  have hts := hC.2.2.2.1
  have hS : va_S (wA G) s.heap s.heap [] := va_S.rf
  have hl := lv_entry ([.int a1, .int a2]) (n := 2) (Nat.le_of_ble_eq_true rfl)
  rw [lg_entry_eq]
  generalize (lg_sl ([.int a1, .int a2]) ++ List.replicate (2 - (lg_sl ([.int a1, .int a2])).length) Slot.unset).toArray = ls at hl ⊢
  have hl : lv_has ls 2 [(0, .int a1), (1, .int a2)] := hl
  refine lv_iload_n hx hb dX3_isInRange_0 rfl (lv_at hl 0 rfl) ?_
  by_cases c_1 : a1 = 0
  · refine lv_re c_1 ?_
    refine lv_tableIn (tgt := 36) (off := 35) hx hb dX3_isInRange_1 (by decide) (by decide) (by decide) (by decide) ?_
    refine lv_iload_n hx hb dX3_isInRange_36 rfl (lv_at hl 1 rfl) ?_
    refine lv_bipush (v := 10) hx hb dX3_isInRange_37 (by decide) ?_
    refine lv_icmp_lt (tgt := 53) hx hb dX3_isInRange_39 (by decide) (fun c_2 => ?_) (fun c_2 => ?_)
    · skip
      refine lv_iconst (v := 0) hx hb dX3_isInRange_53 (by decide) ?_
      have hf : fX3_isInRange a1 a2 = 0 := (if_pos c_1).trans ((if_pos c_2).trans rfl)
      exact we_z hC hr hlocks (by first | rfl | decide | assumption | exact nar_char_i _) hf.symm rfl hW hS dX3_isInRange_54
    · skip
      refine lv_iload_n hx hb dX3_isInRange_42 rfl (lv_at hl 1 rfl) ?_
      refine lv_sipush (v := 200) hx hb dX3_isInRange_43 (by decide) ?_
      refine lv_icmp_gt (tgt := 53) hx hb dX3_isInRange_46 (by decide) (fun c_3 => ?_) (fun c_3 => ?_)
      · skip
        refine lv_iconst (v := 0) hx hb dX3_isInRange_53 (by decide) ?_
        have hf : fX3_isInRange a1 a2 = 0 := (if_pos c_1).trans ((if_neg c_2).trans ((if_pos c_3).trans rfl))
        exact we_z hC hr hlocks (by first | rfl | decide | assumption | exact nar_char_i _) hf.symm rfl hW hS dX3_isInRange_54
      · skip
        refine lv_iconst (v := 1) hx hb dX3_isInRange_49 (by decide) ?_
        refine lv_goto (tgt := 54) hx hb dX3_isInRange_50 (by decide) ?_
        have hf : fX3_isInRange a1 a2 = 1 := (if_pos c_1).trans ((if_neg c_2).trans ((if_neg c_3).trans rfl))
        exact we_z hC hr hlocks (by first | rfl | decide | assumption | exact nar_char_i _) hf.symm rfl hW hS dX3_isInRange_54
  by_cases c_4 : a1 = 1
  · refine lv_re c_4 ?_
    refine lv_tableIn (tgt := 55) (off := 54) hx hb dX3_isInRange_1 (by decide) (by decide) (by decide) (by decide) ?_
    refine lv_iload_n hx hb dX3_isInRange_55 rfl (lv_at hl 1 rfl) ?_
    refine lv_iconst (v := 2) hx hb dX3_isInRange_56 (by decide) ?_
    refine lv_icmp_lt (tgt := 70) hx hb dX3_isInRange_57 (by decide) (fun c_5 => ?_) (fun c_5 => ?_)
    · skip
      refine lv_iconst (v := 0) hx hb dX3_isInRange_70 (by decide) ?_
      have hf : fX3_isInRange a1 a2 = 0 := (if_neg c_1).trans ((if_pos c_4).trans ((if_pos c_5).trans rfl))
      exact we_z hC hr hlocks (by first | rfl | decide | assumption | exact nar_char_i _) hf.symm rfl hW hS dX3_isInRange_71
    · skip
      refine lv_iload_n hx hb dX3_isInRange_60 rfl (lv_at hl 1 rfl) ?_
      refine lv_bipush (v := 50) hx hb dX3_isInRange_61 (by decide) ?_
      refine lv_icmp_gt (tgt := 70) hx hb dX3_isInRange_63 (by decide) (fun c_6 => ?_) (fun c_6 => ?_)
      · skip
        refine lv_iconst (v := 0) hx hb dX3_isInRange_70 (by decide) ?_
        have hf : fX3_isInRange a1 a2 = 0 := (if_neg c_1).trans ((if_pos c_4).trans ((if_neg c_5).trans ((if_pos c_6).trans rfl)))
        exact we_z hC hr hlocks (by first | rfl | decide | assumption | exact nar_char_i _) hf.symm rfl hW hS dX3_isInRange_71
      · skip
        refine lv_iconst (v := 1) hx hb dX3_isInRange_66 (by decide) ?_
        refine lv_goto (tgt := 71) hx hb dX3_isInRange_67 (by decide) ?_
        have hf : fX3_isInRange a1 a2 = 1 := (if_neg c_1).trans ((if_pos c_4).trans ((if_neg c_5).trans ((if_neg c_6).trans rfl)))
        exact we_z hC hr hlocks (by first | rfl | decide | assumption | exact nar_char_i _) hf.symm rfl hW hS dX3_isInRange_71
  by_cases c_7 : a1 = 2
  · refine lv_re c_7 ?_
    refine lv_tableIn (tgt := 72) (off := 71) hx hb dX3_isInRange_1 (by decide) (by decide) (by decide) (by decide) ?_
    refine lv_iload_n hx hb dX3_isInRange_72 rfl (lv_at hl 1 rfl) ?_
    refine lv_iconst (v := 1) hx hb dX3_isInRange_73 (by decide) ?_
    refine lv_icmp_lt (tgt := 87) hx hb dX3_isInRange_74 (by decide) (fun c_8 => ?_) (fun c_8 => ?_)
    · skip
      refine lv_iconst (v := 0) hx hb dX3_isInRange_87 (by decide) ?_
      have hf : fX3_isInRange a1 a2 = 0 := (if_neg c_1).trans ((if_neg c_4).trans ((if_pos c_7).trans ((if_pos c_8).trans rfl)))
      exact we_z hC hr hlocks (by first | rfl | decide | assumption | exact nar_char_i _) hf.symm rfl hW hS dX3_isInRange_88
    · skip
      refine lv_iload_n hx hb dX3_isInRange_77 rfl (lv_at hl 1 rfl) ?_
      refine lv_bipush (v := 40) hx hb dX3_isInRange_78 (by decide) ?_
      refine lv_icmp_gt (tgt := 87) hx hb dX3_isInRange_80 (by decide) (fun c_9 => ?_) (fun c_9 => ?_)
      · skip
        refine lv_iconst (v := 0) hx hb dX3_isInRange_87 (by decide) ?_
        have hf : fX3_isInRange a1 a2 = 0 := (if_neg c_1).trans ((if_neg c_4).trans ((if_pos c_7).trans ((if_neg c_8).trans ((if_pos c_9).trans rfl))))
        exact we_z hC hr hlocks (by first | rfl | decide | assumption | exact nar_char_i _) hf.symm rfl hW hS dX3_isInRange_88
      · skip
        refine lv_iconst (v := 1) hx hb dX3_isInRange_83 (by decide) ?_
        refine lv_goto (tgt := 88) hx hb dX3_isInRange_84 (by decide) ?_
        have hf : fX3_isInRange a1 a2 = 1 := (if_neg c_1).trans ((if_neg c_4).trans ((if_pos c_7).trans ((if_neg c_8).trans ((if_neg c_9).trans rfl))))
        exact we_z hC hr hlocks (by first | rfl | decide | assumption | exact nar_char_i _) hf.symm rfl hW hS dX3_isInRange_88
  by_cases c_10 : a1 = 3
  · refine lv_re c_10 ?_
    refine lv_tableIn (tgt := 89) (off := 88) hx hb dX3_isInRange_1 (by decide) (by decide) (by decide) (by decide) ?_
    refine lv_iload_n hx hb dX3_isInRange_89 rfl (lv_at hl 1 rfl) ?_
    refine lv_if_lt (tgt := 103) hx hb dX3_isInRange_90 (by decide) (fun c_11 => ?_) (fun c_11 => ?_)
    · skip
      refine lv_iconst (v := 0) hx hb dX3_isInRange_103 (by decide) ?_
      have hf : fX3_isInRange a1 a2 = 0 := (if_neg c_1).trans ((if_neg c_4).trans ((if_neg c_7).trans ((if_pos c_10).trans ((if_pos c_11).trans rfl))))
      exact we_z hC hr hlocks (by first | rfl | decide | assumption | exact nar_char_i _) hf.symm rfl hW hS dX3_isInRange_104
    · skip
      refine lv_iload_n hx hb dX3_isInRange_93 rfl (lv_at hl 1 rfl) ?_
      refine lv_bipush (v := 40) hx hb dX3_isInRange_94 (by decide) ?_
      refine lv_icmp_gt (tgt := 103) hx hb dX3_isInRange_96 (by decide) (fun c_12 => ?_) (fun c_12 => ?_)
      · skip
        refine lv_iconst (v := 0) hx hb dX3_isInRange_103 (by decide) ?_
        have hf : fX3_isInRange a1 a2 = 0 := (if_neg c_1).trans ((if_neg c_4).trans ((if_neg c_7).trans ((if_pos c_10).trans ((if_neg c_11).trans ((if_pos c_12).trans rfl)))))
        exact we_z hC hr hlocks (by first | rfl | decide | assumption | exact nar_char_i _) hf.symm rfl hW hS dX3_isInRange_104
      · skip
        refine lv_iconst (v := 1) hx hb dX3_isInRange_99 (by decide) ?_
        refine lv_goto (tgt := 104) hx hb dX3_isInRange_100 (by decide) ?_
        have hf : fX3_isInRange a1 a2 = 1 := (if_neg c_1).trans ((if_neg c_4).trans ((if_neg c_7).trans ((if_pos c_10).trans ((if_neg c_11).trans ((if_neg c_12).trans rfl)))))
        exact we_z hC hr hlocks (by first | rfl | decide | assumption | exact nar_char_i _) hf.symm rfl hW hS dX3_isInRange_104
  by_cases c_13 : a1 = 4
  · refine lv_re c_13 ?_
    refine lv_tableIn (tgt := 105) (off := 104) hx hb dX3_isInRange_1 (by decide) (by decide) (by decide) (by decide) ?_
    refine lv_iload_n hx hb dX3_isInRange_105 rfl (lv_at hl 1 rfl) ?_
    refine lv_if_lt (tgt := 119) hx hb dX3_isInRange_106 (by decide) (fun c_14 => ?_) (fun c_14 => ?_)
    · skip
      refine lv_iconst (v := 0) hx hb dX3_isInRange_119 (by decide) ?_
      have hf : fX3_isInRange a1 a2 = 0 := (if_neg c_1).trans ((if_neg c_4).trans ((if_neg c_7).trans ((if_neg c_10).trans ((if_pos c_13).trans ((if_pos c_14).trans rfl)))))
      exact we_z hC hr hlocks (by first | rfl | decide | assumption | exact nar_char_i _) hf.symm rfl hW hS dX3_isInRange_120
    · skip
      refine lv_iload_n hx hb dX3_isInRange_109 rfl (lv_at hl 1 rfl) ?_
      refine lv_bipush (v := 20) hx hb dX3_isInRange_110 (by decide) ?_
      refine lv_icmp_gt (tgt := 119) hx hb dX3_isInRange_112 (by decide) (fun c_15 => ?_) (fun c_15 => ?_)
      · skip
        refine lv_iconst (v := 0) hx hb dX3_isInRange_119 (by decide) ?_
        have hf : fX3_isInRange a1 a2 = 0 := (if_neg c_1).trans ((if_neg c_4).trans ((if_neg c_7).trans ((if_neg c_10).trans ((if_pos c_13).trans ((if_neg c_14).trans ((if_pos c_15).trans rfl))))))
        exact we_z hC hr hlocks (by first | rfl | decide | assumption | exact nar_char_i _) hf.symm rfl hW hS dX3_isInRange_120
      · skip
        refine lv_iconst (v := 1) hx hb dX3_isInRange_115 (by decide) ?_
        refine lv_goto (tgt := 120) hx hb dX3_isInRange_116 (by decide) ?_
        have hf : fX3_isInRange a1 a2 = 1 := (if_neg c_1).trans ((if_neg c_4).trans ((if_neg c_7).trans ((if_neg c_10).trans ((if_pos c_13).trans ((if_neg c_14).trans ((if_neg c_15).trans rfl))))))
        exact we_z hC hr hlocks (by first | rfl | decide | assumption | exact nar_char_i _) hf.symm rfl hW hS dX3_isInRange_120
  refine lv_tableOut (tgt := 121) hx hb dX3_isInRange_1 (by
    have hz : ∀ k : Int32, ¬ a1 = k → ¬ a1.toInt = k.toInt := fun k h q => h (Int32.toInt_inj.mp q)
    have c_1z : ¬ a1.toInt = 0 := fun q => hz 0 c_1 (q.trans (by decide))
    have c_4z : ¬ a1.toInt = 1 := fun q => hz 1 c_4 (q.trans (by decide))
    have c_7z : ¬ a1.toInt = 2 := fun q => hz 2 c_7 (q.trans (by decide))
    have c_10z : ¬ a1.toInt = 3 := fun q => hz 3 c_10 (q.trans (by decide))
    have c_13z : ¬ a1.toInt = 4 := fun q => hz 4 c_13 (q.trans (by decide))
    omega) (by decide) ?_
  refine lv_iconst (v := 0) hx hb dX3_isInRange_121 (by decide) ?_
  have hf : fX3_isInRange a1 a2 = 0 := (if_neg c_1).trans ((if_neg c_4).trans ((if_neg c_7).trans ((if_neg c_10).trans ((if_neg c_13).trans rfl))))
  exact we_z hC hr hlocks (by first | rfl | decide | assumption | exact nar_char_i _) hf.symm rfl hW hS dX3_isInRange_122
def fX3_highestLevel (B : wB) : Int32 :=
  if (B 1 0) ≤ (B 1 1) then 0
  else if 1 ≤ (B 1 2) then ((((B 1 0) - (B 1 1)) + (B 1 2)) - 1) / (B 1 2)
  else 0
abbrev rX3_highestLevel : Room := { frames := 0, cells := 0, slots := 0, locals := 0 }
set_option maxHeartbeats 4000000 in
set_option maxRecDepth 100000 in
theorem kX3_highestLevel (l : Launch) (G : wG) (Z : wZ) (i : Nat) (hi : i < 11) (B : wB)   : mI l yX3_highestLevel wsX3_highestLevel rX3_highestLevel G [.ref (G.2.2.1 i 1)] (wset Z i B) (fX3_highestLevel B) (wset Z i B) := by
  refine Met.ofW (cc := cX3_highestLevel) (maxL := 1) (ret := (some .int)) (by decide) rfl ?_
  intro p e s m args below meth c s₁ B0 hml hv
  obtain ⟨rfl, hW, hK, hL⟩ := hv
  have hlocks := B0.notSynchronized
  have hr := B0.returns
  have hC : wX p s m c cX3_highestLevel _ wsX3_highestLevel RX3 G := ⟨B0.exec, B0.bytes, findClass_of_methodNamed B0.named, atoms_spec (ws := wsX3_highestLevel) B0.pre, hK, hL⟩
  have hx := hC.1
  have hb := hC.2.1
  have hts := hC.2.2.2.1
  have hinRX3 : ∀ w ∈ wsX30, w ∈ wsX3_highestLevel := by decide +kernel
  have hk0 := hts (.fieldLink RX3 9 "RampShafts$Ramp" "start" "I") (by decide +kernel)
  have hk1 := hts (.fieldLink RX3 15 "RampShafts$Ramp" "top" "I") (by decide +kernel)
  have hk2 := hts (.fieldLink RX3 18 "RampShafts$Ramp" "gain" "I") (by decide +kernel)
  have hS : va_S (wA G) s.heap s.heap [] := va_S.rf
  have hl := lv_entry ([.ref (G.2.2.1 i 1)]) (n := 1) (Nat.le_of_ble_eq_true rfl)
  rw [lg_entry_eq]
  generalize (lg_sl ([.ref (G.2.2.1 i 1)]) ++ List.replicate (1 - (lg_sl ([.ref (G.2.2.1 i 1)])).length) Slot.unset).toArray = ls at hl ⊢
  have hl : lv_has ls 1 [(0, .ref (G.2.2.1 i 1))] := hl
  refine lv_aload_n hx hb dX3_highestLevel_0 rfl (lv_at hl 0 rfl) ?_
  refine wr_get hC hinRX3 hW (vB hi (by decide)) (ce_b1 hi) rfl 0 (by decide) hk0 rfl dX3_highestLevel_1 ?_
  refine lv_aload_n hx hb dX3_highestLevel_4 rfl (lv_at hl 0 rfl) ?_
  refine wr_get hC hinRX3 hW (vB hi (by decide)) (ce_b1 hi) rfl 1 (by decide) hk1 rfl dX3_highestLevel_5 ?_
  refine lv_icmp_le (tgt := 19) hx hb dX3_highestLevel_8 (by decide) (fun c_1 => ?_) (fun c_1 => ?_)
  · skip
    refine lv_iconst (v := 0) hx hb dX3_highestLevel_19 (by decide) ?_
    have hf : fX3_highestLevel B = 0 := (if_pos c_1).trans rfl
    exact we_i hC hr hlocks hf.symm rfl hW hS dX3_highestLevel_20
  · skip
    refine lv_aload_n hx hb dX3_highestLevel_11 rfl (lv_at hl 0 rfl) ?_
    refine wr_get hC hinRX3 hW (vB hi (by decide)) (ce_b1 hi) rfl 2 (by decide) hk2 rfl dX3_highestLevel_12 ?_
    refine lv_iconst (v := 1) hx hb dX3_highestLevel_15 (by decide) ?_
    refine lv_icmp_ge (tgt := 21) hx hb dX3_highestLevel_16 (by decide) (fun c_2 => ?_) (fun c_2 => ?_)
    · skip
      refine lv_aload_n hx hb dX3_highestLevel_21 rfl (lv_at hl 0 rfl) ?_
      refine wr_get hC hinRX3 hW (vB hi (by decide)) (ce_b1 hi) rfl 0 (by decide) hk0 rfl dX3_highestLevel_22 ?_
      refine lv_aload_n hx hb dX3_highestLevel_25 rfl (lv_at hl 0 rfl) ?_
      refine wr_get hC hinRX3 hW (vB hi (by decide)) (ce_b1 hi) rfl 1 (by decide) hk1 rfl dX3_highestLevel_26 ?_
      refine lv_isub hx hb dX3_highestLevel_29 ?_
      refine lv_aload_n hx hb dX3_highestLevel_30 rfl (lv_at hl 0 rfl) ?_
      refine wr_get hC hinRX3 hW (vB hi (by decide)) (ce_b1 hi) rfl 2 (by decide) hk2 rfl dX3_highestLevel_31 ?_
      refine lv_iadd hx hb dX3_highestLevel_34 ?_
      refine lv_iconst (v := 1) hx hb dX3_highestLevel_35 (by decide) ?_
      refine lv_isub hx hb dX3_highestLevel_36 ?_
      refine lv_aload_n hx hb dX3_highestLevel_37 rfl (lv_at hl 0 rfl) ?_
      refine wr_get hC hinRX3 hW (vB hi (by decide)) (ce_b1 hi) rfl 2 (by decide) hk2 rfl dX3_highestLevel_38 ?_
      refine lv_idiv hx hb dX3_highestLevel_41 (fun e9 => absurd c_2 (by rw [e9]; decide)) ?_
      have hf : fX3_highestLevel B = ((((B 1 0) - (B 1 1)) + (B 1 2)) - 1) / (B 1 2) := (if_neg c_1).trans ((if_pos c_2).trans rfl)
      exact we_i hC hr hlocks hf.symm rfl hW hS dX3_highestLevel_42
    · skip
      refine lv_iconst (v := 0) hx hb dX3_highestLevel_19 (by decide) ?_
      have hf : fX3_highestLevel B = 0 := (if_neg c_1).trans ((if_neg c_2).trans rfl)
      exact we_i hC hr hlocks hf.symm rfl hW hS dX3_highestLevel_20
def fX3_levelAfter (B : wB) (a1 : Int32) (a2 : Int32) : Int32 :=
  if a1 < a2 then (let x_2 := fX3_highestLevel B
    (if x_2 < (a1 + 1) then x_2 else (a1 + 1)))
  else (if (a1 - 1) < 0 then 0 else (a1 - 1))
abbrev rX3_levelAfter : Room := { frames := 1, cells := 0, slots := 0, locals := 21 }
set_option maxHeartbeats 4000000 in
set_option maxRecDepth 100000 in
theorem kX3_levelAfter (l : Launch) (G : wG) (Z : wZ) (i : Nat) (hi : i < 11) (B : wB) (a1 : Int32) (a2 : Int32)  : mI l yX3_levelAfter wsX3_levelAfter rX3_levelAfter G [.ref (G.2.2.1 i 1), .int a1, .int a2] (wset Z i B) (fX3_levelAfter B a1 a2) (wset Z i B) := by
  refine Met.ofW (cc := cX3_levelAfter) (maxL := 3) (ret := (some .int)) (by decide) rfl ?_
  intro p e s m args below meth c s₁ B0 hml hv
  obtain ⟨rfl, hW, hK, hL⟩ := hv
  have hlocks := B0.notSynchronized
  have hr := B0.returns
  have hC : wX p s m c cX3_levelAfter _ wsX3_levelAfter RX3 G := ⟨B0.exec, B0.bytes, findClass_of_methodNamed B0.named, atoms_spec (ws := wsX3_levelAfter) B0.pre, hK, hL⟩
  have hx := hC.1
  have hb := hC.2.1
  have hts := hC.2.2.2.1
  have hk0 := hts (.methodLink RX3 45 Lib.Math.min.name) (by decide +kernel)
  have hk1 := hts (.static Lib.Math.min.name) (by decide +kernel)
  have hk2 := hts (.initialized "java/lang/Math") (by decide +kernel)
  have hk3 := hts (.code Lib.Math.min.name Lib.Math.min.code 2 (some .int)) (by decide +kernel)
  have hk4 := hts (.methodLink RX3 35 Lib.Math.max.name) (by decide +kernel)
  have hk5 := hts (.static Lib.Math.max.name) (by decide +kernel)
  have hk6 := hts (.code Lib.Math.max.name Lib.Math.max.code 2 (some .int)) (by decide +kernel)
  have hS : va_S (wA G) s.heap s.heap [] := va_S.rf
  have hl := lv_entry ([.ref (G.2.2.1 i 1), .int a1, .int a2]) (n := 3) (Nat.le_of_ble_eq_true rfl)
  rw [lg_entry_eq]
  generalize (lg_sl ([.ref (G.2.2.1 i 1), .int a1, .int a2]) ++ List.replicate (3 - (lg_sl ([.ref (G.2.2.1 i 1), .int a1, .int a2])).length) Slot.unset).toArray = ls at hl ⊢
  have hl : lv_has ls 3 [(0, .ref (G.2.2.1 i 1)), (1, .int a1), (2, .int a2)] := hl
  refine lv_iload_n hx hb dX3_levelAfter_0 rfl (lv_at hl 2 rfl) ?_
  refine lv_iload_n hx hb dX3_levelAfter_1 rfl (lv_at hl 1 rfl) ?_
  refine lv_icmp_gt (tgt := 13) hx hb dX3_levelAfter_2 (by decide) (fun c_1 => ?_) (fun c_1 => ?_)
  · skip
    refine lv_iload_n hx hb dX3_levelAfter_13 rfl (lv_at hl 1 rfl) ?_
    refine lv_iconst (v := 1) hx hb dX3_levelAfter_14 (by decide) ?_
    refine lv_iadd hx hb dX3_levelAfter_15 ?_
    refine lv_aload_n hx hb dX3_levelAfter_16 rfl (lv_at hl 0 rfl) ?_
    refine wc_i hC hml (kX3_highestLevel l G Z i hi B) (cwV 0 hts gX3_levelAfter_X3_highestLevel rfl rfl rfl (by decide +kernel) ⟨Nat.le_of_ble_eq_true rfl, Nat.le_of_ble_eq_true rfl⟩) hW hS (vB hi (by decide)) (ce_b1 hi) rfl rfl rfl rfl hl.1 (Nat.le_of_ble_eq_true rfl) dX3_levelAfter_17 (fun H locs hW hS => ?_)
    refine lv_topi (fun x_2 ex_2 => ?_)
    refine va_mmin hx hb (hml.trans hl.1.symm) hC.2.2.1 hk0 hk1 hk2 hk3 (Nat.le_of_ble_eq_true rfl) (Nat.le_of_ble_eq_true rfl) (Nat.zero_le _) (Nat.zero_le _) dX3_levelAfter_20 ?_
    have hf : fX3_levelAfter B a1 a2 = (if x_2 < (a1 + 1) then x_2 else (a1 + 1)) := by
      subst ex_2
      exact (if_pos c_1).trans rfl
    exact we_i hC hr hlocks hf.symm rfl hW hS dX3_levelAfter_23
  · skip
    refine lv_iload_n hx hb dX3_levelAfter_5 rfl (lv_at hl 1 rfl) ?_
    refine lv_iconst (v := 1) hx hb dX3_levelAfter_6 (by decide) ?_
    refine lv_isub hx hb dX3_levelAfter_7 ?_
    refine lv_iconst (v := 0) hx hb dX3_levelAfter_8 (by decide) ?_
    refine va_mmax hx hb (hml.trans hl.1.symm) hC.2.2.1 hk4 hk5 hk2 hk6 (Nat.le_of_ble_eq_true rfl) (Nat.le_of_ble_eq_true rfl) (Nat.zero_le _) (Nat.zero_le _) dX3_levelAfter_9 ?_
    have hf : fX3_levelAfter B a1 a2 = (if (a1 - 1) < 0 then 0 else (a1 - 1)) := (if_neg c_1).trans rfl
    exact we_i hC hr hlocks hf.symm rfl hW hS dX3_levelAfter_12
def fX3_grips (B : wB) (a1 : Int32) (a2 : Int32) : Int32 :=
  let x_1 := fX3_intervalOf B a1
  if x_1 < ((B 1 3) + ((B 1 4) * a2)) then 0
  else 1
abbrev rX3_grips : Room := { frames := 1, cells := 0, slots := 0, locals := 22 }
set_option maxHeartbeats 4000000 in
set_option maxRecDepth 100000 in
theorem kX3_grips (l : Launch) (G : wG) (Z : wZ) (i : Nat) (hi : i < 11) (B : wB) (a1 : Int32) (a2 : Int32)  : mI l yX3_grips wsX3_grips rX3_grips G [.ref (G.2.2.1 i 1), .int a1, .int a2] (wset Z i B) (fX3_grips B a1 a2) (wset Z i B) := by
  refine Met.ofW (cc := cX3_grips) (maxL := 3) (ret := (some .boolean)) (by decide) rfl ?_
  intro p e s m args below meth c s₁ B0 hml hv
  obtain ⟨rfl, hW, hK, hL⟩ := hv
  have hlocks := B0.notSynchronized
  have hr := B0.returns
  have hC : wX p s m c cX3_grips _ wsX3_grips RX3 G := ⟨B0.exec, B0.bytes, findClass_of_methodNamed B0.named, atoms_spec (ws := wsX3_grips) B0.pre, hK, hL⟩
  have hx := hC.1
  have hb := hC.2.1
  have hts := hC.2.2.2.1
  have hinRX3 : ∀ w ∈ wsX30, w ∈ wsX3_grips := by decide +kernel
  have hk0 := hts (.fieldLink RX3 21 "RampShafts$Ramp" "grip" "I") (by decide +kernel)
  have hk1 := hts (.fieldLink RX3 24 "RampShafts$Ramp" "pull" "I") (by decide +kernel)
  have hS : va_S (wA G) s.heap s.heap [] := va_S.rf
  have hl := lv_entry ([.ref (G.2.2.1 i 1), .int a1, .int a2]) (n := 3) (Nat.le_of_ble_eq_true rfl)
  rw [lg_entry_eq]
  generalize (lg_sl ([.ref (G.2.2.1 i 1), .int a1, .int a2]) ++ List.replicate (3 - (lg_sl ([.ref (G.2.2.1 i 1), .int a1, .int a2])).length) Slot.unset).toArray = ls at hl ⊢
  have hl : lv_has ls 3 [(0, .ref (G.2.2.1 i 1)), (1, .int a1), (2, .int a2)] := hl
  refine lv_aload_n hx hb dX3_grips_0 rfl (lv_at hl 0 rfl) ?_
  refine lv_iload_n hx hb dX3_grips_1 rfl (lv_at hl 1 rfl) ?_
  refine wc_i hC hml (kX3_intervalOf l G Z i hi B a1) (cwV 1 hts gX3_grips_X3_intervalOf rfl rfl rfl (by decide +kernel) ⟨Nat.le_of_ble_eq_true rfl, Nat.le_of_ble_eq_true rfl⟩) hW hS (vB hi (by decide)) (ce_b1 hi) rfl rfl rfl rfl hl.1 (Nat.le_of_ble_eq_true rfl) dX3_grips_2 (fun H locs hW hS => ?_)
  refine lv_topi (fun x_1 ex_1 => ?_)
  refine lv_aload_n hx hb dX3_grips_5 rfl (lv_at hl 0 rfl) ?_
  refine wr_get hC hinRX3 hW (vB hi (by decide)) (ce_b1 hi) rfl 3 (by decide) hk0 rfl dX3_grips_6 ?_
  refine lv_aload_n hx hb dX3_grips_9 rfl (lv_at hl 0 rfl) ?_
  refine wr_get hC hinRX3 hW (vB hi (by decide)) (ce_b1 hi) rfl 4 (by decide) hk1 rfl dX3_grips_10 ?_
  refine lv_iload_n hx hb dX3_grips_13 rfl (lv_at hl 2 rfl) ?_
  refine lv_imul hx hb dX3_grips_14 ?_
  refine lv_iadd hx hb dX3_grips_15 ?_
  refine lv_icmp_lt (tgt := 23) hx hb dX3_grips_16 (by decide) (fun c_2 => ?_) (fun c_2 => ?_)
  · skip
    refine lv_iconst (v := 0) hx hb dX3_grips_23 (by decide) ?_
    have hf : fX3_grips B a1 a2 = 0 := by
      subst ex_1
      exact (if_pos c_2).trans rfl
    exact we_z hC hr hlocks (by first | rfl | decide | assumption | exact nar_char_i _) hf.symm rfl hW hS dX3_grips_24
  · skip
    refine lv_iconst (v := 1) hx hb dX3_grips_19 (by decide) ?_
    refine lv_goto (tgt := 24) hx hb dX3_grips_20 (by decide) ?_
    have hf : fX3_grips B a1 a2 = 1 := by
      subst ex_1
      exact (if_neg c_2).trans rfl
    exact we_z hC hr hlocks (by first | rfl | decide | assumption | exact nar_char_i _) hf.symm rfl hW hS dX3_grips_24
def fX3_peakOf (B : wB) (a1 : Int32) : Int32 :=
  let x_1 := fX3_highestLevel B
  (if (a1 / 2) < x_1 then (a1 / 2) else x_1)
abbrev rX3_peakOf : Room := { frames := 1, cells := 0, slots := 0, locals := 21 }
set_option maxHeartbeats 4000000 in
set_option maxRecDepth 100000 in
theorem kX3_peakOf (l : Launch) (G : wG) (Z : wZ) (i : Nat) (hi : i < 11) (B : wB) (a1 : Int32)  : mI l yX3_peakOf wsX3_peakOf rX3_peakOf G [.ref (G.2.2.1 i 1), .int a1] (wset Z i B) (fX3_peakOf B a1) (wset Z i B) := by
  refine Met.ofW (cc := cX3_peakOf) (maxL := 2) (ret := (some .int)) (by decide) rfl ?_
  intro p e s m args below meth c s₁ B0 hml hv
  obtain ⟨rfl, hW, hK, hL⟩ := hv
  have hlocks := B0.notSynchronized
  have hr := B0.returns
  have hC : wX p s m c cX3_peakOf _ wsX3_peakOf RX3 G := ⟨B0.exec, B0.bytes, findClass_of_methodNamed B0.named, atoms_spec (ws := wsX3_peakOf) B0.pre, hK, hL⟩
  have hx := hC.1
  have hb := hC.2.1
  have hts := hC.2.2.2.1
  have hk0 := hts (.methodLink RX3 45 Lib.Math.min.name) (by decide +kernel)
  have hk1 := hts (.static Lib.Math.min.name) (by decide +kernel)
  have hk2 := hts (.initialized "java/lang/Math") (by decide +kernel)
  have hk3 := hts (.code Lib.Math.min.name Lib.Math.min.code 2 (some .int)) (by decide +kernel)
  have hS : va_S (wA G) s.heap s.heap [] := va_S.rf
  have hl := lv_entry ([.ref (G.2.2.1 i 1), .int a1]) (n := 2) (Nat.le_of_ble_eq_true rfl)
  rw [lg_entry_eq]
  generalize (lg_sl ([.ref (G.2.2.1 i 1), .int a1]) ++ List.replicate (2 - (lg_sl ([.ref (G.2.2.1 i 1), .int a1])).length) Slot.unset).toArray = ls at hl ⊢
  have hl : lv_has ls 2 [(0, .ref (G.2.2.1 i 1)), (1, .int a1)] := hl
  refine lv_aload_n hx hb dX3_peakOf_0 rfl (lv_at hl 0 rfl) ?_
  refine wc_i hC hml (kX3_highestLevel l G Z i hi B) (cwV 0 hts gX3_peakOf_X3_highestLevel rfl rfl rfl (by decide +kernel) ⟨Nat.le_of_ble_eq_true rfl, Nat.le_of_ble_eq_true rfl⟩) hW hS (vB hi (by decide)) (ce_b1 hi) rfl rfl rfl rfl hl.1 (Nat.le_of_ble_eq_true rfl) dX3_peakOf_1 (fun H locs hW hS => ?_)
  refine lv_topi (fun x_1 ex_1 => ?_)
  refine lv_iload_n hx hb dX3_peakOf_4 rfl (lv_at hl 1 rfl) ?_
  refine lv_iconst (v := 2) hx hb dX3_peakOf_5 (by decide) ?_
  refine lv_idiv hx hb dX3_peakOf_6 (by decide) ?_
  refine va_mmin hx hb (hml.trans hl.1.symm) hC.2.2.1 hk0 hk1 hk2 hk3 (Nat.le_of_ble_eq_true rfl) (Nat.le_of_ble_eq_true rfl) (Nat.zero_le _) (Nat.zero_le _) dX3_peakOf_7 ?_
  have hf : fX3_peakOf B a1 = (if (a1 / 2) < x_1 then (a1 / 2) else x_1) := by
    subst ex_1
    exact rfl
  exact we_i hC hr hlocks hf.symm rfl hW hS dX3_peakOf_10
def fX3_change (B : wB) (a1 : Int32) (a2 : Int32) : wB × Int32 :=
  let x_1 := fX3_isInRange a1 a2
  if x_1 = 0 then (B, (-2))
  else let x_3 := fX3_valueOf B a1
  if a1 = 0 then ((bput B 1 0 a2), x_3)
  else if a1 = 1 then ((bput B 1 1 a2), x_3)
  else if a1 = 2 then ((bput B 1 2 a2), x_3)
  else if a1 = 3 then ((bput B 1 3 a2), x_3)
  else ((bput B 1 4 a2), x_3)
abbrev rX3_change : Room := { frames := 1, cells := 0, slots := 0, locals := 21 }
set_option maxHeartbeats 4000000 in
set_option maxRecDepth 100000 in
theorem kX3_change (l : Launch) (G : wG) (Z : wZ) (i : Nat) (hi : i < 11) (B : wB) (a1 : Int32) (a2 : Int32)  : mI l yX3_change wsX3_change rX3_change G [.ref (G.2.2.1 i 1), .int a1, .int a2] (wset Z i B) (fX3_change B a1 a2).2 (wset Z i (fX3_change B a1 a2).1) := by
  refine Met.ofW (cc := cX3_change) (maxL := 4) (ret := (some .int)) (by decide) rfl ?_
  intro p e s m args below meth c s₁ B0 hml hv
  obtain ⟨rfl, hW, hK, hL⟩ := hv
  have hlocks := B0.notSynchronized
  have hr := B0.returns
  have hC : wX p s m c cX3_change _ wsX3_change RX3 G := ⟨B0.exec, B0.bytes, findClass_of_methodNamed B0.named, atoms_spec (ws := wsX3_change) B0.pre, hK, hL⟩
  have hx := hC.1
  have hb := hC.2.1
  have hts := hC.2.2.2.1
  have hinRX3 : ∀ w ∈ wsX30, w ∈ wsX3_change := by decide +kernel
  have hk0 := hts (.fieldLink RX3 9 "RampShafts$Ramp" "start" "I") (by decide +kernel)
  have hk1 := hts (.fieldLink RX3 15 "RampShafts$Ramp" "top" "I") (by decide +kernel)
  have hk2 := hts (.fieldLink RX3 18 "RampShafts$Ramp" "gain" "I") (by decide +kernel)
  have hk3 := hts (.fieldLink RX3 21 "RampShafts$Ramp" "grip" "I") (by decide +kernel)
  have hk4 := hts (.fieldLink RX3 24 "RampShafts$Ramp" "pull" "I") (by decide +kernel)
  have hS : va_S (wA G) s.heap s.heap [] := va_S.rf
  have hl := lv_entry ([.ref (G.2.2.1 i 1), .int a1, .int a2]) (n := 4) (Nat.le_of_ble_eq_true rfl)
  rw [lg_entry_eq]
  generalize (lg_sl ([.ref (G.2.2.1 i 1), .int a1, .int a2]) ++ List.replicate (4 - (lg_sl ([.ref (G.2.2.1 i 1), .int a1, .int a2])).length) Slot.unset).toArray = ls at hl ⊢
  have hl : lv_has ls 4 [(0, .ref (G.2.2.1 i 1)), (1, .int a1), (2, .int a2)] := hl
  refine lv_iload_n hx hb dX3_change_0 rfl (lv_at hl 1 rfl) ?_
  refine lv_iload_n hx hb dX3_change_1 rfl (lv_at hl 2 rfl) ?_
  refine wc_s hC hml (kX3_isInRange l G (wset Z i B) a1 a2) (cwS 2 hts gX3_change_X3_isInRange rfl rfl rfl (by decide +kernel) ⟨Nat.le_of_ble_eq_true rfl, Nat.le_of_ble_eq_true rfl⟩) hW hS rfl rfl hl.1 (Nat.le_of_ble_eq_true rfl) dX3_change_2 (fun H locs hW hS => ?_)
  refine lv_topi (fun x_1 ex_1 => ?_)
  refine lv_if_ne (tgt := 11) hx hb dX3_change_5 (by decide) (fun c_2 => ?_) (fun c_2 => ?_)
  · skip
    refine lv_aload_n hx hb dX3_change_11 rfl (lv_at hl 0 rfl) ?_
    refine lv_iload_n hx hb dX3_change_12 rfl (lv_at hl 1 rfl) ?_
    refine wc_i hC hml (kX3_valueOf l G Z i hi B a1) (cwV 1 hts gX3_change_X3_valueOf rfl rfl rfl (by decide +kernel) ⟨Nat.le_of_ble_eq_true rfl, Nat.le_of_ble_eq_true rfl⟩) hW hS (vB hi (by decide)) (ce_b1 hi) rfl rfl rfl rfl hl.1 (Nat.le_of_ble_eq_true rfl) dX3_change_13 (fun H locs hW hS => ?_)
    refine lv_topi (fun x_3 ex_3 => ?_)
    refine lv_istore_n (lv' := [(3, .int x_3), (0, .ref (G.2.2.1 i 1)), (1, .int a1), (2, .int a2)]) hx hb dX3_change_16 rfl hl (by decide) rfl (fun ls hl => ?_)
    refine lv_iload_n hx hb dX3_change_17 rfl (lv_at hl 2 rfl) ?_
    by_cases c_4 : a1 = 0
    · refine lv_re c_4 ?_
      refine lv_tableIn (tgt := 48) (off := 30) hx hb dX3_change_18 (by decide) (by decide) (by decide) (by decide) ?_
      refine lv_aload_n hx hb dX3_change_48 rfl (lv_at hl 1 rfl) ?_
      refine lv_iload_n hx hb dX3_change_49 rfl (lv_at hl 3 rfl) ?_
      refine wr_put (Z' := wset Z i (bput B 1 0 a2)) (v := .int a2) hC hinRX3 tyX3 tyX3_ok nmX3 hW hS (vB hi (by decide)) (ce_b1 hi) rfl 0 (by decide) hk0 rfl (tyX3_ok 0 (by decide)) rfl rfl (Nat.le_of_ble_eq_true rfl) wset_off (pu_b1_0 hi) dX3_change_50 (fun H locs hW hS => ?_)
      refine lv_goto (tgt := 85) hx hb dX3_change_53 (by decide) ?_
      refine lv_iload_n hx hb dX3_change_85 rfl (lv_at hl 0 rfl) ?_
      have hf : fX3_change B a1 a2 = ((bput B 1 0 a2), x_3) := by
        subst ex_3
        subst ex_1
        exact (if_neg c_2).trans ((if_pos c_4).trans rfl)
      exact we_i hC hr hlocks (congrArg Prod.snd hf).symm (congrArg (fun u => wset Z i u.1) hf).symm hW hS dX3_change_86
    by_cases c_5 : a1 = 1
    · refine lv_re c_5 ?_
      refine lv_tableIn (tgt := 56) (off := 38) hx hb dX3_change_18 (by decide) (by decide) (by decide) (by decide) ?_
      refine lv_aload_n hx hb dX3_change_56 rfl (lv_at hl 1 rfl) ?_
      refine lv_iload_n hx hb dX3_change_57 rfl (lv_at hl 3 rfl) ?_
      refine wr_put (Z' := wset Z i (bput B 1 1 a2)) (v := .int a2) hC hinRX3 tyX3 tyX3_ok nmX3 hW hS (vB hi (by decide)) (ce_b1 hi) rfl 1 (by decide) hk1 rfl (tyX3_ok 1 (by decide)) rfl rfl (Nat.le_of_ble_eq_true rfl) wset_off (pu_b1_1 hi) dX3_change_58 (fun H locs hW hS => ?_)
      refine lv_goto (tgt := 85) hx hb dX3_change_61 (by decide) ?_
      refine lv_iload_n hx hb dX3_change_85 rfl (lv_at hl 0 rfl) ?_
      have hf : fX3_change B a1 a2 = ((bput B 1 1 a2), x_3) := by
        subst ex_3
        subst ex_1
        exact (if_neg c_2).trans ((if_neg c_4).trans ((if_pos c_5).trans rfl))
      exact we_i hC hr hlocks (congrArg Prod.snd hf).symm (congrArg (fun u => wset Z i u.1) hf).symm hW hS dX3_change_86
    by_cases c_6 : a1 = 2
    · refine lv_re c_6 ?_
      refine lv_tableIn (tgt := 64) (off := 46) hx hb dX3_change_18 (by decide) (by decide) (by decide) (by decide) ?_
      refine lv_aload_n hx hb dX3_change_64 rfl (lv_at hl 1 rfl) ?_
      refine lv_iload_n hx hb dX3_change_65 rfl (lv_at hl 3 rfl) ?_
      refine wr_put (Z' := wset Z i (bput B 1 2 a2)) (v := .int a2) hC hinRX3 tyX3 tyX3_ok nmX3 hW hS (vB hi (by decide)) (ce_b1 hi) rfl 2 (by decide) hk2 rfl (tyX3_ok 2 (by decide)) rfl rfl (Nat.le_of_ble_eq_true rfl) wset_off (pu_b1_2 hi) dX3_change_66 (fun H locs hW hS => ?_)
      refine lv_goto (tgt := 85) hx hb dX3_change_69 (by decide) ?_
      refine lv_iload_n hx hb dX3_change_85 rfl (lv_at hl 0 rfl) ?_
      have hf : fX3_change B a1 a2 = ((bput B 1 2 a2), x_3) := by
        subst ex_3
        subst ex_1
        exact (if_neg c_2).trans ((if_neg c_4).trans ((if_neg c_5).trans ((if_pos c_6).trans rfl)))
      exact we_i hC hr hlocks (congrArg Prod.snd hf).symm (congrArg (fun u => wset Z i u.1) hf).symm hW hS dX3_change_86
    by_cases c_7 : a1 = 3
    · refine lv_re c_7 ?_
      refine lv_tableIn (tgt := 72) (off := 54) hx hb dX3_change_18 (by decide) (by decide) (by decide) (by decide) ?_
      refine lv_aload_n hx hb dX3_change_72 rfl (lv_at hl 1 rfl) ?_
      refine lv_iload_n hx hb dX3_change_73 rfl (lv_at hl 3 rfl) ?_
      refine wr_put (Z' := wset Z i (bput B 1 3 a2)) (v := .int a2) hC hinRX3 tyX3 tyX3_ok nmX3 hW hS (vB hi (by decide)) (ce_b1 hi) rfl 3 (by decide) hk3 rfl (tyX3_ok 3 (by decide)) rfl rfl (Nat.le_of_ble_eq_true rfl) wset_off (pu_b1_3 hi) dX3_change_74 (fun H locs hW hS => ?_)
      refine lv_goto (tgt := 85) hx hb dX3_change_77 (by decide) ?_
      refine lv_iload_n hx hb dX3_change_85 rfl (lv_at hl 0 rfl) ?_
      have hf : fX3_change B a1 a2 = ((bput B 1 3 a2), x_3) := by
        subst ex_3
        subst ex_1
        exact (if_neg c_2).trans ((if_neg c_4).trans ((if_neg c_5).trans ((if_neg c_6).trans ((if_pos c_7).trans rfl))))
      exact we_i hC hr hlocks (congrArg Prod.snd hf).symm (congrArg (fun u => wset Z i u.1) hf).symm hW hS dX3_change_86
    refine lv_tableOut (tgt := 80) hx hb dX3_change_18 (by
      have hz : ∀ k : Int32, ¬ a1 = k → ¬ a1.toInt = k.toInt := fun k h q => h (Int32.toInt_inj.mp q)
      have c_4z : ¬ a1.toInt = 0 := fun q => hz 0 c_4 (q.trans (by decide))
      have c_5z : ¬ a1.toInt = 1 := fun q => hz 1 c_5 (q.trans (by decide))
      have c_6z : ¬ a1.toInt = 2 := fun q => hz 2 c_6 (q.trans (by decide))
      have c_7z : ¬ a1.toInt = 3 := fun q => hz 3 c_7 (q.trans (by decide))
      omega) (by decide) ?_
    refine lv_aload_n hx hb dX3_change_80 rfl (lv_at hl 1 rfl) ?_
    refine lv_iload_n hx hb dX3_change_81 rfl (lv_at hl 3 rfl) ?_
    refine wr_put (Z' := wset Z i (bput B 1 4 a2)) (v := .int a2) hC hinRX3 tyX3 tyX3_ok nmX3 hW hS (vB hi (by decide)) (ce_b1 hi) rfl 4 (by decide) hk4 rfl (tyX3_ok 4 (by decide)) rfl rfl (Nat.le_of_ble_eq_true rfl) wset_off (pu_b1_4 hi) dX3_change_82 (fun H locs hW hS => ?_)
    refine lv_iload_n hx hb dX3_change_85 rfl (lv_at hl 0 rfl) ?_
    have hf : fX3_change B a1 a2 = ((bput B 1 4 a2), x_3) := by
      subst ex_3
      subst ex_1
      exact (if_neg c_2).trans ((if_neg c_4).trans ((if_neg c_5).trans ((if_neg c_6).trans ((if_neg c_7).trans rfl))))
    exact we_i hC hr hlocks (congrArg Prod.snd hf).symm (congrArg (fun u => wset Z i u.1) hf).symm hW hS dX3_change_86
  · skip
    refine lv_bipush (v := (-2)) hx hb dX3_change_8 (by decide) ?_
    have hf : fX3_change B a1 a2 = (B, (-2)) := by
      subst ex_1
      exact (if_pos c_2).trans rfl
    exact we_i hC hr hlocks (congrArg Prod.snd hf).symm (congrArg (fun u => wset Z i u.1) hf).symm hW hS dX3_change_10

/-- the reference's spot is a number from lo to n, its pad no longer than 80 -/
def pzl (B : wB) (lo n : Nat) : Prop := (lo : Int) ≤ (B 0 5).toInt ∧ (B 0 5).toInt ≤ n ∧ (B 0 1).toInt ≤ 80
theorem sp_1 {B : wB} {lo n : Nat} (hn : n ≤ 1000) (h : pzl B lo n) : (B 0 5 + 1).toInt = (B 0 5).toInt + 1 := (ti_add (by rw [t1]; have := h.1; omega) (by rw [t1]; have := h.2.1; omega)).trans (by rw [t1])
theorem pz_inc1 {B : wB} {lo n : Nat} {v : Int32} (hn : n ≤ 1000) (h : pzl B lo n) (hv : v = B 0 5 + 1) : pzl (bput B 0 5 v) (lo + 1) (n + 1) := by
  subst hv
  have e := sp_1 hn h
  obtain ⟨h1, h2, h3⟩ := h
  refine ⟨?_, ?_, ?_⟩
  · rw [bput_h, e]; omega
  · rw [bput_h, e]; omega
  · rw [bput_q (by decide)]; exact h3
theorem pz_mono {B : wB} {lo lo' n m : Nat} (h : pzl B lo n) (hm : n ≤ m) (hl : lo' ≤ lo := by omega) : pzl B lo' m := ⟨by have := h.1; omega, by have := h.2.1; omega, h.2.2⟩
theorem pz_inc {B : wB} {lo n : Nat} {v : Int32} (hn : n ≤ 1000) (h : pzl B lo n) (hv : v = B 0 5 + 1) : pzl (bput B 0 5 v) lo (n + 1) := pz_mono (pz_inc1 hn h hv) (Nat.le_refl _)
theorem pz_add0 {B : wB} {lo n : Nat} {v : Int32} (h : pzl B lo n) (hv : v = B 0 5 + 0) : pzl (bput B 0 5 v) lo (n + 1) := by
  subst hv
  obtain ⟨h1, h2, h3⟩ := h
  have e : B 0 5 + 0 = B 0 5 := by simp
  refine ⟨?_, ?_, ?_⟩
  · rw [bput_h, e]; omega
  · rw [bput_h, e]; omega
  · rw [bput_q (by decide)]; exact h3
theorem pz_oth {B : wB} {lo n j q : Nat} {v : Int32} (h : pzl B lo n) (hq : ¬ (j = 0 ∧ (q = 5 ∨ q = 1))) : pzl (bput B j q v) lo n := by
  have e5 : (bput B j q v) 0 5 = B 0 5 := if_neg fun e => hq ⟨e.1.symm, Or.inl e.2.symm⟩
  have e1 : (bput B j q v) 0 1 = B 0 1 := if_neg fun e => hq ⟨e.1.symm, Or.inr e.2.symm⟩
  exact ⟨by rw [e5]; exact h.1, by rw [e5]; exact h.2.1, by rw [e1]; exact h.2.2⟩
theorem nx_in {B : wB} {lo n : Nat} (h : pzl B lo n) (h2 : ¬ B 0 1 ≤ B 0 5) : vp_in (B 0 5) 80 := by
  rw [vp_in_iff]
  rw [Int32.le_iff_toInt_le] at h2
  obtain ⟨h1, _, h3⟩ := h
  omega
def fX7_next (B : wB) : Int32 :=
  if (B 0 1) ≤ (B 0 5) then 0
  else B 6 ((B 0 5).toNatClampNeg)
abbrev rX7_next : Room := { frames := 0, cells := 0, slots := 0, locals := 0 }
set_option maxHeartbeats 4000000 in
set_option maxRecDepth 100000 in
theorem kX7_next (l : Launch) (G : wG) (Z : wZ) (B : wB)  (N : Nat) (hN : N ≤ 940) (hz : pzl B 0 N) : mI l yX7_next wsX7_next rX7_next G [.ref (G.2.2.1 12 0)] (wset Z 12 B) (fX7_next B) (wset Z 12 B) := by
  refine Met.ofW (cc := cX7_next) (maxL := 1) (ret := (some .int)) (by decide) rfl ?_
  intro p e s m args below meth c s₁ B0 hml hv
  obtain ⟨rfl, hW, hK, hL⟩ := hv
  have hlocks := B0.notSynchronized
  have hr := B0.returns
  have hC : wX p s m c cX7_next _ wsX7_next RX7 G := ⟨B0.exec, B0.bytes, findClass_of_methodNamed B0.named, atoms_spec (ws := wsX7_next) B0.pre, hK, hL⟩
  have hx := hC.1
  have hb := hC.2.1
  have hts := hC.2.2.2.1
  have hinRX7 : ∀ w ∈ wsX70, w ∈ wsX7_next := by decide +kernel
  have hk0 := hts (.fieldLink RX7 160 "RampShaftsModel" "spot" "I") (by decide +kernel)
  have hk1 := hts (.fieldLink RX7 149 "RampShaftsModel" "length" "I") (by decide +kernel)
  have hk2 := hts (.fieldLink RX7 26 "RampShaftsModel" "pad" "[I") (by decide +kernel)
  have hS : va_S (wA G) s.heap s.heap [] := va_S.rf
  have hl := lv_entry ([.ref (G.2.2.1 12 0)]) (n := 1) (Nat.le_of_ble_eq_true rfl)
  rw [lg_entry_eq]
  generalize (lg_sl ([.ref (G.2.2.1 12 0)]) ++ List.replicate (1 - (lg_sl ([.ref (G.2.2.1 12 0)])).length) Slot.unset).toArray = ls at hl ⊢
  have hl : lv_has ls 1 [(0, .ref (G.2.2.1 12 0))] := hl
  refine lv_aload_n hx hb dX7_next_0 rfl (lv_at hl 0 rfl) ?_
  refine wr_get hC hinRX7 hW (vM (by decide)) ce_m0 rfl 11 (by decide) hk0 rfl dX7_next_1 ?_
  refine lv_aload_n hx hb dX7_next_4 rfl (lv_at hl 0 rfl) ?_
  refine wr_get hC hinRX7 hW (vM (by decide)) ce_m0 rfl 7 (by decide) hk1 rfl dX7_next_5 ?_
  refine lv_icmp_ge (tgt := 23) hx hb dX7_next_8 (by decide) (fun c_1 => ?_) (fun c_1 => ?_)
  · skip
    refine lv_iconst (v := 0) hx hb dX7_next_23 (by decide) ?_
    have hf : fX7_next B = 0 := (if_pos c_1).trans rfl
    exact we_i hC hr hlocks hf.symm rfl hW hS dX7_next_24
  · skip
    refine lv_aload_n hx hb dX7_next_11 rfl (lv_at hl 0 rfl) ?_
    refine wr_get hC hinRX7 hW (vM (by decide)) ce_m0 rfl 6 (by decide) hk2 rfl dX7_next_12 ?_
    refine lv_aload_n hx hb dX7_next_15 rfl (lv_at hl 0 rfl) ?_
    refine wr_get hC hinRX7 hW (vM (by decide)) ce_m0 rfl 11 (by decide) hk0 rfl dX7_next_16 ?_
    refine wr_ald (kA := 0) hC hW (vM (by decide)) ce_m6 rfl (nx_in hz c_1) dX7_next_19 ?_
    refine lv_goto (tgt := 24) hx hb dX7_next_20 (by decide) ?_
    have hf : fX7_next B = B 6 ((B 0 5).toNatClampNeg) := (if_neg c_1).trans rfl
    exact we_i hC hr hlocks hf.symm rfl hW hS dX7_next_24
def fX7_sign (B : wB) (a1 : Int32) : wB :=
  if (B 0 6) = 0 then (let x_3 := fX7_next B
    if x_3 = a1 then (bput (bput B 0 6 0) 0 5 ((B 0 5) + 1))
    else (bput (bput B 0 6 1) 0 5 ((B 0 5) + 0)))
  else (bput (bput B 0 6 1) 0 5 ((B 0 5) + 0))
abbrev rX7_sign : Room := { frames := 1, cells := 0, slots := 0, locals := 20 }
set_option maxHeartbeats 4000000 in
set_option maxRecDepth 100000 in
theorem kX7_sign (l : Launch) (G : wG) (Z : wZ) (B : wB) (a1 : Int32) (N : Nat) (hN : N ≤ 940) (hz : pzl B 0 N) : mV l yX7_sign wsX7_sign rX7_sign G [.ref (G.2.2.1 12 0), .int a1] (wset Z 12 B) (wset Z 12 (fX7_sign B a1)) := by
  refine Met.ofW (cc := cX7_sign) (maxL := 2) (ret := none) (by decide) rfl ?_
  intro p e s m args below meth c s₁ B0 hml hv
  obtain ⟨rfl, hW, hK, hL⟩ := hv
  have hlocks := B0.notSynchronized
  have hr := B0.returns
  have hC : wX p s m c cX7_sign _ wsX7_sign RX7 G := ⟨B0.exec, B0.bytes, findClass_of_methodNamed B0.named, atoms_spec (ws := wsX7_sign) B0.pre, hK, hL⟩
  have hx := hC.1
  have hb := hC.2.1
  have hts := hC.2.2.2.1
  have hinRX7 : ∀ w ∈ wsX70, w ∈ wsX7_sign := by decide +kernel
  have hk0 := hts (.fieldLink RX7 163 "RampShaftsModel" "isWrong" "Z") (by decide +kernel)
  have hk1 := hts (.fieldLink RX7 160 "RampShaftsModel" "spot" "I") (by decide +kernel)
  have hS : va_S (wA G) s.heap s.heap [] := va_S.rf
  have hl := lv_entry ([.ref (G.2.2.1 12 0), .int a1]) (n := 2) (Nat.le_of_ble_eq_true rfl)
  rw [lg_entry_eq]
  generalize (lg_sl ([.ref (G.2.2.1 12 0), .int a1]) ++ List.replicate (2 - (lg_sl ([.ref (G.2.2.1 12 0), .int a1])).length) Slot.unset).toArray = ls at hl ⊢
  have hl : lv_has ls 2 [(0, .ref (G.2.2.1 12 0)), (1, .int a1)] := hl
  refine lv_aload_n hx hb dX7_sign_0 rfl (lv_at hl 0 rfl) ?_
  refine lv_aload_n hx hb dX7_sign_1 rfl (lv_at hl 0 rfl) ?_
  refine wr_get hC hinRX7 hW (vM (by decide)) ce_m0 rfl 12 (by decide) hk0 rfl dX7_sign_2 ?_
  refine lv_if_ne (tgt := 16) hx hb dX7_sign_5 (by decide) (fun c_1 => ?_) (fun c_1 => ?_)
  · skip
    refine lv_iconst (v := 1) hx hb dX7_sign_16 (by decide) ?_
    refine lv_goto (tgt := 21) hx hb dX7_sign_17 (by decide) ?_
    refine wr_put (Z' := wset Z 12 (bput B 0 6 1)) (v := .int 1) hC hinRX7 tyX7 tyX7_ok nmX7 hW hS (vM (by decide)) ce_m0 rfl 12 (by decide) hk0 rfl (tyX7_ok 12 (by decide)) (by first | rfl | decide | assumption) (by first | rfl | decide) (Nat.le_of_ble_eq_true rfl) wset_off pu_m0_6 dX7_sign_21 (fun H locs hW hS => ?_)
    refine lv_aload_n hx hb dX7_sign_24 rfl (lv_at hl 0 rfl) ?_
    refine lv_dup hx hb dX7_sign_25 rfl ?_
    refine wr_get hC hinRX7 hW (vM (by decide)) ce_m0 rfl 11 (by decide) hk1 rfl dX7_sign_26 ?_
    refine lv_re (y := B 0 5) (bput_q (by decide)) ?_
    refine lv_aload_n hx hb dX7_sign_29 rfl (lv_at hl 0 rfl) ?_
    refine wr_get hC hinRX7 hW (vM (by decide)) ce_m0 rfl 12 (by decide) hk0 rfl dX7_sign_30 ?_
    refine lv_re (y := 1) (bput_h) ?_
    refine lv_if_eq (tgt := 40) hx hb dX7_sign_33 (by decide) (fun c_2 => ?_) (fun c_2 => ?_)
    · exact absurd c_2 (by decide)
    · skip
      refine lv_iconst (v := 0) hx hb dX7_sign_36 (by decide) ?_
      refine lv_goto (tgt := 41) hx hb dX7_sign_37 (by decide) ?_
      refine lv_iadd hx hb dX7_sign_41 ?_
      refine wr_put (Z' := wset Z 12 (bput (bput B 0 6 1) 0 5 ((B 0 5) + 0))) (v := .int ((B 0 5) + 0)) hC hinRX7 tyX7 tyX7_ok nmX7 hW hS (vM (by decide)) ce_m0 rfl 11 (by decide) hk1 rfl (tyX7_ok 11 (by decide)) rfl rfl (Nat.le_of_ble_eq_true rfl) wset_off pu_m0_5 dX7_sign_42 (fun H locs hW hS => ?_)
      have hf : fX7_sign B a1 = (bput (bput B 0 6 1) 0 5 ((B 0 5) + 0)) := (if_neg c_1).trans rfl
      exact we_v hC hr hlocks (congrArg (wset Z 12) hf).symm hW hS dX7_sign_45
  · skip
    refine lv_aload_n hx hb dX7_sign_8 rfl (lv_at hl 0 rfl) ?_
    refine wc_i hC hml (kX7_next l G Z B (N + 0) (by omega) hz) (cwV 0 hts gX7_sign_X7_next rfl rfl rfl (by decide +kernel) ⟨Nat.le_of_ble_eq_true rfl, Nat.le_of_ble_eq_true rfl⟩) hW hS (vM (by decide)) ce_m0 rfl rfl rfl rfl hl.1 (Nat.le_of_ble_eq_true rfl) dX7_sign_9 (fun H locs hW hS => ?_)
    refine lv_topi (fun x_3 ex_3 => ?_)
    refine lv_iload_n hx hb dX7_sign_12 rfl (lv_at hl 1 rfl) ?_
    refine lv_icmp_eq (tgt := 20) hx hb dX7_sign_13 (by decide) (fun c_4 => ?_) (fun c_4 => ?_)
    · skip
      refine lv_iconst (v := 0) hx hb dX7_sign_20 (by decide) ?_
      refine wr_put (Z' := wset Z 12 (bput B 0 6 0)) (v := .int 0) hC hinRX7 tyX7 tyX7_ok nmX7 hW hS (vM (by decide)) ce_m0 rfl 12 (by decide) hk0 rfl (tyX7_ok 12 (by decide)) (by first | rfl | decide | assumption) (by first | rfl | decide) (Nat.le_of_ble_eq_true rfl) wset_off pu_m0_6 dX7_sign_21 (fun H locs hW hS => ?_)
      refine lv_aload_n hx hb dX7_sign_24 rfl (lv_at hl 0 rfl) ?_
      refine lv_dup hx hb dX7_sign_25 rfl ?_
      refine wr_get hC hinRX7 hW (vM (by decide)) ce_m0 rfl 11 (by decide) hk1 rfl dX7_sign_26 ?_
      refine lv_re (y := B 0 5) (bput_q (by decide)) ?_
      refine lv_aload_n hx hb dX7_sign_29 rfl (lv_at hl 0 rfl) ?_
      refine wr_get hC hinRX7 hW (vM (by decide)) ce_m0 rfl 12 (by decide) hk0 rfl dX7_sign_30 ?_
      refine lv_re (y := 0) (bput_h) ?_
      refine lv_if_eq (tgt := 40) hx hb dX7_sign_33 (by decide) (fun c_5 => ?_) (fun c_5 => ?_)
      · skip
        refine lv_iconst (v := 1) hx hb dX7_sign_40 (by decide) ?_
        refine lv_iadd hx hb dX7_sign_41 ?_
        refine wr_put (Z' := wset Z 12 (bput (bput B 0 6 0) 0 5 ((B 0 5) + 1))) (v := .int ((B 0 5) + 1)) hC hinRX7 tyX7 tyX7_ok nmX7 hW hS (vM (by decide)) ce_m0 rfl 11 (by decide) hk1 rfl (tyX7_ok 11 (by decide)) rfl rfl (Nat.le_of_ble_eq_true rfl) wset_off pu_m0_5 dX7_sign_42 (fun H locs hW hS => ?_)
        have hf : fX7_sign B a1 = (bput (bput B 0 6 0) 0 5 ((B 0 5) + 1)) := by
          subst ex_3
          exact (if_pos c_1).trans ((if_pos c_4).trans rfl)
        exact we_v hC hr hlocks (congrArg (wset Z 12) hf).symm hW hS dX7_sign_45
      · exact absurd c_5 (by decide)
    · skip
      refine lv_iconst (v := 1) hx hb dX7_sign_16 (by decide) ?_
      refine lv_goto (tgt := 21) hx hb dX7_sign_17 (by decide) ?_
      refine wr_put (Z' := wset Z 12 (bput B 0 6 1)) (v := .int 1) hC hinRX7 tyX7 tyX7_ok nmX7 hW hS (vM (by decide)) ce_m0 rfl 12 (by decide) hk0 rfl (tyX7_ok 12 (by decide)) (by first | rfl | decide | assumption) (by first | rfl | decide) (Nat.le_of_ble_eq_true rfl) wset_off pu_m0_6 dX7_sign_21 (fun H locs hW hS => ?_)
      refine lv_aload_n hx hb dX7_sign_24 rfl (lv_at hl 0 rfl) ?_
      refine lv_dup hx hb dX7_sign_25 rfl ?_
      refine wr_get hC hinRX7 hW (vM (by decide)) ce_m0 rfl 11 (by decide) hk1 rfl dX7_sign_26 ?_
      refine lv_re (y := B 0 5) (bput_q (by decide)) ?_
      refine lv_aload_n hx hb dX7_sign_29 rfl (lv_at hl 0 rfl) ?_
      refine wr_get hC hinRX7 hW (vM (by decide)) ce_m0 rfl 12 (by decide) hk0 rfl dX7_sign_30 ?_
      refine lv_re (y := 1) (bput_h) ?_
      refine lv_if_eq (tgt := 40) hx hb dX7_sign_33 (by decide) (fun c_6 => ?_) (fun c_6 => ?_)
      · exact absurd c_6 (by decide)
      · skip
        refine lv_iconst (v := 0) hx hb dX7_sign_36 (by decide) ?_
        refine lv_goto (tgt := 41) hx hb dX7_sign_37 (by decide) ?_
        refine lv_iadd hx hb dX7_sign_41 ?_
        refine wr_put (Z' := wset Z 12 (bput (bput B 0 6 1) 0 5 ((B 0 5) + 0))) (v := .int ((B 0 5) + 0)) hC hinRX7 tyX7 tyX7_ok nmX7 hW hS (vM (by decide)) ce_m0 rfl 11 (by decide) hk1 rfl (tyX7_ok 11 (by decide)) rfl rfl (Nat.le_of_ble_eq_true rfl) wset_off pu_m0_5 dX7_sign_42 (fun H locs hW hS => ?_)
        have hf : fX7_sign B a1 = (bput (bput B 0 6 1) 0 5 ((B 0 5) + 0)) := by
          subst ex_3
          exact (if_pos c_1).trans ((if_neg c_4).trans rfl)
        exact we_v hC hr hlocks (congrArg (wset Z 12) hf).symm hW hS dX7_sign_45
theorem pzX7_sign {B : wB} {lo n : Nat} {c : Int32} (hn : n ≤ 950) (h : pzl B lo n) : pzl (fX7_sign B c) lo (n + 1) := by
  simp only [fX7_sign]
  repeat' split
  all_goals first
    | (refine pz_inc (by omega) (pz_oth h (by omega)) ?_; simp [bput]; done)
    | (refine pz_add0 (pz_oth h (by omega)) ?_; simp [bput]; done)
    | (refine pz_inc (by omega) h ?_; simp [bput]; done)
    | (refine pz_add0 h ?_; simp [bput]; done)
def fX7_digit (B : wB) : wB × Int32 :=
  let x_1 := fX7_next B
  if (B 0 6) = 0 then (let x_4 := fX7_in x_1 48 57
    if x_4 = 0 then ((bput (bput B 0 6 1) 0 5 ((B 0 5) + 0)), x_1 - 48)
    else ((bput (bput B 0 6 0) 0 5 ((B 0 5) + 1)), x_1 - 48))
  else ((bput (bput B 0 6 1) 0 5 ((B 0 5) + 0)), x_1 - 48)
abbrev rX7_digit : Room := { frames := 1, cells := 0, slots := 0, locals := 22 }
set_option maxHeartbeats 4000000 in
set_option maxRecDepth 100000 in
theorem kX7_digit (l : Launch) (G : wG) (Z : wZ) (B : wB)  (N : Nat) (hN : N ≤ 940) (hz : pzl B 0 N) : mI l yX7_digit wsX7_digit rX7_digit G [.ref (G.2.2.1 12 0)] (wset Z 12 B) (fX7_digit B).2 (wset Z 12 (fX7_digit B).1) := by
  refine Met.ofW (cc := cX7_digit) (maxL := 2) (ret := (some .int)) (by decide) rfl ?_
  intro p e s m args below meth c s₁ B0 hml hv
  obtain ⟨rfl, hW, hK, hL⟩ := hv
  have hlocks := B0.notSynchronized
  have hr := B0.returns
  have hC : wX p s m c cX7_digit _ wsX7_digit RX7 G := ⟨B0.exec, B0.bytes, findClass_of_methodNamed B0.named, atoms_spec (ws := wsX7_digit) B0.pre, hK, hL⟩
  have hx := hC.1
  have hb := hC.2.1
  have hts := hC.2.2.2.1
  have hinRX7 : ∀ w ∈ wsX70, w ∈ wsX7_digit := by decide +kernel
  have hk0 := hts (.fieldLink RX7 163 "RampShaftsModel" "isWrong" "Z") (by decide +kernel)
  have hk1 := hts (.fieldLink RX7 160 "RampShaftsModel" "spot" "I") (by decide +kernel)
  have hS : va_S (wA G) s.heap s.heap [] := va_S.rf
  have hl := lv_entry ([.ref (G.2.2.1 12 0)]) (n := 2) (Nat.le_of_ble_eq_true rfl)
  rw [lg_entry_eq]
  generalize (lg_sl ([.ref (G.2.2.1 12 0)]) ++ List.replicate (2 - (lg_sl ([.ref (G.2.2.1 12 0)])).length) Slot.unset).toArray = ls at hl ⊢
  have hl : lv_has ls 2 [(0, .ref (G.2.2.1 12 0))] := hl
  refine lv_aload_n hx hb dX7_digit_0 rfl (lv_at hl 0 rfl) ?_
  refine wc_i hC hml (kX7_next l G Z B (N + 0) (by omega) hz) (cwV 0 hts gX7_digit_X7_next rfl rfl rfl (by decide +kernel) ⟨Nat.le_of_ble_eq_true rfl, Nat.le_of_ble_eq_true rfl⟩) hW hS (vM (by decide)) ce_m0 rfl rfl rfl rfl hl.1 (Nat.le_of_ble_eq_true rfl) dX7_digit_1 (fun H locs hW hS => ?_)
  refine lv_topi (fun x_1 ex_1 => ?_)
  refine lv_istore_n (lv' := [(1, .int x_1), (0, .ref (G.2.2.1 12 0))]) hx hb dX7_digit_4 rfl hl (by decide) rfl (fun ls hl => ?_)
  refine lv_aload_n hx hb dX7_digit_5 rfl (lv_at hl 1 rfl) ?_
  refine lv_aload_n hx hb dX7_digit_6 rfl (lv_at hl 1 rfl) ?_
  refine wr_get hC hinRX7 hW (vM (by decide)) ce_m0 rfl 12 (by decide) hk0 rfl dX7_digit_7 ?_
  refine lv_if_ne (tgt := 24) hx hb dX7_digit_10 (by decide) (fun c_2 => ?_) (fun c_2 => ?_)
  · skip
    refine lv_iconst (v := 1) hx hb dX7_digit_24 (by decide) ?_
    refine lv_goto (tgt := 29) hx hb dX7_digit_25 (by decide) ?_
    refine wr_put (Z' := wset Z 12 (bput B 0 6 1)) (v := .int 1) hC hinRX7 tyX7 tyX7_ok nmX7 hW hS (vM (by decide)) ce_m0 rfl 12 (by decide) hk0 rfl (tyX7_ok 12 (by decide)) (by first | rfl | decide | assumption) (by first | rfl | decide) (Nat.le_of_ble_eq_true rfl) wset_off pu_m0_6 dX7_digit_29 (fun H locs hW hS => ?_)
    refine lv_aload_n hx hb dX7_digit_32 rfl (lv_at hl 1 rfl) ?_
    refine lv_dup hx hb dX7_digit_33 rfl ?_
    refine wr_get hC hinRX7 hW (vM (by decide)) ce_m0 rfl 11 (by decide) hk1 rfl dX7_digit_34 ?_
    refine lv_re (y := B 0 5) (bput_q (by decide)) ?_
    refine lv_aload_n hx hb dX7_digit_37 rfl (lv_at hl 1 rfl) ?_
    refine wr_get hC hinRX7 hW (vM (by decide)) ce_m0 rfl 12 (by decide) hk0 rfl dX7_digit_38 ?_
    refine lv_re (y := 1) (bput_h) ?_
    refine lv_if_eq (tgt := 48) hx hb dX7_digit_41 (by decide) (fun c_3 => ?_) (fun c_3 => ?_)
    · exact absurd c_3 (by decide)
    · skip
      refine lv_iconst (v := 0) hx hb dX7_digit_44 (by decide) ?_
      refine lv_goto (tgt := 49) hx hb dX7_digit_45 (by decide) ?_
      refine lv_iadd hx hb dX7_digit_49 ?_
      refine wr_put (Z' := wset Z 12 (bput (bput B 0 6 1) 0 5 ((B 0 5) + 0))) (v := .int ((B 0 5) + 0)) hC hinRX7 tyX7 tyX7_ok nmX7 hW hS (vM (by decide)) ce_m0 rfl 11 (by decide) hk1 rfl (tyX7_ok 11 (by decide)) rfl rfl (Nat.le_of_ble_eq_true rfl) wset_off pu_m0_5 dX7_digit_50 (fun H locs hW hS => ?_)
      refine lv_iload_n hx hb dX7_digit_53 rfl (lv_at hl 0 rfl) ?_
      refine lv_bipush (v := 48) hx hb dX7_digit_54 (by decide) ?_
      refine lv_isub hx hb dX7_digit_56 ?_
      have hf : fX7_digit B = ((bput (bput B 0 6 1) 0 5 ((B 0 5) + 0)), x_1 - 48) := by
        subst ex_1
        exact (if_neg c_2).trans rfl
      exact we_i hC hr hlocks (congrArg Prod.snd hf).symm (congrArg (fun u => wset Z 12 u.1) hf).symm hW hS dX7_digit_57
  · skip
    refine lv_iload_n hx hb dX7_digit_13 rfl (lv_at hl 0 rfl) ?_
    refine lv_bipush (v := 48) hx hb dX7_digit_14 (by decide) ?_
    refine lv_bipush (v := 57) hx hb dX7_digit_16 (by decide) ?_
    refine wc_s hC hml (kX7_in l G (wset Z 12 B) x_1 48 57) (cwS 3 hts gX7_digit_X7_in rfl rfl rfl (by decide +kernel) ⟨Nat.le_of_ble_eq_true rfl, Nat.le_of_ble_eq_true rfl⟩) hW hS rfl rfl hl.1 (Nat.le_of_ble_eq_true rfl) dX7_digit_18 (fun H locs hW hS => ?_)
    refine lv_topi (fun x_4 ex_4 => ?_)
    refine lv_if_ne (tgt := 28) hx hb dX7_digit_21 (by decide) (fun c_5 => ?_) (fun c_5 => ?_)
    · skip
      refine lv_iconst (v := 0) hx hb dX7_digit_28 (by decide) ?_
      refine wr_put (Z' := wset Z 12 (bput B 0 6 0)) (v := .int 0) hC hinRX7 tyX7 tyX7_ok nmX7 hW hS (vM (by decide)) ce_m0 rfl 12 (by decide) hk0 rfl (tyX7_ok 12 (by decide)) (by first | rfl | decide | assumption) (by first | rfl | decide) (Nat.le_of_ble_eq_true rfl) wset_off pu_m0_6 dX7_digit_29 (fun H locs hW hS => ?_)
      refine lv_aload_n hx hb dX7_digit_32 rfl (lv_at hl 1 rfl) ?_
      refine lv_dup hx hb dX7_digit_33 rfl ?_
      refine wr_get hC hinRX7 hW (vM (by decide)) ce_m0 rfl 11 (by decide) hk1 rfl dX7_digit_34 ?_
      refine lv_re (y := B 0 5) (bput_q (by decide)) ?_
      refine lv_aload_n hx hb dX7_digit_37 rfl (lv_at hl 1 rfl) ?_
      refine wr_get hC hinRX7 hW (vM (by decide)) ce_m0 rfl 12 (by decide) hk0 rfl dX7_digit_38 ?_
      refine lv_re (y := 0) (bput_h) ?_
      refine lv_if_eq (tgt := 48) hx hb dX7_digit_41 (by decide) (fun c_6 => ?_) (fun c_6 => ?_)
      · skip
        refine lv_iconst (v := 1) hx hb dX7_digit_48 (by decide) ?_
        refine lv_iadd hx hb dX7_digit_49 ?_
        refine wr_put (Z' := wset Z 12 (bput (bput B 0 6 0) 0 5 ((B 0 5) + 1))) (v := .int ((B 0 5) + 1)) hC hinRX7 tyX7 tyX7_ok nmX7 hW hS (vM (by decide)) ce_m0 rfl 11 (by decide) hk1 rfl (tyX7_ok 11 (by decide)) rfl rfl (Nat.le_of_ble_eq_true rfl) wset_off pu_m0_5 dX7_digit_50 (fun H locs hW hS => ?_)
        refine lv_iload_n hx hb dX7_digit_53 rfl (lv_at hl 0 rfl) ?_
        refine lv_bipush (v := 48) hx hb dX7_digit_54 (by decide) ?_
        refine lv_isub hx hb dX7_digit_56 ?_
        have hf : fX7_digit B = ((bput (bput B 0 6 0) 0 5 ((B 0 5) + 1)), x_1 - 48) := by
          subst ex_4
          subst ex_1
          exact (if_pos c_2).trans ((if_neg c_5).trans rfl)
        exact we_i hC hr hlocks (congrArg Prod.snd hf).symm (congrArg (fun u => wset Z 12 u.1) hf).symm hW hS dX7_digit_57
      · exact absurd c_6 (by decide)
    · skip
      refine lv_iconst (v := 1) hx hb dX7_digit_24 (by decide) ?_
      refine lv_goto (tgt := 29) hx hb dX7_digit_25 (by decide) ?_
      refine wr_put (Z' := wset Z 12 (bput B 0 6 1)) (v := .int 1) hC hinRX7 tyX7 tyX7_ok nmX7 hW hS (vM (by decide)) ce_m0 rfl 12 (by decide) hk0 rfl (tyX7_ok 12 (by decide)) (by first | rfl | decide | assumption) (by first | rfl | decide) (Nat.le_of_ble_eq_true rfl) wset_off pu_m0_6 dX7_digit_29 (fun H locs hW hS => ?_)
      refine lv_aload_n hx hb dX7_digit_32 rfl (lv_at hl 1 rfl) ?_
      refine lv_dup hx hb dX7_digit_33 rfl ?_
      refine wr_get hC hinRX7 hW (vM (by decide)) ce_m0 rfl 11 (by decide) hk1 rfl dX7_digit_34 ?_
      refine lv_re (y := B 0 5) (bput_q (by decide)) ?_
      refine lv_aload_n hx hb dX7_digit_37 rfl (lv_at hl 1 rfl) ?_
      refine wr_get hC hinRX7 hW (vM (by decide)) ce_m0 rfl 12 (by decide) hk0 rfl dX7_digit_38 ?_
      refine lv_re (y := 1) (bput_h) ?_
      refine lv_if_eq (tgt := 48) hx hb dX7_digit_41 (by decide) (fun c_7 => ?_) (fun c_7 => ?_)
      · exact absurd c_7 (by decide)
      · skip
        refine lv_iconst (v := 0) hx hb dX7_digit_44 (by decide) ?_
        refine lv_goto (tgt := 49) hx hb dX7_digit_45 (by decide) ?_
        refine lv_iadd hx hb dX7_digit_49 ?_
        refine wr_put (Z' := wset Z 12 (bput (bput B 0 6 1) 0 5 ((B 0 5) + 0))) (v := .int ((B 0 5) + 0)) hC hinRX7 tyX7 tyX7_ok nmX7 hW hS (vM (by decide)) ce_m0 rfl 11 (by decide) hk1 rfl (tyX7_ok 11 (by decide)) rfl rfl (Nat.le_of_ble_eq_true rfl) wset_off pu_m0_5 dX7_digit_50 (fun H locs hW hS => ?_)
        refine lv_iload_n hx hb dX7_digit_53 rfl (lv_at hl 0 rfl) ?_
        refine lv_bipush (v := 48) hx hb dX7_digit_54 (by decide) ?_
        refine lv_isub hx hb dX7_digit_56 ?_
        have hf : fX7_digit B = ((bput (bput B 0 6 1) 0 5 ((B 0 5) + 0)), x_1 - 48) := by
          subst ex_4
          subst ex_1
          exact (if_pos c_2).trans ((if_pos c_5).trans rfl)
        exact we_i hC hr hlocks (congrArg Prod.snd hf).symm (congrArg (fun u => wset Z 12 u.1) hf).symm hW hS dX7_digit_57
theorem pzX7_digit {B : wB} {lo n : Nat}  (hn : n ≤ 950) (h : pzl B lo n) : pzl (fX7_digit B).1 lo (n + 1) := by
  simp only [fX7_digit]
  repeat' split
  all_goals first
    | (refine pz_inc (by omega) (pz_oth h (by omega)) ?_; simp [bput]; done)
    | (refine pz_add0 (pz_oth h (by omega)) ?_; simp [bput]; done)
    | (refine pz_inc (by omega) h ?_; simp [bput]; done)
    | (refine pz_add0 h ?_; simp [bput]; done)
def fX7_number (B : wB) : wB × Int32 :=
  let P_1 := fX7_digit B
  let x_2 := P_1.2
  if (P_1.1 0 6) = 0 then (if x_2 ≤ 0 then (P_1.1, x_2)
    else let x_6 := fX7_next P_1.1
    let x_7 := fX7_in x_6 48 57
    if x_7 = 0 then (P_1.1, x_2)
    else let x_9 := ((10 * x_2) + x_6) - 48
    if x_9 ≤ 0 then ((bput P_1.1 0 5 ((P_1.1 0 5) + 1)), x_9)
    else let B_13 := (bput P_1.1 0 5 ((P_1.1 0 5) + 1))
    let x_14 := fX7_next B_13
    let x_15 := fX7_in x_14 48 57
    if x_15 = 0 then (B_13, x_9)
    else let x_17 := ((10 * x_9) + x_14) - 48
    if x_17 ≤ 0 then ((bput B_13 0 5 (((P_1.1 0 5) + 1) + 1)), x_17)
    else let B_21 := (bput B_13 0 5 (((P_1.1 0 5) + 1) + 1))
    let x_22 := fX7_next B_21
    let x_23 := fX7_in x_22 48 57
    if x_23 = 0 then (B_21, x_17)
    else let x_25 := ((10 * x_17) + x_22) - 48
    if x_25 ≤ 0 then ((bput B_21 0 5 ((((P_1.1 0 5) + 1) + 1) + 1)), x_25)
    else ((bput B_21 0 5 ((((P_1.1 0 5) + 1) + 1) + 1)), x_25))
  else (P_1.1, x_2)
abbrev rX7_number : Room := { frames := 2, cells := 0, slots := 0, locals := 43 }
set_option maxHeartbeats 4000000 in
set_option maxRecDepth 100000 in
theorem kX7_number (l : Launch) (G : wG) (Z : wZ) (B : wB)  (N : Nat) (hN : N ≤ 930) (hz : pzl B 0 N) : mI l yX7_number wsX7_number rX7_number G [.ref (G.2.2.1 12 0)] (wset Z 12 B) (fX7_number B).2 (wset Z 12 (fX7_number B).1) := by
  refine Met.ofW (cc := cX7_number) (maxL := 3) (ret := (some .int)) (by decide) rfl ?_
  intro p e s m args below meth c s₁ B0 hml hv
  obtain ⟨rfl, hW, hK, hL⟩ := hv
  have hlocks := B0.notSynchronized
  have hr := B0.returns
  have hC : wX p s m c cX7_number _ wsX7_number RX7 G := ⟨B0.exec, B0.bytes, findClass_of_methodNamed B0.named, atoms_spec (ws := wsX7_number) B0.pre, hK, hL⟩
  have hx := hC.1
  have hb := hC.2.1
  have hts := hC.2.2.2.1
  have hinRX7 : ∀ w ∈ wsX70, w ∈ wsX7_number := by decide +kernel
  have hk0 := hts (.fieldLink RX7 163 "RampShaftsModel" "isWrong" "Z") (by decide +kernel)
  have hk1 := hts (.fieldLink RX7 160 "RampShaftsModel" "spot" "I") (by decide +kernel)
  have hS : va_S (wA G) s.heap s.heap [] := va_S.rf
  have hl := lv_entry ([.ref (G.2.2.1 12 0)]) (n := 3) (Nat.le_of_ble_eq_true rfl)
  rw [lg_entry_eq]
  generalize (lg_sl ([.ref (G.2.2.1 12 0)]) ++ List.replicate (3 - (lg_sl ([.ref (G.2.2.1 12 0)])).length) Slot.unset).toArray = ls at hl ⊢
  have hl : lv_has ls 3 [(0, .ref (G.2.2.1 12 0))] := hl
  refine lv_aload_n hx hb dX7_number_0 rfl (lv_at hl 0 rfl) ?_
  refine wc_i hC hml (kX7_digit l G Z B (N + 0) (by omega) hz) (cwV 0 hts gX7_number_X7_digit rfl rfl rfl (by decide +kernel) ⟨Nat.le_of_ble_eq_true rfl, Nat.le_of_ble_eq_true rfl⟩) hW hS (vM (by decide)) ce_m0 rfl rfl rfl rfl hl.1 (Nat.le_of_ble_eq_true rfl) dX7_number_1 (fun H locs hW hS => ?_)
  obtain ⟨P_1, eP_1⟩ : ∃ y, y = fX7_digit B := ⟨_, rfl⟩
  rw [← eP_1] at hW ⊢
  refine lv_topi (fun x_2 ex_2 => ?_)
  refine lv_istore_n (lv' := [(1, .int x_2), (0, .ref (G.2.2.1 12 0))]) hx hb dX7_number_4 rfl hl (by decide) rfl (fun ls hl => ?_)
  refine lv_iconst (v := 1) hx hb dX7_number_5 (by decide) ?_
  refine lv_istore_n (lv' := [(2, .int 1), (1, .int x_2), (0, .ref (G.2.2.1 12 0))]) hx hb dX7_number_6 rfl hl (by decide) rfl (fun ls hl => ?_)
  refine lv_aload_n hx hb dX7_number_7 rfl (lv_at hl 2 rfl) ?_
  refine wr_get hC hinRX7 hW (vM (by decide)) ce_m0 rfl 12 (by decide) hk0 rfl dX7_number_8 ?_
  refine lv_if_ne (tgt := 66) hx hb dX7_number_11 (by decide) (fun c_3 => ?_) (fun c_3 => ?_)
  · skip
    refine lv_iload_n hx hb dX7_number_66 rfl (lv_at hl 1 rfl) ?_
    have hf : fX7_number B = (P_1.1, x_2) := by
      subst ex_2
      subst eP_1
      exact (if_neg c_3).trans rfl
    exact we_i hC hr hlocks (congrArg Prod.snd hf).symm (congrArg (fun u => wset Z 12 u.1) hf).symm hW hS dX7_number_67
  · skip
    refine lv_iload_n hx hb dX7_number_14 rfl (lv_at hl 1 rfl) ?_
    refine lv_if_le (tgt := 66) hx hb dX7_number_15 (by decide) (fun c_4 => ?_) (fun c_4 => ?_)
    · skip
      refine lv_iload_n hx hb dX7_number_66 rfl (lv_at hl 1 rfl) ?_
      have hf : fX7_number B = (P_1.1, x_2) := by
        subst ex_2
        subst eP_1
        exact (if_pos c_3).trans ((if_pos c_4).trans rfl)
      exact we_i hC hr hlocks (congrArg Prod.snd hf).symm (congrArg (fun u => wset Z 12 u.1) hf).symm hW hS dX7_number_67
    · skip
      refine lv_iload_n hx hb dX7_number_18 rfl (lv_at hl 0 rfl) ?_
      refine lv_iconst (v := 4) hx hb dX7_number_19 (by decide) ?_
      refine lv_icmp_ge (tgt := 66) hx hb dX7_number_20 (by decide) (fun c_5 => ?_) (fun c_5 => ?_)
      · exact absurd c_5 (by decide)
      · skip
        refine lv_aload_n hx hb dX7_number_23 rfl (lv_at hl 2 rfl) ?_
        refine wc_i hC hml (kX7_next l G Z P_1.1 (N + 1) (by omega) (by rw [eP_1]; exact pzX7_digit (n := N + 0) (by omega) hz)) (cwV 0 hts gX7_number_X7_next rfl rfl rfl (by decide +kernel) ⟨Nat.le_of_ble_eq_true rfl, Nat.le_of_ble_eq_true rfl⟩) hW hS (vM (by decide)) ce_m0 rfl rfl rfl rfl hl.1 (Nat.le_of_ble_eq_true rfl) dX7_number_24 (fun H locs hW hS => ?_)
        refine lv_topi (fun x_6 ex_6 => ?_)
        refine lv_bipush (v := 48) hx hb dX7_number_27 (by decide) ?_
        refine lv_bipush (v := 57) hx hb dX7_number_29 (by decide) ?_
        refine wc_s hC hml (kX7_in l G (wset Z 12 P_1.1) x_6 48 57) (cwS 3 hts gX7_number_X7_in rfl rfl rfl (by decide +kernel) ⟨Nat.le_of_ble_eq_true rfl, Nat.le_of_ble_eq_true rfl⟩) hW hS rfl rfl hl.1 (Nat.le_of_ble_eq_true rfl) dX7_number_31 (fun H locs hW hS => ?_)
        refine lv_topi (fun x_7 ex_7 => ?_)
        refine lv_if_eq (tgt := 66) hx hb dX7_number_34 (by decide) (fun c_8 => ?_) (fun c_8 => ?_)
        · skip
          refine lv_iload_n hx hb dX7_number_66 rfl (lv_at hl 1 rfl) ?_
          have hf : fX7_number B = (P_1.1, x_2) := by
            subst ex_7
            subst ex_6
            subst ex_2
            subst eP_1
            exact (if_pos c_3).trans ((if_neg c_4).trans ((if_pos c_8).trans rfl))
          exact we_i hC hr hlocks (congrArg Prod.snd hf).symm (congrArg (fun u => wset Z 12 u.1) hf).symm hW hS dX7_number_67
        · skip
          refine lv_bipush (v := 10) hx hb dX7_number_37 (by decide) ?_
          refine lv_iload_n hx hb dX7_number_39 rfl (lv_at hl 1 rfl) ?_
          refine lv_imul hx hb dX7_number_40 ?_
          refine lv_aload_n hx hb dX7_number_41 rfl (lv_at hl 2 rfl) ?_
          refine wc_i hC hml (kX7_next l G Z P_1.1 (N + 1) (by omega) (by rw [eP_1]; exact pzX7_digit (n := N + 0) (by omega) hz)) (cwV 0 hts gX7_number_X7_next rfl rfl rfl (by decide +kernel) ⟨Nat.le_of_ble_eq_true rfl, Nat.le_of_ble_eq_true rfl⟩) hW hS (vM (by decide)) ce_m0 rfl rfl rfl rfl hl.1 (Nat.le_of_ble_eq_true rfl) dX7_number_42 (fun H locs hW hS => ?_)
          refine lv_re ex_6.symm ?_
          refine lv_iadd hx hb dX7_number_45 ?_
          refine lv_bipush (v := 48) hx hb dX7_number_46 (by decide) ?_
          refine lv_isub hx hb dX7_number_48 ?_
          refine lv_topi (fun x_9 ex_9 => ?_)
          refine lv_istore_n (lv' := [(1, .int x_9), (2, .int 1), (0, .ref (G.2.2.1 12 0))]) hx hb dX7_number_49 rfl hl (by decide) rfl (fun ls hl => ?_)
          refine lv_aload_n hx hb dX7_number_50 rfl (lv_at hl 2 rfl) ?_
          refine lv_dup hx hb dX7_number_51 rfl ?_
          refine wr_get hC hinRX7 hW (vM (by decide)) ce_m0 rfl 11 (by decide) hk1 rfl dX7_number_52 ?_
          refine lv_iconst (v := 1) hx hb dX7_number_55 (by decide) ?_
          refine lv_iadd hx hb dX7_number_56 ?_
          refine wr_put (Z' := wset Z 12 (bput P_1.1 0 5 ((P_1.1 0 5) + 1))) (v := .int ((P_1.1 0 5) + 1)) hC hinRX7 tyX7 tyX7_ok nmX7 hW hS (vM (by decide)) ce_m0 rfl 11 (by decide) hk1 rfl (tyX7_ok 11 (by decide)) rfl rfl (Nat.le_of_ble_eq_true rfl) wset_off pu_m0_5 dX7_number_57 (fun H locs hW hS => ?_)
          refine lv_iinc (v := 2) (lv' := [(2, .int 2), (1, .int x_9), (0, .ref (G.2.2.1 12 0))]) hx hb dX7_number_60 hl (k := 1) rfl (by decide) (by decide) rfl (fun ls hl => ?_)
          refine lv_goto (tgt := 7) hx hb dX7_number_63 (by decide) ?_
          refine lv_aload_n hx hb dX7_number_7 rfl (lv_at hl 2 rfl) ?_
          refine wr_get hC hinRX7 hW (vM (by decide)) ce_m0 rfl 12 (by decide) hk0 rfl dX7_number_8 ?_
          refine lv_re (y := P_1.1 0 6) (bput_q (by decide)) ?_
          refine lv_if_ne (tgt := 66) hx hb dX7_number_11 (by decide) (fun c_10 => ?_) (fun c_10 => ?_)
          · first | exact absurd c_3 c_10 | exact absurd c_10 c_3
          · skip
            refine lv_iload_n hx hb dX7_number_14 rfl (lv_at hl 1 rfl) ?_
            refine lv_if_le (tgt := 66) hx hb dX7_number_15 (by decide) (fun c_11 => ?_) (fun c_11 => ?_)
            · skip
              refine lv_iload_n hx hb dX7_number_66 rfl (lv_at hl 1 rfl) ?_
              have hf : fX7_number B = ((bput P_1.1 0 5 ((P_1.1 0 5) + 1)), x_9) := by
                subst ex_9
                subst ex_7
                subst ex_6
                subst ex_2
                subst eP_1
                exact (if_pos c_3).trans ((if_neg c_4).trans ((if_neg c_8).trans ((if_pos c_11).trans rfl)))
              exact we_i hC hr hlocks (congrArg Prod.snd hf).symm (congrArg (fun u => wset Z 12 u.1) hf).symm hW hS dX7_number_67
            · skip
              refine lv_iload_n hx hb dX7_number_18 rfl (lv_at hl 0 rfl) ?_
              refine lv_iconst (v := 4) hx hb dX7_number_19 (by decide) ?_
              refine lv_icmp_ge (tgt := 66) hx hb dX7_number_20 (by decide) (fun c_12 => ?_) (fun c_12 => ?_)
              · exact absurd c_12 (by decide)
              · skip
                refine lv_aload_n hx hb dX7_number_23 rfl (lv_at hl 2 rfl) ?_
                obtain ⟨B_13, eB_13⟩ : ∃ y, y = (bput P_1.1 0 5 ((P_1.1 0 5) + 1)) := ⟨_, rfl⟩
                rw [← eB_13] at hW
                refine wc_i hC hml (kX7_next l G Z B_13 (N + 2) (by omega) (by rw [eB_13]; exact (pz_inc (n := N + 1) (by omega) (by rw [eP_1]; exact pzX7_digit (n := N + 0) (by omega) hz) (by simp [bput, eB_13])))) (cwV 0 hts gX7_number_X7_next rfl rfl rfl (by decide +kernel) ⟨Nat.le_of_ble_eq_true rfl, Nat.le_of_ble_eq_true rfl⟩) hW hS (vM (by decide)) ce_m0 rfl rfl rfl rfl hl.1 (Nat.le_of_ble_eq_true rfl) dX7_number_24 (fun H locs hW hS => ?_)
                refine lv_topi (fun x_14 ex_14 => ?_)
                refine lv_bipush (v := 48) hx hb dX7_number_27 (by decide) ?_
                refine lv_bipush (v := 57) hx hb dX7_number_29 (by decide) ?_
                refine wc_s hC hml (kX7_in l G (wset Z 12 B_13) x_14 48 57) (cwS 3 hts gX7_number_X7_in rfl rfl rfl (by decide +kernel) ⟨Nat.le_of_ble_eq_true rfl, Nat.le_of_ble_eq_true rfl⟩) hW hS rfl rfl hl.1 (Nat.le_of_ble_eq_true rfl) dX7_number_31 (fun H locs hW hS => ?_)
                refine lv_topi (fun x_15 ex_15 => ?_)
                refine lv_if_eq (tgt := 66) hx hb dX7_number_34 (by decide) (fun c_16 => ?_) (fun c_16 => ?_)
                · skip
                  refine lv_iload_n hx hb dX7_number_66 rfl (lv_at hl 1 rfl) ?_
                  have hf : fX7_number B = (B_13, x_9) := by
                    subst ex_15
                    subst ex_14
                    subst eB_13
                    subst ex_9
                    subst ex_7
                    subst ex_6
                    subst ex_2
                    subst eP_1
                    exact (if_pos c_3).trans ((if_neg c_4).trans ((if_neg c_8).trans ((if_neg c_11).trans ((if_pos c_16).trans rfl))))
                  exact we_i hC hr hlocks (congrArg Prod.snd hf).symm (congrArg (fun u => wset Z 12 u.1) hf).symm hW hS dX7_number_67
                · skip
                  refine lv_bipush (v := 10) hx hb dX7_number_37 (by decide) ?_
                  refine lv_iload_n hx hb dX7_number_39 rfl (lv_at hl 1 rfl) ?_
                  refine lv_imul hx hb dX7_number_40 ?_
                  refine lv_aload_n hx hb dX7_number_41 rfl (lv_at hl 2 rfl) ?_
                  refine wc_i hC hml (kX7_next l G Z B_13 (N + 2) (by omega) (by rw [eB_13]; exact (pz_inc (n := N + 1) (by omega) (by rw [eP_1]; exact pzX7_digit (n := N + 0) (by omega) hz) (by simp [bput, eB_13])))) (cwV 0 hts gX7_number_X7_next rfl rfl rfl (by decide +kernel) ⟨Nat.le_of_ble_eq_true rfl, Nat.le_of_ble_eq_true rfl⟩) hW hS (vM (by decide)) ce_m0 rfl rfl rfl rfl hl.1 (Nat.le_of_ble_eq_true rfl) dX7_number_42 (fun H locs hW hS => ?_)
                  refine lv_re ex_14.symm ?_
                  refine lv_iadd hx hb dX7_number_45 ?_
                  refine lv_bipush (v := 48) hx hb dX7_number_46 (by decide) ?_
                  refine lv_isub hx hb dX7_number_48 ?_
                  refine lv_topi (fun x_17 ex_17 => ?_)
                  refine lv_istore_n (lv' := [(1, .int x_17), (2, .int 2), (0, .ref (G.2.2.1 12 0))]) hx hb dX7_number_49 rfl hl (by decide) rfl (fun ls hl => ?_)
                  refine lv_aload_n hx hb dX7_number_50 rfl (lv_at hl 2 rfl) ?_
                  refine lv_dup hx hb dX7_number_51 rfl ?_
                  refine wr_get hC hinRX7 hW (vM (by decide)) ce_m0 rfl 11 (by decide) hk1 rfl dX7_number_52 ?_
                  refine lv_re (y := (P_1.1 0 5) + 1) (((congrFun (congrFun eB_13 _) _)).trans (bput_h)) ?_
                  refine lv_iconst (v := 1) hx hb dX7_number_55 (by decide) ?_
                  refine lv_iadd hx hb dX7_number_56 ?_
                  refine wr_put (Z' := wset Z 12 (bput B_13 0 5 (((P_1.1 0 5) + 1) + 1))) (v := .int (((P_1.1 0 5) + 1) + 1)) hC hinRX7 tyX7 tyX7_ok nmX7 hW hS (vM (by decide)) ce_m0 rfl 11 (by decide) hk1 rfl (tyX7_ok 11 (by decide)) rfl rfl (Nat.le_of_ble_eq_true rfl) wset_off pu_m0_5 dX7_number_57 (fun H locs hW hS => ?_)
                  refine lv_iinc (v := 3) (lv' := [(2, .int 3), (1, .int x_17), (0, .ref (G.2.2.1 12 0))]) hx hb dX7_number_60 hl (k := 1) rfl (by decide) (by decide) rfl (fun ls hl => ?_)
                  refine lv_goto (tgt := 7) hx hb dX7_number_63 (by decide) ?_
                  refine lv_aload_n hx hb dX7_number_7 rfl (lv_at hl 2 rfl) ?_
                  refine wr_get hC hinRX7 hW (vM (by decide)) ce_m0 rfl 12 (by decide) hk0 rfl dX7_number_8 ?_
                  refine lv_re (y := P_1.1 0 6) (((bput_q (by decide)).trans ((congrFun (congrFun eB_13 _) _))).trans (bput_q (by decide))) ?_
                  refine lv_if_ne (tgt := 66) hx hb dX7_number_11 (by decide) (fun c_18 => ?_) (fun c_18 => ?_)
                  · first | exact absurd c_3 c_18 | exact absurd c_18 c_3
                  · skip
                    refine lv_iload_n hx hb dX7_number_14 rfl (lv_at hl 1 rfl) ?_
                    refine lv_if_le (tgt := 66) hx hb dX7_number_15 (by decide) (fun c_19 => ?_) (fun c_19 => ?_)
                    · skip
                      refine lv_iload_n hx hb dX7_number_66 rfl (lv_at hl 1 rfl) ?_
                      have hf : fX7_number B = ((bput B_13 0 5 (((P_1.1 0 5) + 1) + 1)), x_17) := by
                        subst ex_17
                        subst ex_15
                        subst ex_14
                        subst eB_13
                        subst ex_9
                        subst ex_7
                        subst ex_6
                        subst ex_2
                        subst eP_1
                        exact (if_pos c_3).trans ((if_neg c_4).trans ((if_neg c_8).trans ((if_neg c_11).trans ((if_neg c_16).trans ((if_pos c_19).trans rfl)))))
                      exact we_i hC hr hlocks (congrArg Prod.snd hf).symm (congrArg (fun u => wset Z 12 u.1) hf).symm hW hS dX7_number_67
                    · skip
                      refine lv_iload_n hx hb dX7_number_18 rfl (lv_at hl 0 rfl) ?_
                      refine lv_iconst (v := 4) hx hb dX7_number_19 (by decide) ?_
                      refine lv_icmp_ge (tgt := 66) hx hb dX7_number_20 (by decide) (fun c_20 => ?_) (fun c_20 => ?_)
                      · exact absurd c_20 (by decide)
                      · skip
                        refine lv_aload_n hx hb dX7_number_23 rfl (lv_at hl 2 rfl) ?_
                        obtain ⟨B_21, eB_21⟩ : ∃ y, y = (bput B_13 0 5 (((P_1.1 0 5) + 1) + 1)) := ⟨_, rfl⟩
                        rw [← eB_21] at hW
                        refine wc_i hC hml (kX7_next l G Z B_21 (N + 3) (by omega) (by rw [eB_21]; exact (pz_inc (n := N + 2) (by omega) (by rw [eB_13]; exact (pz_inc (n := N + 1) (by omega) (by rw [eP_1]; exact pzX7_digit (n := N + 0) (by omega) hz) (by simp [bput, eB_13, eB_21]))) (by simp [bput, eB_13, eB_21])))) (cwV 0 hts gX7_number_X7_next rfl rfl rfl (by decide +kernel) ⟨Nat.le_of_ble_eq_true rfl, Nat.le_of_ble_eq_true rfl⟩) hW hS (vM (by decide)) ce_m0 rfl rfl rfl rfl hl.1 (Nat.le_of_ble_eq_true rfl) dX7_number_24 (fun H locs hW hS => ?_)
                        refine lv_topi (fun x_22 ex_22 => ?_)
                        refine lv_bipush (v := 48) hx hb dX7_number_27 (by decide) ?_
                        refine lv_bipush (v := 57) hx hb dX7_number_29 (by decide) ?_
                        refine wc_s hC hml (kX7_in l G (wset Z 12 B_21) x_22 48 57) (cwS 3 hts gX7_number_X7_in rfl rfl rfl (by decide +kernel) ⟨Nat.le_of_ble_eq_true rfl, Nat.le_of_ble_eq_true rfl⟩) hW hS rfl rfl hl.1 (Nat.le_of_ble_eq_true rfl) dX7_number_31 (fun H locs hW hS => ?_)
                        refine lv_topi (fun x_23 ex_23 => ?_)
                        refine lv_if_eq (tgt := 66) hx hb dX7_number_34 (by decide) (fun c_24 => ?_) (fun c_24 => ?_)
                        · skip
                          refine lv_iload_n hx hb dX7_number_66 rfl (lv_at hl 1 rfl) ?_
                          have hf : fX7_number B = (B_21, x_17) := by
                            subst ex_23
                            subst ex_22
                            subst eB_21
                            subst ex_17
                            subst ex_15
                            subst ex_14
                            subst eB_13
                            subst ex_9
                            subst ex_7
                            subst ex_6
                            subst ex_2
                            subst eP_1
                            exact (if_pos c_3).trans ((if_neg c_4).trans ((if_neg c_8).trans ((if_neg c_11).trans ((if_neg c_16).trans ((if_neg c_19).trans ((if_pos c_24).trans rfl))))))
                          exact we_i hC hr hlocks (congrArg Prod.snd hf).symm (congrArg (fun u => wset Z 12 u.1) hf).symm hW hS dX7_number_67
                        · skip
                          refine lv_bipush (v := 10) hx hb dX7_number_37 (by decide) ?_
                          refine lv_iload_n hx hb dX7_number_39 rfl (lv_at hl 1 rfl) ?_
                          refine lv_imul hx hb dX7_number_40 ?_
                          refine lv_aload_n hx hb dX7_number_41 rfl (lv_at hl 2 rfl) ?_
                          refine wc_i hC hml (kX7_next l G Z B_21 (N + 3) (by omega) (by rw [eB_21]; exact (pz_inc (n := N + 2) (by omega) (by rw [eB_13]; exact (pz_inc (n := N + 1) (by omega) (by rw [eP_1]; exact pzX7_digit (n := N + 0) (by omega) hz) (by simp [bput, eB_13, eB_21]))) (by simp [bput, eB_13, eB_21])))) (cwV 0 hts gX7_number_X7_next rfl rfl rfl (by decide +kernel) ⟨Nat.le_of_ble_eq_true rfl, Nat.le_of_ble_eq_true rfl⟩) hW hS (vM (by decide)) ce_m0 rfl rfl rfl rfl hl.1 (Nat.le_of_ble_eq_true rfl) dX7_number_42 (fun H locs hW hS => ?_)
                          refine lv_re ex_22.symm ?_
                          refine lv_iadd hx hb dX7_number_45 ?_
                          refine lv_bipush (v := 48) hx hb dX7_number_46 (by decide) ?_
                          refine lv_isub hx hb dX7_number_48 ?_
                          refine lv_topi (fun x_25 ex_25 => ?_)
                          refine lv_istore_n (lv' := [(1, .int x_25), (2, .int 3), (0, .ref (G.2.2.1 12 0))]) hx hb dX7_number_49 rfl hl (by decide) rfl (fun ls hl => ?_)
                          refine lv_aload_n hx hb dX7_number_50 rfl (lv_at hl 2 rfl) ?_
                          refine lv_dup hx hb dX7_number_51 rfl ?_
                          refine wr_get hC hinRX7 hW (vM (by decide)) ce_m0 rfl 11 (by decide) hk1 rfl dX7_number_52 ?_
                          refine lv_re (y := ((P_1.1 0 5) + 1) + 1) (((congrFun (congrFun eB_21 _) _)).trans (bput_h)) ?_
                          refine lv_iconst (v := 1) hx hb dX7_number_55 (by decide) ?_
                          refine lv_iadd hx hb dX7_number_56 ?_
                          refine wr_put (Z' := wset Z 12 (bput B_21 0 5 ((((P_1.1 0 5) + 1) + 1) + 1))) (v := .int ((((P_1.1 0 5) + 1) + 1) + 1)) hC hinRX7 tyX7 tyX7_ok nmX7 hW hS (vM (by decide)) ce_m0 rfl 11 (by decide) hk1 rfl (tyX7_ok 11 (by decide)) rfl rfl (Nat.le_of_ble_eq_true rfl) wset_off pu_m0_5 dX7_number_57 (fun H locs hW hS => ?_)
                          refine lv_iinc (v := 4) (lv' := [(2, .int 4), (1, .int x_25), (0, .ref (G.2.2.1 12 0))]) hx hb dX7_number_60 hl (k := 1) rfl (by decide) (by decide) rfl (fun ls hl => ?_)
                          refine lv_goto (tgt := 7) hx hb dX7_number_63 (by decide) ?_
                          refine lv_aload_n hx hb dX7_number_7 rfl (lv_at hl 2 rfl) ?_
                          refine wr_get hC hinRX7 hW (vM (by decide)) ce_m0 rfl 12 (by decide) hk0 rfl dX7_number_8 ?_
                          refine lv_re (y := P_1.1 0 6) (((((bput_q (by decide)).trans ((congrFun (congrFun eB_21 _) _))).trans (bput_q (by decide))).trans ((congrFun (congrFun eB_13 _) _))).trans (bput_q (by decide))) ?_
                          refine lv_if_ne (tgt := 66) hx hb dX7_number_11 (by decide) (fun c_26 => ?_) (fun c_26 => ?_)
                          · first | exact absurd c_3 c_26 | exact absurd c_26 c_3
                          · skip
                            refine lv_iload_n hx hb dX7_number_14 rfl (lv_at hl 1 rfl) ?_
                            refine lv_if_le (tgt := 66) hx hb dX7_number_15 (by decide) (fun c_27 => ?_) (fun c_27 => ?_)
                            · skip
                              refine lv_iload_n hx hb dX7_number_66 rfl (lv_at hl 1 rfl) ?_
                              have hf : fX7_number B = ((bput B_21 0 5 ((((P_1.1 0 5) + 1) + 1) + 1)), x_25) := by
                                subst ex_25
                                subst ex_23
                                subst ex_22
                                subst eB_21
                                subst ex_17
                                subst ex_15
                                subst ex_14
                                subst eB_13
                                subst ex_9
                                subst ex_7
                                subst ex_6
                                subst ex_2
                                subst eP_1
                                exact (if_pos c_3).trans ((if_neg c_4).trans ((if_neg c_8).trans ((if_neg c_11).trans ((if_neg c_16).trans ((if_neg c_19).trans ((if_neg c_24).trans ((if_pos c_27).trans rfl)))))))
                              exact we_i hC hr hlocks (congrArg Prod.snd hf).symm (congrArg (fun u => wset Z 12 u.1) hf).symm hW hS dX7_number_67
                            · skip
                              refine lv_iload_n hx hb dX7_number_18 rfl (lv_at hl 0 rfl) ?_
                              refine lv_iconst (v := 4) hx hb dX7_number_19 (by decide) ?_
                              refine lv_icmp_ge (tgt := 66) hx hb dX7_number_20 (by decide) (fun c_28 => ?_) (fun c_28 => ?_)
                              · skip
                                refine lv_iload_n hx hb dX7_number_66 rfl (lv_at hl 1 rfl) ?_
                                have hf : fX7_number B = ((bput B_21 0 5 ((((P_1.1 0 5) + 1) + 1) + 1)), x_25) := by
                                  subst ex_25
                                  subst ex_23
                                  subst ex_22
                                  subst eB_21
                                  subst ex_17
                                  subst ex_15
                                  subst ex_14
                                  subst eB_13
                                  subst ex_9
                                  subst ex_7
                                  subst ex_6
                                  subst ex_2
                                  subst eP_1
                                  exact (if_pos c_3).trans ((if_neg c_4).trans ((if_neg c_8).trans ((if_neg c_11).trans ((if_neg c_16).trans ((if_neg c_19).trans ((if_neg c_24).trans ((if_neg c_27).trans rfl)))))))
                                exact we_i hC hr hlocks (congrArg Prod.snd hf).symm (congrArg (fun u => wset Z 12 u.1) hf).symm hW hS dX7_number_67
                              · exact absurd c_28 (by decide)
theorem pz_ite {c : Prop} [Decidable c] {a b : wB × Int32} {lo n : Nat} (ha : pzl a.1 lo n) (hb : pzl b.1 lo n) : pzl (ite c a b).1 lo n := by
  by_cases h : c
  · rw [if_pos h]; exact ha
  · rw [if_neg h]; exact hb
theorem pzX7_number {B : wB} {lo n : Nat} (hn : n ≤ 950) (h : pzl B lo n) : pzl (fX7_number B).1 lo (n + 4) := by
  have h1 := pzX7_digit hn h
  have h2 : pzl (bput (fX7_digit B).1 0 5 ((fX7_digit B).1 0 5 + 1)) lo (n + 1 + 1) := pz_inc (by omega) h1 rfl
  have h3 : pzl (bput (bput (fX7_digit B).1 0 5 ((fX7_digit B).1 0 5 + 1)) 0 5 ((fX7_digit B).1 0 5 + 1 + 1)) lo (n + 1 + 1 + 1) := pz_inc (by omega) h2 (by rw [bput_h])
  have h4 : pzl (bput (bput (bput (fX7_digit B).1 0 5 ((fX7_digit B).1 0 5 + 1)) 0 5 ((fX7_digit B).1 0 5 + 1 + 1)) 0 5 ((fX7_digit B).1 0 5 + 1 + 1 + 1)) lo (n + 1 + 1 + 1 + 1) := pz_inc (by omega) h3 (by rw [bput_h])
  have m1 := pz_mono (lo' := lo) (m := n + 4) h1 (by omega) (Nat.le_refl _)
  have m2 := pz_mono (lo' := lo) (m := n + 4) h2 (by omega) (Nat.le_refl _)
  have m3 := pz_mono (lo' := lo) (m := n + 4) h3 (by omega) (Nat.le_refl _)
  have m4 := pz_mono (lo' := lo) (m := n + 4) h4 (by omega) (Nat.le_refl _)
  exact pz_ite (pz_ite m1 (pz_ite m1 (pz_ite m2 (pz_ite m2 (pz_ite m3 (pz_ite m3 (pz_ite m4 m4))))))) m1
def fX7_place (B : wB) : wB × Int32 :=
  if (B 0 6) = 0 then (let x_7 := fX7_next B
    if x_7 = 45 then (let B_15 := (bput B 0 5 ((B 0 5) + 1))
      let P_16 := fX7_number B_15
      let x_17 := P_16.2
      (P_16.1, -x_17))
    else let B_10 := (bput B 0 5 ((B 0 5) + 0))
    let P_11 := fX7_number B_10
    let x_12 := P_11.2
    (P_11.1, x_12))
  else let B_3 := (bput B 0 5 ((B 0 5) + 0))
  let P_4 := fX7_number B_3
  let x_5 := P_4.2
  (P_4.1, x_5)
abbrev rX7_place : Room := { frames := 3, cells := 0, slots := 0, locals := 65 }
set_option maxHeartbeats 4000000 in
set_option maxRecDepth 100000 in
theorem kX7_place (l : Launch) (G : wG) (Z : wZ) (B : wB)  (N : Nat) (hN : N ≤ 920) (hz : pzl B 0 N) : mI l yX7_place wsX7_place rX7_place G [.ref (G.2.2.1 12 0)] (wset Z 12 B) (fX7_place B).2 (wset Z 12 (fX7_place B).1) := by
  refine Met.ofW (cc := cX7_place) (maxL := 3) (ret := (some .int)) (by decide) rfl ?_
  intro p e s m args below meth c s₁ B0 hml hv
  obtain ⟨rfl, hW, hK, hL⟩ := hv
  have hlocks := B0.notSynchronized
  have hr := B0.returns
  have hC : wX p s m c cX7_place _ wsX7_place RX7 G := ⟨B0.exec, B0.bytes, findClass_of_methodNamed B0.named, atoms_spec (ws := wsX7_place) B0.pre, hK, hL⟩
  have hx := hC.1
  have hb := hC.2.1
  have hts := hC.2.2.2.1
  have hinRX7 : ∀ w ∈ wsX70, w ∈ wsX7_place := by decide +kernel
  have hk0 := hts (.fieldLink RX7 163 "RampShaftsModel" "isWrong" "Z") (by decide +kernel)
  have hk1 := hts (.fieldLink RX7 160 "RampShaftsModel" "spot" "I") (by decide +kernel)
  have hS : va_S (wA G) s.heap s.heap [] := va_S.rf
  have hl := lv_entry ([.ref (G.2.2.1 12 0)]) (n := 3) (Nat.le_of_ble_eq_true rfl)
  rw [lg_entry_eq]
  generalize (lg_sl ([.ref (G.2.2.1 12 0)]) ++ List.replicate (3 - (lg_sl ([.ref (G.2.2.1 12 0)])).length) Slot.unset).toArray = ls at hl ⊢
  have hl : lv_has ls 3 [(0, .ref (G.2.2.1 12 0))] := hl
  refine lv_aload_n hx hb dX7_place_0 rfl (lv_at hl 0 rfl) ?_
  refine wr_get hC hinRX7 hW (vM (by decide)) ce_m0 rfl 12 (by decide) hk0 rfl dX7_place_1 ?_
  refine lv_if_ne (tgt := 20) hx hb dX7_place_4 (by decide) (fun c_1 => ?_) (fun c_1 => ?_)
  · skip
    refine lv_iconst (v := 0) hx hb dX7_place_20 (by decide) ?_
    refine lv_istore_n (lv' := [(1, .int 0), (0, .ref (G.2.2.1 12 0))]) hx hb dX7_place_21 rfl hl (by decide) rfl (fun ls hl => ?_)
    refine lv_aload_n hx hb dX7_place_22 rfl (lv_at hl 1 rfl) ?_
    refine lv_dup hx hb dX7_place_23 rfl ?_
    refine wr_get hC hinRX7 hW (vM (by decide)) ce_m0 rfl 11 (by decide) hk1 rfl dX7_place_24 ?_
    refine lv_iload_n hx hb dX7_place_27 rfl (lv_at hl 0 rfl) ?_
    refine lv_if_eq (tgt := 35) hx hb dX7_place_28 (by decide) (fun c_2 => ?_) (fun c_2 => ?_)
    · skip
      refine lv_iconst (v := 0) hx hb dX7_place_35 (by decide) ?_
      refine lv_iadd hx hb dX7_place_36 ?_
      refine wr_put (Z' := wset Z 12 (bput B 0 5 ((B 0 5) + 0))) (v := .int ((B 0 5) + 0)) hC hinRX7 tyX7 tyX7_ok nmX7 hW hS (vM (by decide)) ce_m0 rfl 11 (by decide) hk1 rfl (tyX7_ok 11 (by decide)) rfl rfl (Nat.le_of_ble_eq_true rfl) wset_off pu_m0_5 dX7_place_37 (fun H locs hW hS => ?_)
      refine lv_aload_n hx hb dX7_place_40 rfl (lv_at hl 1 rfl) ?_
      obtain ⟨B_3, eB_3⟩ : ∃ y, y = (bput B 0 5 ((B 0 5) + 0)) := ⟨_, rfl⟩
      rw [← eB_3] at hW
      refine wc_i hC hml (kX7_number l G Z B_3 (N + 1) (by omega) (by rw [eB_3]; exact (pz_add0 hz (by simp [bput, eB_3])))) (cwV 0 hts gX7_place_X7_number rfl rfl rfl (by decide +kernel) ⟨Nat.le_of_ble_eq_true rfl, Nat.le_of_ble_eq_true rfl⟩) hW hS (vM (by decide)) ce_m0 rfl rfl rfl rfl hl.1 (Nat.le_of_ble_eq_true rfl) dX7_place_41 (fun H locs hW hS => ?_)
      obtain ⟨P_4, eP_4⟩ : ∃ y, y = fX7_number B_3 := ⟨_, rfl⟩
      rw [← eP_4] at hW ⊢
      refine lv_topi (fun x_5 ex_5 => ?_)
      refine lv_istore_n (lv' := [(2, .int x_5), (1, .int 0), (0, .ref (G.2.2.1 12 0))]) hx hb dX7_place_44 rfl hl (by decide) rfl (fun ls hl => ?_)
      refine lv_iload_n hx hb dX7_place_45 rfl (lv_at hl 1 rfl) ?_
      refine lv_if_eq (tgt := 54) hx hb dX7_place_46 (by decide) (fun c_6 => ?_) (fun c_6 => ?_)
      · skip
        refine lv_iload_n hx hb dX7_place_54 rfl (lv_at hl 0 rfl) ?_
        have hf : fX7_place B = (P_4.1, x_5) := by
          subst ex_5
          subst eP_4
          subst eB_3
          exact (if_neg c_1).trans rfl
        exact we_i hC hr hlocks (congrArg Prod.snd hf).symm (congrArg (fun u => wset Z 12 u.1) hf).symm hW hS dX7_place_55
      · exact absurd c_6 (by decide)
    · exact absurd c_2 (by decide)
  · skip
    refine lv_aload_n hx hb dX7_place_7 rfl (lv_at hl 0 rfl) ?_
    refine wc_i hC hml (kX7_next l G Z B (N + 0) (by omega) hz) (cwV 0 hts gX7_place_X7_next rfl rfl rfl (by decide +kernel) ⟨Nat.le_of_ble_eq_true rfl, Nat.le_of_ble_eq_true rfl⟩) hW hS (vM (by decide)) ce_m0 rfl rfl rfl rfl hl.1 (Nat.le_of_ble_eq_true rfl) dX7_place_8 (fun H locs hW hS => ?_)
    refine lv_topi (fun x_7 ex_7 => ?_)
    refine lv_bipush (v := 45) hx hb dX7_place_11 (by decide) ?_
    refine lv_icmp_ne (tgt := 20) hx hb dX7_place_13 (by decide) (fun c_8 => ?_) (fun c_8 => ?_)
    · skip
      refine lv_iconst (v := 0) hx hb dX7_place_20 (by decide) ?_
      refine lv_istore_n (lv' := [(1, .int 0), (0, .ref (G.2.2.1 12 0))]) hx hb dX7_place_21 rfl hl (by decide) rfl (fun ls hl => ?_)
      refine lv_aload_n hx hb dX7_place_22 rfl (lv_at hl 1 rfl) ?_
      refine lv_dup hx hb dX7_place_23 rfl ?_
      refine wr_get hC hinRX7 hW (vM (by decide)) ce_m0 rfl 11 (by decide) hk1 rfl dX7_place_24 ?_
      refine lv_iload_n hx hb dX7_place_27 rfl (lv_at hl 0 rfl) ?_
      refine lv_if_eq (tgt := 35) hx hb dX7_place_28 (by decide) (fun c_9 => ?_) (fun c_9 => ?_)
      · skip
        refine lv_iconst (v := 0) hx hb dX7_place_35 (by decide) ?_
        refine lv_iadd hx hb dX7_place_36 ?_
        refine wr_put (Z' := wset Z 12 (bput B 0 5 ((B 0 5) + 0))) (v := .int ((B 0 5) + 0)) hC hinRX7 tyX7 tyX7_ok nmX7 hW hS (vM (by decide)) ce_m0 rfl 11 (by decide) hk1 rfl (tyX7_ok 11 (by decide)) rfl rfl (Nat.le_of_ble_eq_true rfl) wset_off pu_m0_5 dX7_place_37 (fun H locs hW hS => ?_)
        refine lv_aload_n hx hb dX7_place_40 rfl (lv_at hl 1 rfl) ?_
        obtain ⟨B_10, eB_10⟩ : ∃ y, y = (bput B 0 5 ((B 0 5) + 0)) := ⟨_, rfl⟩
        rw [← eB_10] at hW
        refine wc_i hC hml (kX7_number l G Z B_10 (N + 1) (by omega) (by rw [eB_10]; exact (pz_add0 hz (by simp [bput, eB_10])))) (cwV 0 hts gX7_place_X7_number rfl rfl rfl (by decide +kernel) ⟨Nat.le_of_ble_eq_true rfl, Nat.le_of_ble_eq_true rfl⟩) hW hS (vM (by decide)) ce_m0 rfl rfl rfl rfl hl.1 (Nat.le_of_ble_eq_true rfl) dX7_place_41 (fun H locs hW hS => ?_)
        obtain ⟨P_11, eP_11⟩ : ∃ y, y = fX7_number B_10 := ⟨_, rfl⟩
        rw [← eP_11] at hW ⊢
        refine lv_topi (fun x_12 ex_12 => ?_)
        refine lv_istore_n (lv' := [(2, .int x_12), (1, .int 0), (0, .ref (G.2.2.1 12 0))]) hx hb dX7_place_44 rfl hl (by decide) rfl (fun ls hl => ?_)
        refine lv_iload_n hx hb dX7_place_45 rfl (lv_at hl 1 rfl) ?_
        refine lv_if_eq (tgt := 54) hx hb dX7_place_46 (by decide) (fun c_13 => ?_) (fun c_13 => ?_)
        · skip
          refine lv_iload_n hx hb dX7_place_54 rfl (lv_at hl 0 rfl) ?_
          have hf : fX7_place B = (P_11.1, x_12) := by
            subst ex_12
            subst eP_11
            subst eB_10
            subst ex_7
            exact (if_pos c_1).trans ((if_neg c_8).trans rfl)
          exact we_i hC hr hlocks (congrArg Prod.snd hf).symm (congrArg (fun u => wset Z 12 u.1) hf).symm hW hS dX7_place_55
        · exact absurd c_13 (by decide)
      · exact absurd c_9 (by decide)
    · skip
      refine lv_iconst (v := 1) hx hb dX7_place_16 (by decide) ?_
      refine lv_goto (tgt := 21) hx hb dX7_place_17 (by decide) ?_
      refine lv_istore_n (lv' := [(1, .int 1), (0, .ref (G.2.2.1 12 0))]) hx hb dX7_place_21 rfl hl (by decide) rfl (fun ls hl => ?_)
      refine lv_aload_n hx hb dX7_place_22 rfl (lv_at hl 1 rfl) ?_
      refine lv_dup hx hb dX7_place_23 rfl ?_
      refine wr_get hC hinRX7 hW (vM (by decide)) ce_m0 rfl 11 (by decide) hk1 rfl dX7_place_24 ?_
      refine lv_iload_n hx hb dX7_place_27 rfl (lv_at hl 0 rfl) ?_
      refine lv_if_eq (tgt := 35) hx hb dX7_place_28 (by decide) (fun c_14 => ?_) (fun c_14 => ?_)
      · exact absurd c_14 (by decide)
      · skip
        refine lv_iconst (v := 1) hx hb dX7_place_31 (by decide) ?_
        refine lv_goto (tgt := 36) hx hb dX7_place_32 (by decide) ?_
        refine lv_iadd hx hb dX7_place_36 ?_
        refine wr_put (Z' := wset Z 12 (bput B 0 5 ((B 0 5) + 1))) (v := .int ((B 0 5) + 1)) hC hinRX7 tyX7 tyX7_ok nmX7 hW hS (vM (by decide)) ce_m0 rfl 11 (by decide) hk1 rfl (tyX7_ok 11 (by decide)) rfl rfl (Nat.le_of_ble_eq_true rfl) wset_off pu_m0_5 dX7_place_37 (fun H locs hW hS => ?_)
        refine lv_aload_n hx hb dX7_place_40 rfl (lv_at hl 1 rfl) ?_
        obtain ⟨B_15, eB_15⟩ : ∃ y, y = (bput B 0 5 ((B 0 5) + 1)) := ⟨_, rfl⟩
        rw [← eB_15] at hW
        refine wc_i hC hml (kX7_number l G Z B_15 (N + 1) (by omega) (by rw [eB_15]; exact (pz_inc (n := N + 0) (by omega) hz (by simp [bput, eB_15])))) (cwV 0 hts gX7_place_X7_number rfl rfl rfl (by decide +kernel) ⟨Nat.le_of_ble_eq_true rfl, Nat.le_of_ble_eq_true rfl⟩) hW hS (vM (by decide)) ce_m0 rfl rfl rfl rfl hl.1 (Nat.le_of_ble_eq_true rfl) dX7_place_41 (fun H locs hW hS => ?_)
        obtain ⟨P_16, eP_16⟩ : ∃ y, y = fX7_number B_15 := ⟨_, rfl⟩
        rw [← eP_16] at hW ⊢
        refine lv_topi (fun x_17 ex_17 => ?_)
        refine lv_istore_n (lv' := [(2, .int x_17), (1, .int 1), (0, .ref (G.2.2.1 12 0))]) hx hb dX7_place_44 rfl hl (by decide) rfl (fun ls hl => ?_)
        refine lv_iload_n hx hb dX7_place_45 rfl (lv_at hl 1 rfl) ?_
        refine lv_if_eq (tgt := 54) hx hb dX7_place_46 (by decide) (fun c_18 => ?_) (fun c_18 => ?_)
        · exact absurd c_18 (by decide)
        · skip
          refine lv_iload_n hx hb dX7_place_49 rfl (lv_at hl 0 rfl) ?_
          refine lv_ineg hx hb dX7_place_50 ?_
          refine lv_goto (tgt := 55) hx hb dX7_place_51 (by decide) ?_
          have hf : fX7_place B = (P_16.1, -x_17) := by
            subst ex_17
            subst eP_16
            subst eB_15
            subst ex_7
            exact (if_pos c_1).trans ((if_pos c_8).trans rfl)
          exact we_i hC hr hlocks (congrArg Prod.snd hf).symm (congrArg (fun u => wset Z 12 u.1) hf).symm hW hS dX7_place_55
theorem pzX7_place {B : wB} {lo n : Nat}  (hn : n ≤ 940) (h : pzl B lo n) : pzl (fX7_place B).1 lo (n + 5) := by
  simp only [fX7_place]
  repeat' split
  all_goals first
    | (refine pz_mono (lo := lo) (n := n + 1 + 4) (pzX7_number (n := n + 1) (by omega) (pz_add0 h ?_)) (by omega); simp [bput]; done)
    | (refine pz_mono (lo := lo) (n := n + 1 + 4) (pzX7_number (n := n + 1) (by omega) (pz_inc (by omega) h ?_)) (by omega); simp [bput]; done)

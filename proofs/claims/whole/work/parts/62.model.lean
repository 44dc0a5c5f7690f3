theorem ti_sub {x y : Int32} (h1 : -2147483648 ≤ x.toInt - y.toInt) (h2 : x.toInt - y.toInt < 2147483648) : (x - y).toInt = x.toInt - y.toInt := by
  rw [Int32.toInt_sub]
  apply Int.bmod_eq_of_le
  · omega
  · omega
theorem ti_add {x y : Int32} (h1 : -2147483648 ≤ x.toInt + y.toInt) (h2 : x.toInt + y.toInt < 2147483648) : (x + y).toInt = x.toInt + y.toInt := by
  rw [Int32.toInt_add]
  apply Int.bmod_eq_of_le
  · omega
  · omega
theorem t0 : (0 : Int32).toInt = 0 := by decide
theorem t1 : (1 : Int32).toInt = 1 := by decide
theorem in_ok {a b c : Int32} (h : ¬ fX7_in a b c = 0) : b.toInt ≤ a.toInt ∧ a.toInt ≤ c.toInt := by
  simp only [fX7_in] at h
  by_cases h2 : a < b
  · rw [if_pos h2] at h
    exact absurd rfl h
  · rw [if_neg h2] at h
    by_cases h3 : c < a
    · rw [if_pos h3] at h
      exact absurd rfl h
    · rw [Int32.lt_iff_toInt_lt] at h2 h3
      omega
theorem tn_of {a : Int32} (h : 0 ≤ a.toInt) : ¬ a < 0 ∧ (a.toNatClampNeg : Int) = a.toInt := by
  constructor
  · rw [Int32.lt_iff_toInt_lt, t0]; omega
  · unfold Int32.toNatClampNeg; omega
theorem sh_ok {B : wB} {a : Int32} (hm : 0 ≤ (B 1 6).toInt ∧ (B 1 6).toInt ≤ 4) (h : ¬ fX7_isShaft B a = 0) : ¬ a < 0 ∧ a.toNatClampNeg < 4 ∧ (a.toNatClampNeg : Int) < (B 1 6).toInt := by
  have h0 := in_ok h
  have h1 : (B 1 6 - 1).toInt = (B 1 6).toInt - 1 := ti_sub (by rw [t1]; omega) (by rw [t1]; omega) |>.trans (by rw [t1])
  rw [h1, t0] at h0
  have h2 := tn_of h0.1
  exact ⟨h2.1, by omega, by omega⟩
def fX7_loads (B : wB) (a1 : Int32) (a2 : Int32) : wB × Int32 :=
  let x_1 := fX7_isShaft B a1
  if x_1 = 0 then (B, (-1))
  else let x_3 := fX7_in a2 0 9
  if x_3 = 0 then (B, (-2))
  else let x_5 := B 1 (7 + 14 * a1.toNatClampNeg + 1)
  ((bput B 1 (7 + 14 * a1.toNatClampNeg + 1) a2), x_5)
abbrev rX7_loads : Room := { frames := 2, cells := 0, slots := 0, locals := 43 }
set_option maxHeartbeats 4000000 in
set_option maxRecDepth 100000 in
theorem kX7_loads (l : Launch) (G : wG) (Z : wZ) (B : wB) (a1 : Int32) (a2 : Int32) (hm : 0 ≤ (B 1 6).toInt ∧ (B 1 6).toInt ≤ 4) : mI l yX7_loads wsX7_loads rX7_loads G [.ref (G.2.2.1 12 0), .int a1, .int a2] (wset Z 12 B) (fX7_loads B a1 a2).2 (wset Z 12 (fX7_loads B a1 a2).1) := by
  refine Met.ofW (cc := cX7_loads) (maxL := 4) (ret := (some .int)) (by decide) rfl ?_
  intro p e s m args below meth c s₁ B0 hml hv
  obtain ⟨rfl, hW, hK, hL⟩ := hv
  have hlocks := B0.notSynchronized
  have hr := B0.returns
  have hC : wX p s m c cX7_loads _ wsX7_loads RX7 G := ⟨B0.exec, B0.bytes, findClass_of_methodNamed B0.named, atoms_spec (ws := wsX7_loads) B0.pre, hK, hL⟩
  have hx := hC.1
  have hb := hC.2.1
  have hts := hC.2.2.2.1
  have hinRX7 : ∀ w ∈ wsX70, w ∈ wsX7_loads := by decide +kernel
  have hk0 := hts (.fieldLink RX7 7 "RampShaftsModel" "s" "[I") (by decide +kernel)
  have hS : va_S (wA G) s.heap s.heap [] := va_S.rf
  have hl := lv_entry ([.ref (G.2.2.1 12 0), .int a1, .int a2]) (n := 4) (Nat.le_of_ble_eq_true rfl)
  rw [lg_entry_eq]
  generalize (lg_sl ([.ref (G.2.2.1 12 0), .int a1, .int a2]) ++ List.replicate (4 - (lg_sl ([.ref (G.2.2.1 12 0), .int a1, .int a2])).length) Slot.unset).toArray = ls at hl ⊢
  have hl : lv_has ls 4 [(0, .ref (G.2.2.1 12 0)), (1, .int a1), (2, .int a2)] := hl
  refine lv_aload_n hx hb dX7_loads_0 rfl (lv_at hl 0 rfl) ?_
  refine lv_iload_n hx hb dX7_loads_1 rfl (lv_at hl 1 rfl) ?_
  refine wc_i hC hml (kX7_isShaft l G Z B a1) (cwV 1 hts gX7_loads_X7_isShaft rfl rfl rfl (by decide +kernel) ⟨Nat.le_of_ble_eq_true rfl, Nat.le_of_ble_eq_true rfl⟩) hW hS (vM (by decide)) ce_m0 rfl rfl rfl rfl hl.1 (Nat.le_of_ble_eq_true rfl) dX7_loads_2 (fun H locs hW hS => ?_)
  refine lv_topi (fun x_1 ex_1 => ?_)
  refine lv_if_ne (tgt := 10) hx hb dX7_loads_5 (by decide) (fun c_2 => ?_) (fun c_2 => ?_)
  · skip
    have hs9 := sh_ok hm (by rw [← ex_1]; exact c_2)
    have ek9 := nI_self hs9.1
    have hk9 := hs9.2.1
    rw [ek9] at hl
    refine lv_iload_n hx hb dX7_loads_10 rfl (lv_at hl 2 rfl) ?_
    refine lv_iconst (v := 0) hx hb dX7_loads_11 (by decide) ?_
    refine lv_bipush (v := 9) hx hb dX7_loads_12 (by decide) ?_
    refine wc_s hC hml (kX7_in l G (wset Z 12 B) a2 0 9) (cwS 3 hts gX7_loads_X7_in rfl rfl rfl (by decide +kernel) ⟨Nat.le_of_ble_eq_true rfl, Nat.le_of_ble_eq_true rfl⟩) hW hS rfl rfl hl.1 (Nat.le_of_ble_eq_true rfl) dX7_loads_14 (fun H locs hW hS => ?_)
    refine lv_topi (fun x_3 ex_3 => ?_)
    refine lv_if_ne (tgt := 23) hx hb dX7_loads_17 (by decide) (fun c_4 => ?_) (fun c_4 => ?_)
    · skip
      refine lv_aload_n hx hb dX7_loads_23 rfl (lv_at hl 0 rfl) ?_
      refine wr_get hC hinRX7 hW (vM (by decide)) ce_m0 rfl 0 (by decide) hk0 rfl dX7_loads_24 ?_
      refine lv_iload_n hx hb dX7_loads_27 rfl (lv_at hl 1 rfl) ?_
      refine lv_iconst (v := 1) hx hb dX7_loads_28 (by decide) ?_
      refine wc_s hC hml (kX7_at l G (wset Z 12 B) a1.toNatClampNeg 1) (cwS 2 hts gX7_loads_X7_at rfl rfl rfl (by decide +kernel) ⟨Nat.le_of_ble_eq_true rfl, Nat.le_of_ble_eq_true rfl⟩) hW hS rfl rfl hl.1 (Nat.le_of_ble_eq_true rfl) dX7_loads_29 (fun H locs hW hS => ?_)
      refine lv_re (y := nI (7 + 14 * a1.toNatClampNeg + 1)) rfl ?_
      refine wr_ald (kA := 0) hC hW (vM (by decide)) ce_m1 rfl (vp_in_nI (show (7 + 14 * a1.toNatClampNeg + 1) < 100 by omega) (by decide)) dX7_loads_32 ?_
      refine lv_re (y := B 1 (7 + 14 * a1.toNatClampNeg + 1)) ((congrArg (B 1) (nI_clamp (by omega)))) ?_
      refine lv_topi (fun x_5 ex_5 => ?_)
      refine lv_istore_n (lv' := [(3, .int x_5), (0, .ref (G.2.2.1 12 0)), (1, .int (nI a1.toNatClampNeg)), (2, .int a2)]) hx hb dX7_loads_33 rfl hl (by decide) rfl (fun ls hl => ?_)
      refine lv_aload_n hx hb dX7_loads_34 rfl (lv_at hl 1 rfl) ?_
      refine wr_get hC hinRX7 hW (vM (by decide)) ce_m0 rfl 0 (by decide) hk0 rfl dX7_loads_35 ?_
      refine lv_iload_n hx hb dX7_loads_38 rfl (lv_at hl 2 rfl) ?_
      refine lv_iconst (v := 1) hx hb dX7_loads_39 (by decide) ?_
      refine wc_s hC hml (kX7_at l G (wset Z 12 B) a1.toNatClampNeg 1) (cwS 2 hts gX7_loads_X7_at rfl rfl rfl (by decide +kernel) ⟨Nat.le_of_ble_eq_true rfl, Nat.le_of_ble_eq_true rfl⟩) hW hS rfl rfl hl.1 (Nat.le_of_ble_eq_true rfl) dX7_loads_40 (fun H locs hW hS => ?_)
      refine lv_re (y := nI (7 + 14 * a1.toNatClampNeg + 1)) rfl ?_
      refine lv_iload_n hx hb dX7_loads_43 rfl (lv_at hl 3 rfl) ?_
      refine wr_ast (kA := 0) (Z' := wset Z 12 (bput B 1 (nI (7 + 14 * a1.toNatClampNeg + 1)).toNatClampNeg a2)) hC hW hS (vM (by decide)) ce_m1 rfl (vp_in_nI (show (7 + 14 * a1.toNatClampNeg + 1) < 100 by omega) (by decide)) wset_off pu_m1 dX7_loads_44 (fun H locs hW hS => ?_)
      rw [nI_clamp (show (7 + 14 * a1.toNatClampNeg + 1) < 2 ^ 31 by omega)] at hW
      refine lv_iload_n hx hb dX7_loads_45 rfl (lv_at hl 0 rfl) ?_
      have hf : fX7_loads B a1 a2 = ((bput B 1 (7 + 14 * a1.toNatClampNeg + 1) a2), x_5) := by
        subst ex_5
        subst ex_3
        subst ex_1
        exact (if_neg c_2).trans ((if_neg c_4).trans rfl)
      exact we_i hC hr hlocks (congrArg Prod.snd hf).symm (congrArg (fun u => wset Z 12 u.1) hf).symm hW hS dX7_loads_46
    · skip
      refine lv_bipush (v := (-2)) hx hb dX7_loads_20 (by decide) ?_
      have hf : fX7_loads B a1 a2 = (B, (-2)) := by
        subst ex_3
        subst ex_1
        exact (if_neg c_2).trans ((if_pos c_4).trans rfl)
      exact we_i hC hr hlocks (congrArg Prod.snd hf).symm (congrArg (fun u => wset Z 12 u.1) hf).symm hW hS dX7_loads_22
  · skip
    refine lv_iconst (v := (-1)) hx hb dX7_loads_8 (by decide) ?_
    have hf : fX7_loads B a1 a2 = (B, (-1)) := by
      subst ex_1
      exact (if_pos c_2).trans rfl
    exact we_i hC hr hlocks (congrArg Prod.snd hf).symm (congrArg (fun u => wset Z 12 u.1) hf).symm hW hS dX7_loads_9
def fX7_moves (B : wB) (a1 : Int32) (a2 : Int32) : wB × Int32 :=
  let x_1 := fX7_isShaft B a1
  if x_1 = 0 then (B, (-1))
  else let x_3 := fX7_isPlace a2
  if x_3 = 0 then (B, (-2))
  else let x_5 := fX7_rests B a1.toNatClampNeg
  if x_5 = 0 then (if (B 1 (7 + 14 * a1.toNatClampNeg + 8)) = 3 then (B, (-4))
    else let B_9 := fX7_comes B a1.toNatClampNeg a2
    (B_9, B_9 1 (7 + 14 * a1.toNatClampNeg + 8)))
  else let B_7 := fX7_comes B a1.toNatClampNeg a2
  (B_7, B_7 1 (7 + 14 * a1.toNatClampNeg + 8))
abbrev rX7_moves : Room := { frames := 3, cells := 0, slots := 0, locals := 69 }
set_option maxHeartbeats 4000000 in
set_option maxRecDepth 100000 in
theorem kX7_moves (l : Launch) (G : wG) (Z : wZ) (B : wB) (a1 : Int32) (a2 : Int32) (hm : 0 ≤ (B 1 6).toInt ∧ (B 1 6).toInt ≤ 4) (hmi : ∀ k : Nat, (k : Int) < (B 1 6).toInt → ¬ B 1 (7 + 14 * k + 0) = 0) (hw : ∀ k : Nat, k < 4 → ¬ B 1 (7 + 14 * k + 8) < 0 ∧ (B 1 (7 + 14 * k + 8)).toInt ≤ 3) : mI l yX7_moves wsX7_moves rX7_moves G [.ref (G.2.2.1 12 0), .int a1, .int a2] (wset Z 12 B) (fX7_moves B a1 a2).2 (wset Z 12 (fX7_moves B a1 a2).1) := by
  refine Met.ofW (cc := cX7_moves) (maxL := 3) (ret := (some .int)) (by decide) rfl ?_
  intro p e s m args below meth c s₁ B0 hml hv
  obtain ⟨rfl, hW, hK, hL⟩ := hv
  have hlocks := B0.notSynchronized
  have hr := B0.returns
  have hC : wX p s m c cX7_moves _ wsX7_moves RX7 G := ⟨B0.exec, B0.bytes, findClass_of_methodNamed B0.named, atoms_spec (ws := wsX7_moves) B0.pre, hK, hL⟩
  have hx := hC.1
  have hb := hC.2.1
  have hts := hC.2.2.2.1
  have hinRX7 : ∀ w ∈ wsX70, w ∈ wsX7_moves := by decide +kernel
  have hk0 := hts (.fieldLink RX7 7 "RampShaftsModel" "s" "[I") (by decide +kernel)
  have hS : va_S (wA G) s.heap s.heap [] := va_S.rf
  have hl := lv_entry ([.ref (G.2.2.1 12 0), .int a1, .int a2]) (n := 3) (Nat.le_of_ble_eq_true rfl)
  rw [lg_entry_eq]
  generalize (lg_sl ([.ref (G.2.2.1 12 0), .int a1, .int a2]) ++ List.replicate (3 - (lg_sl ([.ref (G.2.2.1 12 0), .int a1, .int a2])).length) Slot.unset).toArray = ls at hl ⊢
  have hl : lv_has ls 3 [(0, .ref (G.2.2.1 12 0)), (1, .int a1), (2, .int a2)] := hl
  refine lv_aload_n hx hb dX7_moves_0 rfl (lv_at hl 0 rfl) ?_
  refine lv_iload_n hx hb dX7_moves_1 rfl (lv_at hl 1 rfl) ?_
  refine wc_i hC hml (kX7_isShaft l G Z B a1) (cwV 1 hts gX7_moves_X7_isShaft rfl rfl rfl (by decide +kernel) ⟨Nat.le_of_ble_eq_true rfl, Nat.le_of_ble_eq_true rfl⟩) hW hS (vM (by decide)) ce_m0 rfl rfl rfl rfl hl.1 (Nat.le_of_ble_eq_true rfl) dX7_moves_2 (fun H locs hW hS => ?_)
  refine lv_topi (fun x_1 ex_1 => ?_)
  refine lv_if_ne (tgt := 10) hx hb dX7_moves_5 (by decide) (fun c_2 => ?_) (fun c_2 => ?_)
  · skip
    have hs9 := sh_ok hm (by rw [← ex_1]; exact c_2)
    have ek9 := nI_self hs9.1
    have hk9 := hs9.2.1
    rw [ek9] at hl
    refine lv_iload_n hx hb dX7_moves_10 rfl (lv_at hl 2 rfl) ?_
    refine wc_s hC hml (kX7_isPlace l G (wset Z 12 B) a2) (cwS 1 hts gX7_moves_X7_isPlace rfl rfl rfl (by decide +kernel) ⟨Nat.le_of_ble_eq_true rfl, Nat.le_of_ble_eq_true rfl⟩) hW hS rfl rfl hl.1 (Nat.le_of_ble_eq_true rfl) dX7_moves_11 (fun H locs hW hS => ?_)
    refine lv_topi (fun x_3 ex_3 => ?_)
    refine lv_if_ne (tgt := 20) hx hb dX7_moves_14 (by decide) (fun c_4 => ?_) (fun c_4 => ?_)
    · skip
      refine lv_aload_n hx hb dX7_moves_20 rfl (lv_at hl 0 rfl) ?_
      refine lv_iload_n hx hb dX7_moves_21 rfl (lv_at hl 1 rfl) ?_
      refine wc_i hC hml (kX7_rests l G Z B a1.toNatClampNeg (by first | assumption | omega)) (cwV 1 hts gX7_moves_X7_rests rfl rfl rfl (by decide +kernel) ⟨Nat.le_of_ble_eq_true rfl, Nat.le_of_ble_eq_true rfl⟩) hW hS (vM (by decide)) ce_m0 rfl rfl rfl rfl hl.1 (Nat.le_of_ble_eq_true rfl) dX7_moves_22 (fun H locs hW hS => ?_)
      refine lv_topi (fun x_5 ex_5 => ?_)
      refine lv_if_ne (tgt := 46) hx hb dX7_moves_25 (by decide) (fun c_6 => ?_) (fun c_6 => ?_)
      · skip
        refine lv_aload_n hx hb dX7_moves_46 rfl (lv_at hl 0 rfl) ?_
        refine lv_iload_n hx hb dX7_moves_47 rfl (lv_at hl 1 rfl) ?_
        refine lv_iload_n hx hb dX7_moves_48 rfl (lv_at hl 2 rfl) ?_
        refine wc_v hC hml (kX7_comes l G Z B a1.toNatClampNeg a2 hk9 (hmi _ hs9.2.2) (hw _ hk9).1) (cwV 2 hts gX7_moves_X7_comes rfl rfl rfl (by decide +kernel) ⟨Nat.le_of_ble_eq_true rfl, Nat.le_of_ble_eq_true rfl⟩) hW hS (vM (by decide)) ce_m0 rfl rfl rfl rfl hl.1 (Nat.le_of_ble_eq_true rfl) dX7_moves_49 (fun H locs hW hS => ?_)
        obtain ⟨B_7, eB_7⟩ : ∃ y, y = fX7_comes B a1.toNatClampNeg a2 := ⟨_, rfl⟩
        rw [← eB_7] at hW
        refine lv_aload_n hx hb dX7_moves_52 rfl (lv_at hl 0 rfl) ?_
        refine wr_get hC hinRX7 hW (vM (by decide)) ce_m0 rfl 0 (by decide) hk0 rfl dX7_moves_53 ?_
        refine lv_iload_n hx hb dX7_moves_56 rfl (lv_at hl 1 rfl) ?_
        refine lv_bipush (v := 8) hx hb dX7_moves_57 (by decide) ?_
        refine wc_s hC hml (kX7_at l G (wset Z 12 B_7) a1.toNatClampNeg 8) (cwS 2 hts gX7_moves_X7_at rfl rfl rfl (by decide +kernel) ⟨Nat.le_of_ble_eq_true rfl, Nat.le_of_ble_eq_true rfl⟩) hW hS rfl rfl hl.1 (Nat.le_of_ble_eq_true rfl) dX7_moves_59 (fun H locs hW hS => ?_)
        refine lv_re (y := nI (7 + 14 * a1.toNatClampNeg + 8)) rfl ?_
        refine wr_ald (kA := 0) hC hW (vM (by decide)) ce_m1 rfl (vp_in_nI (show (7 + 14 * a1.toNatClampNeg + 8) < 100 by omega) (by decide)) dX7_moves_62 ?_
        refine lv_re (y := B_7 1 (7 + 14 * a1.toNatClampNeg + 8)) ((congrArg (B_7 1) (nI_clamp (by omega)))) ?_
        have hf : fX7_moves B a1 a2 = (B_7, B_7 1 (7 + 14 * a1.toNatClampNeg + 8)) := by
          subst eB_7
          subst ex_5
          subst ex_3
          subst ex_1
          exact (if_neg c_2).trans ((if_neg c_4).trans ((if_neg c_6).trans rfl))
        exact we_i hC hr hlocks (congrArg Prod.snd hf).symm (congrArg (fun u => wset Z 12 u.1) hf).symm hW hS dX7_moves_63
      · skip
        refine lv_aload_n hx hb dX7_moves_28 rfl (lv_at hl 0 rfl) ?_
        refine wr_get hC hinRX7 hW (vM (by decide)) ce_m0 rfl 0 (by decide) hk0 rfl dX7_moves_29 ?_
        refine lv_iload_n hx hb dX7_moves_32 rfl (lv_at hl 1 rfl) ?_
        refine lv_bipush (v := 8) hx hb dX7_moves_33 (by decide) ?_
        refine wc_s hC hml (kX7_at l G (wset Z 12 B) a1.toNatClampNeg 8) (cwS 2 hts gX7_moves_X7_at rfl rfl rfl (by decide +kernel) ⟨Nat.le_of_ble_eq_true rfl, Nat.le_of_ble_eq_true rfl⟩) hW hS rfl rfl hl.1 (Nat.le_of_ble_eq_true rfl) dX7_moves_35 (fun H locs hW hS => ?_)
        refine lv_re (y := nI (7 + 14 * a1.toNatClampNeg + 8)) rfl ?_
        refine wr_ald (kA := 0) hC hW (vM (by decide)) ce_m1 rfl (vp_in_nI (show (7 + 14 * a1.toNatClampNeg + 8) < 100 by omega) (by decide)) dX7_moves_38 ?_
        refine lv_re (y := B 1 (7 + 14 * a1.toNatClampNeg + 8)) ((congrArg (B 1) (nI_clamp (by omega)))) ?_
        refine lv_iconst (v := 3) hx hb dX7_moves_39 (by decide) ?_
        refine lv_icmp_ne (tgt := 46) hx hb dX7_moves_40 (by decide) (fun c_8 => ?_) (fun c_8 => ?_)
        · skip
          refine lv_aload_n hx hb dX7_moves_46 rfl (lv_at hl 0 rfl) ?_
          refine lv_iload_n hx hb dX7_moves_47 rfl (lv_at hl 1 rfl) ?_
          refine lv_iload_n hx hb dX7_moves_48 rfl (lv_at hl 2 rfl) ?_
          refine wc_v hC hml (kX7_comes l G Z B a1.toNatClampNeg a2 hk9 (hmi _ hs9.2.2) (hw _ hk9).1) (cwV 2 hts gX7_moves_X7_comes rfl rfl rfl (by decide +kernel) ⟨Nat.le_of_ble_eq_true rfl, Nat.le_of_ble_eq_true rfl⟩) hW hS (vM (by decide)) ce_m0 rfl rfl rfl rfl hl.1 (Nat.le_of_ble_eq_true rfl) dX7_moves_49 (fun H locs hW hS => ?_)
          obtain ⟨B_9, eB_9⟩ : ∃ y, y = fX7_comes B a1.toNatClampNeg a2 := ⟨_, rfl⟩
          rw [← eB_9] at hW
          refine lv_aload_n hx hb dX7_moves_52 rfl (lv_at hl 0 rfl) ?_
          refine wr_get hC hinRX7 hW (vM (by decide)) ce_m0 rfl 0 (by decide) hk0 rfl dX7_moves_53 ?_
          refine lv_iload_n hx hb dX7_moves_56 rfl (lv_at hl 1 rfl) ?_
          refine lv_bipush (v := 8) hx hb dX7_moves_57 (by decide) ?_
          refine wc_s hC hml (kX7_at l G (wset Z 12 B_9) a1.toNatClampNeg 8) (cwS 2 hts gX7_moves_X7_at rfl rfl rfl (by decide +kernel) ⟨Nat.le_of_ble_eq_true rfl, Nat.le_of_ble_eq_true rfl⟩) hW hS rfl rfl hl.1 (Nat.le_of_ble_eq_true rfl) dX7_moves_59 (fun H locs hW hS => ?_)
          refine lv_re (y := nI (7 + 14 * a1.toNatClampNeg + 8)) rfl ?_
          refine wr_ald (kA := 0) hC hW (vM (by decide)) ce_m1 rfl (vp_in_nI (show (7 + 14 * a1.toNatClampNeg + 8) < 100 by omega) (by decide)) dX7_moves_62 ?_
          refine lv_re (y := B_9 1 (7 + 14 * a1.toNatClampNeg + 8)) ((congrArg (B_9 1) (nI_clamp (by omega)))) ?_
          have hf : fX7_moves B a1 a2 = (B_9, B_9 1 (7 + 14 * a1.toNatClampNeg + 8)) := by
            subst eB_9
            subst ex_5
            subst ex_3
            subst ex_1
            exact (if_neg c_2).trans ((if_neg c_4).trans ((if_pos c_6).trans ((if_neg c_8).trans rfl)))
          exact we_i hC hr hlocks (congrArg Prod.snd hf).symm (congrArg (fun u => wset Z 12 u.1) hf).symm hW hS dX7_moves_63
        · skip
          refine lv_bipush (v := (-4)) hx hb dX7_moves_43 (by decide) ?_
          have hf : fX7_moves B a1 a2 = (B, (-4)) := by
            subst ex_5
            subst ex_3
            subst ex_1
            exact (if_neg c_2).trans ((if_neg c_4).trans ((if_pos c_6).trans ((if_pos c_8).trans rfl)))
          exact we_i hC hr hlocks (congrArg Prod.snd hf).symm (congrArg (fun u => wset Z 12 u.1) hf).symm hW hS dX7_moves_45
    · skip
      refine lv_bipush (v := (-2)) hx hb dX7_moves_17 (by decide) ?_
      have hf : fX7_moves B a1 a2 = (B, (-2)) := by
        subst ex_3
        subst ex_1
        exact (if_neg c_2).trans ((if_pos c_4).trans rfl)
      exact we_i hC hr hlocks (congrArg Prod.snd hf).symm (congrArg (fun u => wset Z 12 u.1) hf).symm hW hS dX7_moves_19
  · skip
    refine lv_iconst (v := (-1)) hx hb dX7_moves_8 (by decide) ?_
    have hf : fX7_moves B a1 a2 = (B, (-1)) := by
      subst ex_1
      exact (if_pos c_2).trans rfl
    exact we_i hC hr hlocks (congrArg Prod.snd hf).symm (congrArg (fun u => wset Z 12 u.1) hf).symm hW hS dX7_moves_9
theorem pl_lt {x : Int32} (h : 0 ≤ x.toInt ∧ x.toInt ≤ 12) (hne : ¬ x = 12) : ¬ x < 0 ∧ x.toNatClampNeg < 12 := by
  have h1 := tn_of h.1
  refine ⟨h1.1, ?_⟩
  have h2 : ¬ x.toInt = 12 := fun e => hne (Int32.toInt_inj.mp (e.trans (by decide)))
  omega
def fX7_plans (B : wB) (a1 : Int32) (a2 : Int32) (a3 : Int32) : wB × Int32 :=
  let x_1 := fX7_isShaft B a2
  if x_1 = 0 then (B, (-1))
  else let x_3 := fX7_in a1 1 9999
  if x_3 = 0 then (B, (-2))
  else let x_5 := fX7_isPlace a3
  if x_5 = 0 then (B, (-2))
  else if (B 1 63) = 12 then (B, (-4))
  else ((bput (bput (bput (bput B 1 (64 + (3 * (B 1 63).toNatClampNeg)) ((B 1 5) + a1)) 1 ((64 + (3 * (B 1 63).toNatClampNeg)) + 1) (nI a2.toNatClampNeg)) 1 ((64 + (3 * (B 1 63).toNatClampNeg)) + 2) a3) 1 63 (((bput (bput (bput B 1 (64 + (3 * (B 1 63).toNatClampNeg)) ((B 1 5) + a1)) 1 ((64 + (3 * (B 1 63).toNatClampNeg)) + 1) (nI a2.toNatClampNeg)) 1 ((64 + (3 * (B 1 63).toNatClampNeg)) + 2) a3) 1 63) + 1)), ((bput (bput (bput B 1 (64 + (3 * (B 1 63).toNatClampNeg)) ((B 1 5) + a1)) 1 ((64 + (3 * (B 1 63).toNatClampNeg)) + 1) (nI a2.toNatClampNeg)) 1 ((64 + (3 * (B 1 63).toNatClampNeg)) + 2) a3) 1 63) + 1)
abbrev rX7_plans : Room := { frames := 2, cells := 0, slots := 0, locals := 43 }
set_option maxHeartbeats 4000000 in
set_option maxRecDepth 100000 in
theorem kX7_plans (l : Launch) (G : wG) (Z : wZ) (B : wB) (a1 : Int32) (a2 : Int32) (a3 : Int32) (hm : 0 ≤ (B 1 6).toInt ∧ (B 1 6).toInt ≤ 4) (hp : 0 ≤ (B 1 63).toInt ∧ (B 1 63).toInt ≤ 12) : mI l yX7_plans wsX7_plans rX7_plans G [.ref (G.2.2.1 12 0), .int a1, .int a2, .int a3] (wset Z 12 B) (fX7_plans B a1 a2 a3).2 (wset Z 12 (fX7_plans B a1 a2 a3).1) := by
  refine Met.ofW (cc := cX7_plans) (maxL := 5) (ret := (some .int)) (by decide) rfl ?_
  intro p e s m args below meth c s₁ B0 hml hv
  obtain ⟨rfl, hW, hK, hL⟩ := hv
  have hlocks := B0.notSynchronized
  have hr := B0.returns
  have hC : wX p s m c cX7_plans _ wsX7_plans RX7 G := ⟨B0.exec, B0.bytes, findClass_of_methodNamed B0.named, atoms_spec (ws := wsX7_plans) B0.pre, hK, hL⟩
  have hx := hC.1
  have hb := hC.2.1
  have hts := hC.2.2.2.1
  have hinRX7 : ∀ w ∈ wsX70, w ∈ wsX7_plans := by decide +kernel
  have hk0 := hts (.fieldLink RX7 7 "RampShaftsModel" "s" "[I") (by decide +kernel)
  have hS : va_S (wA G) s.heap s.heap [] := va_S.rf
  have hl := lv_entry ([.ref (G.2.2.1 12 0), .int a1, .int a2, .int a3]) (n := 5) (Nat.le_of_ble_eq_true rfl)
  rw [lg_entry_eq]
  generalize (lg_sl ([.ref (G.2.2.1 12 0), .int a1, .int a2, .int a3]) ++ List.replicate (5 - (lg_sl ([.ref (G.2.2.1 12 0), .int a1, .int a2, .int a3])).length) Slot.unset).toArray = ls at hl ⊢
  have hl : lv_has ls 5 [(0, .ref (G.2.2.1 12 0)), (1, .int a1), (2, .int a2), (3, .int a3)] := hl
  refine lv_aload_n hx hb dX7_plans_0 rfl (lv_at hl 0 rfl) ?_
  refine lv_iload_n hx hb dX7_plans_1 rfl (lv_at hl 2 rfl) ?_
  refine wc_i hC hml (kX7_isShaft l G Z B a2) (cwV 1 hts gX7_plans_X7_isShaft rfl rfl rfl (by decide +kernel) ⟨Nat.le_of_ble_eq_true rfl, Nat.le_of_ble_eq_true rfl⟩) hW hS (vM (by decide)) ce_m0 rfl rfl rfl rfl hl.1 (Nat.le_of_ble_eq_true rfl) dX7_plans_2 (fun H locs hW hS => ?_)
  refine lv_topi (fun x_1 ex_1 => ?_)
  refine lv_if_ne (tgt := 10) hx hb dX7_plans_5 (by decide) (fun c_2 => ?_) (fun c_2 => ?_)
  · skip
    have hs9 := sh_ok hm (by rw [← ex_1]; exact c_2)
    have ek9 := nI_self hs9.1
    have hk9 := hs9.2.1
    rw [ek9] at hl
    refine lv_iload_n hx hb dX7_plans_10 rfl (lv_at hl 1 rfl) ?_
    refine lv_iconst (v := 1) hx hb dX7_plans_11 (by decide) ?_
    refine lv_sipush (v := 9999) hx hb dX7_plans_12 (by decide) ?_
    refine wc_s hC hml (kX7_in l G (wset Z 12 B) a1 1 9999) (cwS 3 hts gX7_plans_X7_in rfl rfl rfl (by decide +kernel) ⟨Nat.le_of_ble_eq_true rfl, Nat.le_of_ble_eq_true rfl⟩) hW hS rfl rfl hl.1 (Nat.le_of_ble_eq_true rfl) dX7_plans_15 (fun H locs hW hS => ?_)
    refine lv_topi (fun x_3 ex_3 => ?_)
    refine lv_if_eq (tgt := 28) hx hb dX7_plans_18 (by decide) (fun c_4 => ?_) (fun c_4 => ?_)
    · skip
      refine lv_bipush (v := (-2)) hx hb dX7_plans_28 (by decide) ?_
      have hf : fX7_plans B a1 a2 a3 = (B, (-2)) := by
        subst ex_3
        subst ex_1
        exact (if_neg c_2).trans ((if_pos c_4).trans rfl)
      exact we_i hC hr hlocks (congrArg Prod.snd hf).symm (congrArg (fun u => wset Z 12 u.1) hf).symm hW hS dX7_plans_30
    · skip
      refine lv_iload_n hx hb dX7_plans_21 rfl (lv_at hl 3 rfl) ?_
      refine wc_s hC hml (kX7_isPlace l G (wset Z 12 B) a3) (cwS 1 hts gX7_plans_X7_isPlace rfl rfl rfl (by decide +kernel) ⟨Nat.le_of_ble_eq_true rfl, Nat.le_of_ble_eq_true rfl⟩) hW hS rfl rfl hl.1 (Nat.le_of_ble_eq_true rfl) dX7_plans_22 (fun H locs hW hS => ?_)
      refine lv_topi (fun x_5 ex_5 => ?_)
      refine lv_if_ne (tgt := 31) hx hb dX7_plans_25 (by decide) (fun c_6 => ?_) (fun c_6 => ?_)
      · skip
        refine lv_aload_n hx hb dX7_plans_31 rfl (lv_at hl 0 rfl) ?_
        refine wr_get hC hinRX7 hW (vM (by decide)) ce_m0 rfl 0 (by decide) hk0 rfl dX7_plans_32 ?_
        refine lv_bipush (v := 63) hx hb dX7_plans_35 (by decide) ?_
        refine wr_ald (kA := 0) hC hW (vM (by decide)) ce_m1 rfl (vp_in_iff.mpr (by decide)) dX7_plans_37 ?_
        refine lv_re (y := B 1 63) ((congrArg (B 1) (show (63 : Int32).toNatClampNeg = 63 by decide))) ?_
        refine lv_bipush (v := 12) hx hb dX7_plans_38 (by decide) ?_
        refine lv_icmp_ne (tgt := 46) hx hb dX7_plans_40 (by decide) (fun c_7 => ?_) (fun c_7 => ?_)
        · skip
          refine lv_bipush (v := 64) hx hb dX7_plans_46 (by decide) ?_
          refine lv_iconst (v := 3) hx hb dX7_plans_48 (by decide) ?_
          refine lv_aload_n hx hb dX7_plans_49 rfl (lv_at hl 0 rfl) ?_
          refine wr_get hC hinRX7 hW (vM (by decide)) ce_m0 rfl 0 (by decide) hk0 rfl dX7_plans_50 ?_
          refine lv_bipush (v := 63) hx hb dX7_plans_53 (by decide) ?_
          refine wr_ald (kA := 0) hC hW (vM (by decide)) ce_m1 rfl (vp_in_iff.mpr (by decide)) dX7_plans_55 ?_
          refine lv_re (y := B 1 63) ((congrArg (B 1) (show (63 : Int32).toNatClampNeg = 63 by decide))) ?_
          have hp9 := pl_lt hp c_7
          refine lv_re (nI_self hp9.1) ?_
          have hp8 := hp9.2
          refine lv_imul hx hb dX7_plans_56 ?_
          refine lv_re (y := nI (3 * (B 1 63).toNatClampNeg)) (pk_mul 3 (B 1 63).toNatClampNeg) ?_
          refine lv_iadd hx hb dX7_plans_57 ?_
          refine lv_re (y := nI (64 + (3 * (B 1 63).toNatClampNeg))) (nI_add 64 (3 * (B 1 63).toNatClampNeg)) ?_
          refine lv_istore (lv' := [(4, .int (nI (64 + (3 * (B 1 63).toNatClampNeg)))), (0, .ref (G.2.2.1 12 0)), (1, .int a1), (2, .int (nI a2.toNatClampNeg)), (3, .int a3)]) hx hb dX7_plans_58 hl (by decide) rfl (fun ls hl => ?_)
          refine lv_aload_n hx hb dX7_plans_60 rfl (lv_at hl 1 rfl) ?_
          refine wr_get hC hinRX7 hW (vM (by decide)) ce_m0 rfl 0 (by decide) hk0 rfl dX7_plans_61 ?_
          refine lv_iload hx hb dX7_plans_64 (lv_at hl 0 rfl) ?_
          refine lv_aload_n hx hb dX7_plans_66 rfl (lv_at hl 1 rfl) ?_
          refine wr_get hC hinRX7 hW (vM (by decide)) ce_m0 rfl 0 (by decide) hk0 rfl dX7_plans_67 ?_
          refine lv_iconst (v := 5) hx hb dX7_plans_70 (by decide) ?_
          refine wr_ald (kA := 0) hC hW (vM (by decide)) ce_m1 rfl (vp_in_iff.mpr (by decide)) dX7_plans_71 ?_
          refine lv_re (y := B 1 5) ((congrArg (B 1) (show (5 : Int32).toNatClampNeg = 5 by decide))) ?_
          refine lv_iload_n hx hb dX7_plans_72 rfl (lv_at hl 2 rfl) ?_
          refine lv_iadd hx hb dX7_plans_73 ?_
          refine wr_ast (kA := 0) (Z' := wset Z 12 (bput B 1 (nI (64 + (3 * (B 1 63).toNatClampNeg))).toNatClampNeg ((B 1 5) + a1))) hC hW hS (vM (by decide)) ce_m1 rfl (vp_in_nI (show (64 + (3 * (B 1 63).toNatClampNeg)) < 100 by omega) (by decide)) wset_off pu_m1 dX7_plans_74 (fun H locs hW hS => ?_)
          rw [nI_clamp (show (64 + (3 * (B 1 63).toNatClampNeg)) < 2 ^ 31 by omega)] at hW
          refine lv_aload_n hx hb dX7_plans_75 rfl (lv_at hl 1 rfl) ?_
          refine wr_get hC hinRX7 hW (vM (by decide)) ce_m0 rfl 0 (by decide) hk0 rfl dX7_plans_76 ?_
          refine lv_iload hx hb dX7_plans_79 (lv_at hl 0 rfl) ?_
          refine lv_iconst (v := 1) hx hb dX7_plans_81 (by decide) ?_
          refine lv_iadd hx hb dX7_plans_82 ?_
          refine lv_re (y := nI ((64 + (3 * (B 1 63).toNatClampNeg)) + 1)) (nI_add (64 + (3 * (B 1 63).toNatClampNeg)) 1) ?_
          refine lv_iload_n hx hb dX7_plans_83 rfl (lv_at hl 3 rfl) ?_
          refine wr_ast (kA := 0) (Z' := wset Z 12 (bput (bput B 1 (64 + (3 * (B 1 63).toNatClampNeg)) ((B 1 5) + a1)) 1 (nI ((64 + (3 * (B 1 63).toNatClampNeg)) + 1)).toNatClampNeg (nI a2.toNatClampNeg))) hC hW hS (vM (by decide)) ce_m1 rfl (vp_in_nI (show ((64 + (3 * (B 1 63).toNatClampNeg)) + 1) < 100 by omega) (by decide)) wset_off pu_m1 dX7_plans_84 (fun H locs hW hS => ?_)
          rw [nI_clamp (show ((64 + (3 * (B 1 63).toNatClampNeg)) + 1) < 2 ^ 31 by omega)] at hW
          refine lv_aload_n hx hb dX7_plans_85 rfl (lv_at hl 1 rfl) ?_
          refine wr_get hC hinRX7 hW (vM (by decide)) ce_m0 rfl 0 (by decide) hk0 rfl dX7_plans_86 ?_
          refine lv_iload hx hb dX7_plans_89 (lv_at hl 0 rfl) ?_
          refine lv_iconst (v := 2) hx hb dX7_plans_91 (by decide) ?_
          refine lv_iadd hx hb dX7_plans_92 ?_
          refine lv_re (y := nI ((64 + (3 * (B 1 63).toNatClampNeg)) + 2)) (nI_add (64 + (3 * (B 1 63).toNatClampNeg)) 2) ?_
          refine lv_iload_n hx hb dX7_plans_93 rfl (lv_at hl 4 rfl) ?_
          refine wr_ast (kA := 0) (Z' := wset Z 12 (bput (bput (bput B 1 (64 + (3 * (B 1 63).toNatClampNeg)) ((B 1 5) + a1)) 1 ((64 + (3 * (B 1 63).toNatClampNeg)) + 1) (nI a2.toNatClampNeg)) 1 (nI ((64 + (3 * (B 1 63).toNatClampNeg)) + 2)).toNatClampNeg a3)) hC hW hS (vM (by decide)) ce_m1 rfl (vp_in_nI (show ((64 + (3 * (B 1 63).toNatClampNeg)) + 2) < 100 by omega) (by decide)) wset_off pu_m1 dX7_plans_94 (fun H locs hW hS => ?_)
          rw [nI_clamp (show ((64 + (3 * (B 1 63).toNatClampNeg)) + 2) < 2 ^ 31 by omega)] at hW
          refine lv_aload_n hx hb dX7_plans_95 rfl (lv_at hl 1 rfl) ?_
          refine wr_get hC hinRX7 hW (vM (by decide)) ce_m0 rfl 0 (by decide) hk0 rfl dX7_plans_96 ?_
          refine lv_bipush (v := 63) hx hb dX7_plans_99 (by decide) ?_
          refine lv_dup2_11 hx hb dX7_plans_101 rfl rfl ?_
          refine wr_ald (kA := 0) hC hW (vM (by decide)) ce_m1 rfl (vp_in_iff.mpr (by decide)) dX7_plans_102 ?_
          refine lv_re (y := (bput (bput (bput B 1 (64 + (3 * (B 1 63).toNatClampNeg)) ((B 1 5) + a1)) 1 ((64 + (3 * (B 1 63).toNatClampNeg)) + 1) (nI a2.toNatClampNeg)) 1 ((64 + (3 * (B 1 63).toNatClampNeg)) + 2) a3) 1 63) ((congrArg ((bput (bput (bput B 1 (64 + (3 * (B 1 63).toNatClampNeg)) ((B 1 5) + a1)) 1 ((64 + (3 * (B 1 63).toNatClampNeg)) + 1) (nI a2.toNatClampNeg)) 1 ((64 + (3 * (B 1 63).toNatClampNeg)) + 2) a3) 1) (show (63 : Int32).toNatClampNeg = 63 by decide))) ?_
          refine lv_iconst (v := 1) hx hb dX7_plans_103 (by decide) ?_
          refine lv_iadd hx hb dX7_plans_104 ?_
          refine wr_ast (kA := 0) (Z' := wset Z 12 (bput (bput (bput (bput B 1 (64 + (3 * (B 1 63).toNatClampNeg)) ((B 1 5) + a1)) 1 ((64 + (3 * (B 1 63).toNatClampNeg)) + 1) (nI a2.toNatClampNeg)) 1 ((64 + (3 * (B 1 63).toNatClampNeg)) + 2) a3) 1 (63 : Int32).toNatClampNeg (((bput (bput (bput B 1 (64 + (3 * (B 1 63).toNatClampNeg)) ((B 1 5) + a1)) 1 ((64 + (3 * (B 1 63).toNatClampNeg)) + 1) (nI a2.toNatClampNeg)) 1 ((64 + (3 * (B 1 63).toNatClampNeg)) + 2) a3) 1 63) + 1))) hC hW hS (vM (by decide)) ce_m1 rfl (vp_in_iff.mpr (by decide)) wset_off pu_m1 dX7_plans_105 (fun H locs hW hS => ?_)
          have hW : wW G (wset Z 12 (bput (bput (bput (bput B 1 (64 + (3 * (B 1 63).toNatClampNeg)) ((B 1 5) + a1)) 1 ((64 + (3 * (B 1 63).toNatClampNeg)) + 1) (nI a2.toNatClampNeg)) 1 ((64 + (3 * (B 1 63).toNatClampNeg)) + 2) a3) 1 63 (((bput (bput (bput B 1 (64 + (3 * (B 1 63).toNatClampNeg)) ((B 1 5) + a1)) 1 ((64 + (3 * (B 1 63).toNatClampNeg)) + 1) (nI a2.toNatClampNeg)) 1 ((64 + (3 * (B 1 63).toNatClampNeg)) + 2) a3) 1 63) + 1))) H := hW
          refine lv_aload_n hx hb dX7_plans_106 rfl (lv_at hl 1 rfl) ?_
          refine wr_get hC hinRX7 hW (vM (by decide)) ce_m0 rfl 0 (by decide) hk0 rfl dX7_plans_107 ?_
          refine lv_bipush (v := 63) hx hb dX7_plans_110 (by decide) ?_
          refine wr_ald (kA := 0) hC hW (vM (by decide)) ce_m1 rfl (vp_in_iff.mpr (by decide)) dX7_plans_112 ?_
          refine lv_re (y := ((bput (bput (bput B 1 (64 + (3 * (B 1 63).toNatClampNeg)) ((B 1 5) + a1)) 1 ((64 + (3 * (B 1 63).toNatClampNeg)) + 1) (nI a2.toNatClampNeg)) 1 ((64 + (3 * (B 1 63).toNatClampNeg)) + 2) a3) 1 63) + 1) (((congrArg ((bput (bput (bput (bput B 1 (64 + (3 * (B 1 63).toNatClampNeg)) ((B 1 5) + a1)) 1 ((64 + (3 * (B 1 63).toNatClampNeg)) + 1) (nI a2.toNatClampNeg)) 1 ((64 + (3 * (B 1 63).toNatClampNeg)) + 2) a3) 1 63 (((bput (bput (bput B 1 (64 + (3 * (B 1 63).toNatClampNeg)) ((B 1 5) + a1)) 1 ((64 + (3 * (B 1 63).toNatClampNeg)) + 1) (nI a2.toNatClampNeg)) 1 ((64 + (3 * (B 1 63).toNatClampNeg)) + 2) a3) 1 63) + 1)) 1) (show (63 : Int32).toNatClampNeg = 63 by decide))).trans (bput_h)) ?_
          have hf : fX7_plans B a1 a2 a3 = ((bput (bput (bput (bput B 1 (64 + (3 * (B 1 63).toNatClampNeg)) ((B 1 5) + a1)) 1 ((64 + (3 * (B 1 63).toNatClampNeg)) + 1) (nI a2.toNatClampNeg)) 1 ((64 + (3 * (B 1 63).toNatClampNeg)) + 2) a3) 1 63 (((bput (bput (bput B 1 (64 + (3 * (B 1 63).toNatClampNeg)) ((B 1 5) + a1)) 1 ((64 + (3 * (B 1 63).toNatClampNeg)) + 1) (nI a2.toNatClampNeg)) 1 ((64 + (3 * (B 1 63).toNatClampNeg)) + 2) a3) 1 63) + 1)), ((bput (bput (bput B 1 (64 + (3 * (B 1 63).toNatClampNeg)) ((B 1 5) + a1)) 1 ((64 + (3 * (B 1 63).toNatClampNeg)) + 1) (nI a2.toNatClampNeg)) 1 ((64 + (3 * (B 1 63).toNatClampNeg)) + 2) a3) 1 63) + 1) := by
            subst ex_5
            subst ex_3
            subst ex_1
            exact (if_neg c_2).trans ((if_neg c_4).trans ((if_neg c_6).trans ((if_neg c_7).trans rfl)))
          exact we_i hC hr hlocks (congrArg Prod.snd hf).symm (congrArg (fun u => wset Z 12 u.1) hf).symm hW hS dX7_plans_113
        · skip
          refine lv_bipush (v := (-4)) hx hb dX7_plans_43 (by decide) ?_
          have hf : fX7_plans B a1 a2 a3 = (B, (-4)) := by
            subst ex_5
            subst ex_3
            subst ex_1
            exact (if_neg c_2).trans ((if_neg c_4).trans ((if_neg c_6).trans ((if_pos c_7).trans rfl)))
          exact we_i hC hr hlocks (congrArg Prod.snd hf).symm (congrArg (fun u => wset Z 12 u.1) hf).symm hW hS dX7_plans_45
      · skip
        refine lv_bipush (v := (-2)) hx hb dX7_plans_28 (by decide) ?_
        have hf : fX7_plans B a1 a2 a3 = (B, (-2)) := by
          subst ex_5
          subst ex_3
          subst ex_1
          exact (if_neg c_2).trans ((if_neg c_4).trans ((if_pos c_6).trans rfl))
        exact we_i hC hr hlocks (congrArg Prod.snd hf).symm (congrArg (fun u => wset Z 12 u.1) hf).symm hW hS dX7_plans_30
  · skip
    refine lv_iconst (v := (-1)) hx hb dX7_plans_8 (by decide) ?_
    have hf : fX7_plans B a1 a2 a3 = (B, (-1)) := by
      subst ex_1
      exact (if_pos c_2).trans rfl
    exact we_i hC hr hlocks (congrArg Prod.snd hf).symm (congrArg (fun u => wset Z 12 u.1) hf).symm hW hS dX7_plans_9
def fX7_stops (B : wB) (a1 : Int32) : wB × Int32 :=
  let x_1 := fX7_isShaft B a1
  if x_1 = 0 then (B, (-1))
  else let x_3 := fX7_rests B a1.toNatClampNeg
  if x_3 = 0 then (if (B 1 (7 + 14 * a1.toNatClampNeg + 5)) ≤ (B 1 (7 + 14 * a1.toNatClampNeg + 6)) then ((bput (bput (bput (bput B 1 (7 + 14 * a1.toNatClampNeg + 9) 0) 1 (7 + 14 * a1.toNatClampNeg + 10) 0) 1 (7 + 14 * a1.toNatClampNeg + 11) 0) 1 (7 + 14 * a1.toNatClampNeg + 8) 0), B 1 (7 + 14 * a1.toNatClampNeg + 5))
    else ((bput (bput (bput (bput (bput B 1 (7 + 14 * a1.toNatClampNeg + 9) 0) 1 (7 + 14 * a1.toNatClampNeg + 10) 0) 1 (7 + 14 * a1.toNatClampNeg + 11) 0) 1 (7 + 14 * a1.toNatClampNeg + 8) 0) 1 (7 + 14 * a1.toNatClampNeg + 5) (B 1 (7 + 14 * a1.toNatClampNeg + 6))), B 1 (7 + 14 * a1.toNatClampNeg + 6)))
  else (B, (-5))
abbrev rX7_stops : Room := { frames := 2, cells := 0, slots := 0, locals := 43 }
set_option maxHeartbeats 4000000 in
set_option maxRecDepth 100000 in
theorem kX7_stops (l : Launch) (G : wG) (Z : wZ) (B : wB) (a1 : Int32) (hm : 0 ≤ (B 1 6).toInt ∧ (B 1 6).toInt ≤ 4) : mI l yX7_stops wsX7_stops rX7_stops G [.ref (G.2.2.1 12 0), .int a1] (wset Z 12 B) (fX7_stops B a1).2 (wset Z 12 (fX7_stops B a1).1) := by
  refine Met.ofW (cc := cX7_stops) (maxL := 3) (ret := (some .int)) (by decide) rfl ?_
  intro p e s m args below meth c s₁ B0 hml hv
  obtain ⟨rfl, hW, hK, hL⟩ := hv
  have hlocks := B0.notSynchronized
  have hr := B0.returns
  have hC : wX p s m c cX7_stops _ wsX7_stops RX7 G := ⟨B0.exec, B0.bytes, findClass_of_methodNamed B0.named, atoms_spec (ws := wsX7_stops) B0.pre, hK, hL⟩
  have hx := hC.1
  have hb := hC.2.1
  have hts := hC.2.2.2.1
  have hinRX7 : ∀ w ∈ wsX70, w ∈ wsX7_stops := by decide +kernel
  have hk0 := hts (.fieldLink RX7 7 "RampShaftsModel" "s" "[I") (by decide +kernel)
  have hS : va_S (wA G) s.heap s.heap [] := va_S.rf
  have hl := lv_entry ([.ref (G.2.2.1 12 0), .int a1]) (n := 3) (Nat.le_of_ble_eq_true rfl)
  rw [lg_entry_eq]
  generalize (lg_sl ([.ref (G.2.2.1 12 0), .int a1]) ++ List.replicate (3 - (lg_sl ([.ref (G.2.2.1 12 0), .int a1])).length) Slot.unset).toArray = ls at hl ⊢
  have hl : lv_has ls 3 [(0, .ref (G.2.2.1 12 0)), (1, .int a1)] := hl
  refine lv_aload_n hx hb dX7_stops_0 rfl (lv_at hl 0 rfl) ?_
  refine lv_iload_n hx hb dX7_stops_1 rfl (lv_at hl 1 rfl) ?_
  refine wc_i hC hml (kX7_isShaft l G Z B a1) (cwV 1 hts gX7_stops_X7_isShaft rfl rfl rfl (by decide +kernel) ⟨Nat.le_of_ble_eq_true rfl, Nat.le_of_ble_eq_true rfl⟩) hW hS (vM (by decide)) ce_m0 rfl rfl rfl rfl hl.1 (Nat.le_of_ble_eq_true rfl) dX7_stops_2 (fun H locs hW hS => ?_)
  refine lv_topi (fun x_1 ex_1 => ?_)
  refine lv_if_ne (tgt := 10) hx hb dX7_stops_5 (by decide) (fun c_2 => ?_) (fun c_2 => ?_)
  · skip
    have hs9 := sh_ok hm (by rw [← ex_1]; exact c_2)
    have ek9 := nI_self hs9.1
    have hk9 := hs9.2.1
    rw [ek9] at hl
    refine lv_aload_n hx hb dX7_stops_10 rfl (lv_at hl 0 rfl) ?_
    refine lv_iload_n hx hb dX7_stops_11 rfl (lv_at hl 1 rfl) ?_
    refine wc_i hC hml (kX7_rests l G Z B a1.toNatClampNeg (by first | assumption | omega)) (cwV 1 hts gX7_stops_X7_rests rfl rfl rfl (by decide +kernel) ⟨Nat.le_of_ble_eq_true rfl, Nat.le_of_ble_eq_true rfl⟩) hW hS (vM (by decide)) ce_m0 rfl rfl rfl rfl hl.1 (Nat.le_of_ble_eq_true rfl) dX7_stops_12 (fun H locs hW hS => ?_)
    refine lv_topi (fun x_3 ex_3 => ?_)
    refine lv_if_eq (tgt := 21) hx hb dX7_stops_15 (by decide) (fun c_4 => ?_) (fun c_4 => ?_)
    · skip
      refine lv_iconst (v := 0) hx hb dX7_stops_21 (by decide) ?_
      refine lv_istore_n (lv' := [(2, .int 0), (0, .ref (G.2.2.1 12 0)), (1, .int (nI a1.toNatClampNeg))]) hx hb dX7_stops_22 rfl hl (by decide) rfl (fun ls hl => ?_)
      refine lv_iload_n hx hb dX7_stops_23 rfl (lv_at hl 0 rfl) ?_
      refine lv_iconst (v := 3) hx hb dX7_stops_24 (by decide) ?_
      refine lv_icmp_ge (tgt := 48) hx hb dX7_stops_25 (by decide) (fun c_5 => ?_) (fun c_5 => ?_)
      · exact absurd c_5 (by decide)
      · skip
        refine lv_aload_n hx hb dX7_stops_28 rfl (lv_at hl 1 rfl) ?_
        refine wr_get hC hinRX7 hW (vM (by decide)) ce_m0 rfl 0 (by decide) hk0 rfl dX7_stops_29 ?_
        refine lv_iload_n hx hb dX7_stops_32 rfl (lv_at hl 2 rfl) ?_
        refine lv_bipush (v := 9) hx hb dX7_stops_33 (by decide) ?_
        refine lv_iload_n hx hb dX7_stops_35 rfl (lv_at hl 0 rfl) ?_
        refine lv_iadd hx hb dX7_stops_36 ?_
        refine lv_re (y := 9) (by decide) ?_
        refine wc_s hC hml (kX7_at l G (wset Z 12 B) a1.toNatClampNeg 9) (cwS 2 hts gX7_stops_X7_at rfl rfl rfl (by decide +kernel) ⟨Nat.le_of_ble_eq_true rfl, Nat.le_of_ble_eq_true rfl⟩) hW hS rfl rfl hl.1 (Nat.le_of_ble_eq_true rfl) dX7_stops_37 (fun H locs hW hS => ?_)
        refine lv_re (y := nI (7 + 14 * a1.toNatClampNeg + 9)) rfl ?_
        refine lv_iconst (v := 0) hx hb dX7_stops_40 (by decide) ?_
        refine wr_ast (kA := 0) (Z' := wset Z 12 (bput B 1 (nI (7 + 14 * a1.toNatClampNeg + 9)).toNatClampNeg 0)) hC hW hS (vM (by decide)) ce_m1 rfl (vp_in_nI (show (7 + 14 * a1.toNatClampNeg + 9) < 100 by omega) (by decide)) wset_off pu_m1 dX7_stops_41 (fun H locs hW hS => ?_)
        rw [nI_clamp (show (7 + 14 * a1.toNatClampNeg + 9) < 2 ^ 31 by omega)] at hW
        refine lv_iinc (v := 1) (lv' := [(2, .int 1), (0, .ref (G.2.2.1 12 0)), (1, .int (nI a1.toNatClampNeg))]) hx hb dX7_stops_42 hl (k := 0) rfl (by decide) (by decide) rfl (fun ls hl => ?_)
        refine lv_goto (tgt := 23) hx hb dX7_stops_45 (by decide) ?_
        refine lv_iload_n hx hb dX7_stops_23 rfl (lv_at hl 0 rfl) ?_
        refine lv_iconst (v := 3) hx hb dX7_stops_24 (by decide) ?_
        refine lv_icmp_ge (tgt := 48) hx hb dX7_stops_25 (by decide) (fun c_6 => ?_) (fun c_6 => ?_)
        · exact absurd c_6 (by decide)
        · skip
          refine lv_aload_n hx hb dX7_stops_28 rfl (lv_at hl 1 rfl) ?_
          refine wr_get hC hinRX7 hW (vM (by decide)) ce_m0 rfl 0 (by decide) hk0 rfl dX7_stops_29 ?_
          refine lv_iload_n hx hb dX7_stops_32 rfl (lv_at hl 2 rfl) ?_
          refine lv_bipush (v := 9) hx hb dX7_stops_33 (by decide) ?_
          refine lv_iload_n hx hb dX7_stops_35 rfl (lv_at hl 0 rfl) ?_
          refine lv_iadd hx hb dX7_stops_36 ?_
          refine lv_re (y := 10) (by decide) ?_
          refine wc_s hC hml (kX7_at l G (wset Z 12 (bput B 1 (7 + 14 * a1.toNatClampNeg + 9) 0)) a1.toNatClampNeg 10) (cwS 2 hts gX7_stops_X7_at rfl rfl rfl (by decide +kernel) ⟨Nat.le_of_ble_eq_true rfl, Nat.le_of_ble_eq_true rfl⟩) hW hS rfl rfl hl.1 (Nat.le_of_ble_eq_true rfl) dX7_stops_37 (fun H locs hW hS => ?_)
          refine lv_re (y := nI (7 + 14 * a1.toNatClampNeg + 10)) rfl ?_
          refine lv_iconst (v := 0) hx hb dX7_stops_40 (by decide) ?_
          refine wr_ast (kA := 0) (Z' := wset Z 12 (bput (bput B 1 (7 + 14 * a1.toNatClampNeg + 9) 0) 1 (nI (7 + 14 * a1.toNatClampNeg + 10)).toNatClampNeg 0)) hC hW hS (vM (by decide)) ce_m1 rfl (vp_in_nI (show (7 + 14 * a1.toNatClampNeg + 10) < 100 by omega) (by decide)) wset_off pu_m1 dX7_stops_41 (fun H locs hW hS => ?_)
          rw [nI_clamp (show (7 + 14 * a1.toNatClampNeg + 10) < 2 ^ 31 by omega)] at hW
          refine lv_iinc (v := 2) (lv' := [(2, .int 2), (0, .ref (G.2.2.1 12 0)), (1, .int (nI a1.toNatClampNeg))]) hx hb dX7_stops_42 hl (k := 0) rfl (by decide) (by decide) rfl (fun ls hl => ?_)
          refine lv_goto (tgt := 23) hx hb dX7_stops_45 (by decide) ?_
          refine lv_iload_n hx hb dX7_stops_23 rfl (lv_at hl 0 rfl) ?_
          refine lv_iconst (v := 3) hx hb dX7_stops_24 (by decide) ?_
          refine lv_icmp_ge (tgt := 48) hx hb dX7_stops_25 (by decide) (fun c_7 => ?_) (fun c_7 => ?_)
          · exact absurd c_7 (by decide)
          · skip
            refine lv_aload_n hx hb dX7_stops_28 rfl (lv_at hl 1 rfl) ?_
            refine wr_get hC hinRX7 hW (vM (by decide)) ce_m0 rfl 0 (by decide) hk0 rfl dX7_stops_29 ?_
            refine lv_iload_n hx hb dX7_stops_32 rfl (lv_at hl 2 rfl) ?_
            refine lv_bipush (v := 9) hx hb dX7_stops_33 (by decide) ?_
            refine lv_iload_n hx hb dX7_stops_35 rfl (lv_at hl 0 rfl) ?_
            refine lv_iadd hx hb dX7_stops_36 ?_
            refine lv_re (y := 11) (by decide) ?_
            refine wc_s hC hml (kX7_at l G (wset Z 12 (bput (bput B 1 (7 + 14 * a1.toNatClampNeg + 9) 0) 1 (7 + 14 * a1.toNatClampNeg + 10) 0)) a1.toNatClampNeg 11) (cwS 2 hts gX7_stops_X7_at rfl rfl rfl (by decide +kernel) ⟨Nat.le_of_ble_eq_true rfl, Nat.le_of_ble_eq_true rfl⟩) hW hS rfl rfl hl.1 (Nat.le_of_ble_eq_true rfl) dX7_stops_37 (fun H locs hW hS => ?_)
            refine lv_re (y := nI (7 + 14 * a1.toNatClampNeg + 11)) rfl ?_
            refine lv_iconst (v := 0) hx hb dX7_stops_40 (by decide) ?_
            refine wr_ast (kA := 0) (Z' := wset Z 12 (bput (bput (bput B 1 (7 + 14 * a1.toNatClampNeg + 9) 0) 1 (7 + 14 * a1.toNatClampNeg + 10) 0) 1 (nI (7 + 14 * a1.toNatClampNeg + 11)).toNatClampNeg 0)) hC hW hS (vM (by decide)) ce_m1 rfl (vp_in_nI (show (7 + 14 * a1.toNatClampNeg + 11) < 100 by omega) (by decide)) wset_off pu_m1 dX7_stops_41 (fun H locs hW hS => ?_)
            rw [nI_clamp (show (7 + 14 * a1.toNatClampNeg + 11) < 2 ^ 31 by omega)] at hW
            refine lv_iinc (v := 3) (lv' := [(2, .int 3), (0, .ref (G.2.2.1 12 0)), (1, .int (nI a1.toNatClampNeg))]) hx hb dX7_stops_42 hl (k := 0) rfl (by decide) (by decide) rfl (fun ls hl => ?_)
            refine lv_goto (tgt := 23) hx hb dX7_stops_45 (by decide) ?_
            refine lv_iload_n hx hb dX7_stops_23 rfl (lv_at hl 0 rfl) ?_
            refine lv_iconst (v := 3) hx hb dX7_stops_24 (by decide) ?_
            refine lv_icmp_ge (tgt := 48) hx hb dX7_stops_25 (by decide) (fun c_8 => ?_) (fun c_8 => ?_)
            · skip
              refine lv_aload_n hx hb dX7_stops_48 rfl (lv_at hl 1 rfl) ?_
              refine wr_get hC hinRX7 hW (vM (by decide)) ce_m0 rfl 0 (by decide) hk0 rfl dX7_stops_49 ?_
              refine lv_iload_n hx hb dX7_stops_52 rfl (lv_at hl 2 rfl) ?_
              refine lv_bipush (v := 8) hx hb dX7_stops_53 (by decide) ?_
              refine wc_s hC hml (kX7_at l G (wset Z 12 (bput (bput (bput B 1 (7 + 14 * a1.toNatClampNeg + 9) 0) 1 (7 + 14 * a1.toNatClampNeg + 10) 0) 1 (7 + 14 * a1.toNatClampNeg + 11) 0)) a1.toNatClampNeg 8) (cwS 2 hts gX7_stops_X7_at rfl rfl rfl (by decide +kernel) ⟨Nat.le_of_ble_eq_true rfl, Nat.le_of_ble_eq_true rfl⟩) hW hS rfl rfl hl.1 (Nat.le_of_ble_eq_true rfl) dX7_stops_55 (fun H locs hW hS => ?_)
              refine lv_re (y := nI (7 + 14 * a1.toNatClampNeg + 8)) rfl ?_
              refine lv_iconst (v := 0) hx hb dX7_stops_58 (by decide) ?_
              refine wr_ast (kA := 0) (Z' := wset Z 12 (bput (bput (bput (bput B 1 (7 + 14 * a1.toNatClampNeg + 9) 0) 1 (7 + 14 * a1.toNatClampNeg + 10) 0) 1 (7 + 14 * a1.toNatClampNeg + 11) 0) 1 (nI (7 + 14 * a1.toNatClampNeg + 8)).toNatClampNeg 0)) hC hW hS (vM (by decide)) ce_m1 rfl (vp_in_nI (show (7 + 14 * a1.toNatClampNeg + 8) < 100 by omega) (by decide)) wset_off pu_m1 dX7_stops_59 (fun H locs hW hS => ?_)
              rw [nI_clamp (show (7 + 14 * a1.toNatClampNeg + 8) < 2 ^ 31 by omega)] at hW
              refine lv_aload_n hx hb dX7_stops_60 rfl (lv_at hl 1 rfl) ?_
              refine wr_get hC hinRX7 hW (vM (by decide)) ce_m0 rfl 0 (by decide) hk0 rfl dX7_stops_61 ?_
              refine lv_iload_n hx hb dX7_stops_64 rfl (lv_at hl 2 rfl) ?_
              refine lv_iconst (v := 5) hx hb dX7_stops_65 (by decide) ?_
              refine wc_s hC hml (kX7_at l G (wset Z 12 (bput (bput (bput (bput B 1 (7 + 14 * a1.toNatClampNeg + 9) 0) 1 (7 + 14 * a1.toNatClampNeg + 10) 0) 1 (7 + 14 * a1.toNatClampNeg + 11) 0) 1 (7 + 14 * a1.toNatClampNeg + 8) 0)) a1.toNatClampNeg 5) (cwS 2 hts gX7_stops_X7_at rfl rfl rfl (by decide +kernel) ⟨Nat.le_of_ble_eq_true rfl, Nat.le_of_ble_eq_true rfl⟩) hW hS rfl rfl hl.1 (Nat.le_of_ble_eq_true rfl) dX7_stops_66 (fun H locs hW hS => ?_)
              refine lv_re (y := nI (7 + 14 * a1.toNatClampNeg + 5)) rfl ?_
              refine wr_ald (kA := 0) hC hW (vM (by decide)) ce_m1 rfl (vp_in_nI (show (7 + 14 * a1.toNatClampNeg + 5) < 100 by omega) (by decide)) dX7_stops_69 ?_
              refine lv_re (y := B 1 (7 + 14 * a1.toNatClampNeg + 5)) ((((((congrArg ((bput (bput (bput (bput B 1 (7 + 14 * a1.toNatClampNeg + 9) 0) 1 (7 + 14 * a1.toNatClampNeg + 10) 0) 1 (7 + 14 * a1.toNatClampNeg + 11) 0) 1 (7 + 14 * a1.toNatClampNeg + 8) 0) 1) (nI_clamp (by omega)))).trans (bput_q (by omega))).trans (bput_q (by omega))).trans (bput_q (by omega))).trans (bput_q (by omega))) ?_
              refine lv_aload_n hx hb dX7_stops_70 rfl (lv_at hl 1 rfl) ?_
              refine wr_get hC hinRX7 hW (vM (by decide)) ce_m0 rfl 0 (by decide) hk0 rfl dX7_stops_71 ?_
              refine lv_iload_n hx hb dX7_stops_74 rfl (lv_at hl 2 rfl) ?_
              refine lv_bipush (v := 6) hx hb dX7_stops_75 (by decide) ?_
              refine wc_s hC hml (kX7_at l G (wset Z 12 (bput (bput (bput (bput B 1 (7 + 14 * a1.toNatClampNeg + 9) 0) 1 (7 + 14 * a1.toNatClampNeg + 10) 0) 1 (7 + 14 * a1.toNatClampNeg + 11) 0) 1 (7 + 14 * a1.toNatClampNeg + 8) 0)) a1.toNatClampNeg 6) (cwS 2 hts gX7_stops_X7_at rfl rfl rfl (by decide +kernel) ⟨Nat.le_of_ble_eq_true rfl, Nat.le_of_ble_eq_true rfl⟩) hW hS rfl rfl hl.1 (Nat.le_of_ble_eq_true rfl) dX7_stops_77 (fun H locs hW hS => ?_)
              refine lv_re (y := nI (7 + 14 * a1.toNatClampNeg + 6)) rfl ?_
              refine wr_ald (kA := 0) hC hW (vM (by decide)) ce_m1 rfl (vp_in_nI (show (7 + 14 * a1.toNatClampNeg + 6) < 100 by omega) (by decide)) dX7_stops_80 ?_
              refine lv_re (y := B 1 (7 + 14 * a1.toNatClampNeg + 6)) ((((((congrArg ((bput (bput (bput (bput B 1 (7 + 14 * a1.toNatClampNeg + 9) 0) 1 (7 + 14 * a1.toNatClampNeg + 10) 0) 1 (7 + 14 * a1.toNatClampNeg + 11) 0) 1 (7 + 14 * a1.toNatClampNeg + 8) 0) 1) (nI_clamp (by omega)))).trans (bput_q (by omega))).trans (bput_q (by omega))).trans (bput_q (by omega))).trans (bput_q (by omega))) ?_
              refine lv_icmp_le (tgt := 105) hx hb dX7_stops_81 (by decide) (fun c_9 => ?_) (fun c_9 => ?_)
              · skip
                refine lv_aload_n hx hb dX7_stops_105 rfl (lv_at hl 1 rfl) ?_
                refine wr_get hC hinRX7 hW (vM (by decide)) ce_m0 rfl 0 (by decide) hk0 rfl dX7_stops_106 ?_
                refine lv_iload_n hx hb dX7_stops_109 rfl (lv_at hl 2 rfl) ?_
                refine lv_iconst (v := 5) hx hb dX7_stops_110 (by decide) ?_
                refine wc_s hC hml (kX7_at l G (wset Z 12 (bput (bput (bput (bput B 1 (7 + 14 * a1.toNatClampNeg + 9) 0) 1 (7 + 14 * a1.toNatClampNeg + 10) 0) 1 (7 + 14 * a1.toNatClampNeg + 11) 0) 1 (7 + 14 * a1.toNatClampNeg + 8) 0)) a1.toNatClampNeg 5) (cwS 2 hts gX7_stops_X7_at rfl rfl rfl (by decide +kernel) ⟨Nat.le_of_ble_eq_true rfl, Nat.le_of_ble_eq_true rfl⟩) hW hS rfl rfl hl.1 (Nat.le_of_ble_eq_true rfl) dX7_stops_111 (fun H locs hW hS => ?_)
                refine lv_re (y := nI (7 + 14 * a1.toNatClampNeg + 5)) rfl ?_
                refine wr_ald (kA := 0) hC hW (vM (by decide)) ce_m1 rfl (vp_in_nI (show (7 + 14 * a1.toNatClampNeg + 5) < 100 by omega) (by decide)) dX7_stops_114 ?_
                refine lv_re (y := B 1 (7 + 14 * a1.toNatClampNeg + 5)) ((((((congrArg ((bput (bput (bput (bput B 1 (7 + 14 * a1.toNatClampNeg + 9) 0) 1 (7 + 14 * a1.toNatClampNeg + 10) 0) 1 (7 + 14 * a1.toNatClampNeg + 11) 0) 1 (7 + 14 * a1.toNatClampNeg + 8) 0) 1) (nI_clamp (by omega)))).trans (bput_q (by omega))).trans (bput_q (by omega))).trans (bput_q (by omega))).trans (bput_q (by omega))) ?_
                have hf : fX7_stops B a1 = ((bput (bput (bput (bput B 1 (7 + 14 * a1.toNatClampNeg + 9) 0) 1 (7 + 14 * a1.toNatClampNeg + 10) 0) 1 (7 + 14 * a1.toNatClampNeg + 11) 0) 1 (7 + 14 * a1.toNatClampNeg + 8) 0), B 1 (7 + 14 * a1.toNatClampNeg + 5)) := by
                  subst ex_3
                  subst ex_1
                  exact (if_neg c_2).trans ((if_pos c_4).trans ((if_pos c_9).trans rfl))
                exact we_i hC hr hlocks (congrArg Prod.snd hf).symm (congrArg (fun u => wset Z 12 u.1) hf).symm hW hS dX7_stops_115
              · skip
                refine lv_aload_n hx hb dX7_stops_84 rfl (lv_at hl 1 rfl) ?_
                refine wr_get hC hinRX7 hW (vM (by decide)) ce_m0 rfl 0 (by decide) hk0 rfl dX7_stops_85 ?_
                refine lv_iload_n hx hb dX7_stops_88 rfl (lv_at hl 2 rfl) ?_
                refine lv_iconst (v := 5) hx hb dX7_stops_89 (by decide) ?_
                refine wc_s hC hml (kX7_at l G (wset Z 12 (bput (bput (bput (bput B 1 (7 + 14 * a1.toNatClampNeg + 9) 0) 1 (7 + 14 * a1.toNatClampNeg + 10) 0) 1 (7 + 14 * a1.toNatClampNeg + 11) 0) 1 (7 + 14 * a1.toNatClampNeg + 8) 0)) a1.toNatClampNeg 5) (cwS 2 hts gX7_stops_X7_at rfl rfl rfl (by decide +kernel) ⟨Nat.le_of_ble_eq_true rfl, Nat.le_of_ble_eq_true rfl⟩) hW hS rfl rfl hl.1 (Nat.le_of_ble_eq_true rfl) dX7_stops_90 (fun H locs hW hS => ?_)
                refine lv_re (y := nI (7 + 14 * a1.toNatClampNeg + 5)) rfl ?_
                refine lv_aload_n hx hb dX7_stops_93 rfl (lv_at hl 1 rfl) ?_
                refine wr_get hC hinRX7 hW (vM (by decide)) ce_m0 rfl 0 (by decide) hk0 rfl dX7_stops_94 ?_
                refine lv_iload_n hx hb dX7_stops_97 rfl (lv_at hl 2 rfl) ?_
                refine lv_bipush (v := 6) hx hb dX7_stops_98 (by decide) ?_
                refine wc_s hC hml (kX7_at l G (wset Z 12 (bput (bput (bput (bput B 1 (7 + 14 * a1.toNatClampNeg + 9) 0) 1 (7 + 14 * a1.toNatClampNeg + 10) 0) 1 (7 + 14 * a1.toNatClampNeg + 11) 0) 1 (7 + 14 * a1.toNatClampNeg + 8) 0)) a1.toNatClampNeg 6) (cwS 2 hts gX7_stops_X7_at rfl rfl rfl (by decide +kernel) ⟨Nat.le_of_ble_eq_true rfl, Nat.le_of_ble_eq_true rfl⟩) hW hS rfl rfl hl.1 (Nat.le_of_ble_eq_true rfl) dX7_stops_100 (fun H locs hW hS => ?_)
                refine lv_re (y := nI (7 + 14 * a1.toNatClampNeg + 6)) rfl ?_
                refine wr_ald (kA := 0) hC hW (vM (by decide)) ce_m1 rfl (vp_in_nI (show (7 + 14 * a1.toNatClampNeg + 6) < 100 by omega) (by decide)) dX7_stops_103 ?_
                refine lv_re (y := B 1 (7 + 14 * a1.toNatClampNeg + 6)) ((((((congrArg ((bput (bput (bput (bput B 1 (7 + 14 * a1.toNatClampNeg + 9) 0) 1 (7 + 14 * a1.toNatClampNeg + 10) 0) 1 (7 + 14 * a1.toNatClampNeg + 11) 0) 1 (7 + 14 * a1.toNatClampNeg + 8) 0) 1) (nI_clamp (by omega)))).trans (bput_q (by omega))).trans (bput_q (by omega))).trans (bput_q (by omega))).trans (bput_q (by omega))) ?_
                refine wr_ast (kA := 0) (Z' := wset Z 12 (bput (bput (bput (bput (bput B 1 (7 + 14 * a1.toNatClampNeg + 9) 0) 1 (7 + 14 * a1.toNatClampNeg + 10) 0) 1 (7 + 14 * a1.toNatClampNeg + 11) 0) 1 (7 + 14 * a1.toNatClampNeg + 8) 0) 1 (nI (7 + 14 * a1.toNatClampNeg + 5)).toNatClampNeg (B 1 (7 + 14 * a1.toNatClampNeg + 6)))) hC hW hS (vM (by decide)) ce_m1 rfl (vp_in_nI (show (7 + 14 * a1.toNatClampNeg + 5) < 100 by omega) (by decide)) wset_off pu_m1 dX7_stops_104 (fun H locs hW hS => ?_)
                rw [nI_clamp (show (7 + 14 * a1.toNatClampNeg + 5) < 2 ^ 31 by omega)] at hW
                refine lv_aload_n hx hb dX7_stops_105 rfl (lv_at hl 1 rfl) ?_
                refine wr_get hC hinRX7 hW (vM (by decide)) ce_m0 rfl 0 (by decide) hk0 rfl dX7_stops_106 ?_
                refine lv_iload_n hx hb dX7_stops_109 rfl (lv_at hl 2 rfl) ?_
                refine lv_iconst (v := 5) hx hb dX7_stops_110 (by decide) ?_
                refine wc_s hC hml (kX7_at l G (wset Z 12 (bput (bput (bput (bput (bput B 1 (7 + 14 * a1.toNatClampNeg + 9) 0) 1 (7 + 14 * a1.toNatClampNeg + 10) 0) 1 (7 + 14 * a1.toNatClampNeg + 11) 0) 1 (7 + 14 * a1.toNatClampNeg + 8) 0) 1 (7 + 14 * a1.toNatClampNeg + 5) (B 1 (7 + 14 * a1.toNatClampNeg + 6)))) a1.toNatClampNeg 5) (cwS 2 hts gX7_stops_X7_at rfl rfl rfl (by decide +kernel) ⟨Nat.le_of_ble_eq_true rfl, Nat.le_of_ble_eq_true rfl⟩) hW hS rfl rfl hl.1 (Nat.le_of_ble_eq_true rfl) dX7_stops_111 (fun H locs hW hS => ?_)
                refine lv_re (y := nI (7 + 14 * a1.toNatClampNeg + 5)) rfl ?_
                refine wr_ald (kA := 0) hC hW (vM (by decide)) ce_m1 rfl (vp_in_nI (show (7 + 14 * a1.toNatClampNeg + 5) < 100 by omega) (by decide)) dX7_stops_114 ?_
                refine lv_re (y := B 1 (7 + 14 * a1.toNatClampNeg + 6)) (((congrArg ((bput (bput (bput (bput (bput B 1 (7 + 14 * a1.toNatClampNeg + 9) 0) 1 (7 + 14 * a1.toNatClampNeg + 10) 0) 1 (7 + 14 * a1.toNatClampNeg + 11) 0) 1 (7 + 14 * a1.toNatClampNeg + 8) 0) 1 (7 + 14 * a1.toNatClampNeg + 5) (B 1 (7 + 14 * a1.toNatClampNeg + 6))) 1) (nI_clamp (by omega)))).trans (bput_h)) ?_
                have hf : fX7_stops B a1 = ((bput (bput (bput (bput (bput B 1 (7 + 14 * a1.toNatClampNeg + 9) 0) 1 (7 + 14 * a1.toNatClampNeg + 10) 0) 1 (7 + 14 * a1.toNatClampNeg + 11) 0) 1 (7 + 14 * a1.toNatClampNeg + 8) 0) 1 (7 + 14 * a1.toNatClampNeg + 5) (B 1 (7 + 14 * a1.toNatClampNeg + 6))), B 1 (7 + 14 * a1.toNatClampNeg + 6)) := by
                  subst ex_3
                  subst ex_1
                  exact (if_neg c_2).trans ((if_pos c_4).trans ((if_neg c_9).trans rfl))
                exact we_i hC hr hlocks (congrArg Prod.snd hf).symm (congrArg (fun u => wset Z 12 u.1) hf).symm hW hS dX7_stops_115
            · exact absurd c_8 (by decide)
    · skip
      refine lv_bipush (v := (-5)) hx hb dX7_stops_18 (by decide) ?_
      have hf : fX7_stops B a1 = (B, (-5)) := by
        subst ex_3
        subst ex_1
        exact (if_neg c_2).trans ((if_neg c_4).trans rfl)
      exact we_i hC hr hlocks (congrArg Prod.snd hf).symm (congrArg (fun u => wset Z 12 u.1) hf).symm hW hS dX7_stops_20
  · skip
    refine lv_iconst (v := (-1)) hx hb dX7_stops_8 (by decide) ?_
    have hf : fX7_stops B a1 = (B, (-1)) := by
      subst ex_1
      exact (if_pos c_2).trans rfl
    exact we_i hC hr hlocks (congrArg Prod.snd hf).symm (congrArg (fun u => wset Z 12 u.1) hf).symm hW hS dX7_stops_9
def fX7_homes (B : wB) (a1 : Int32) : wB × Int32 :=
  let x_1 := fX7_isShaft B a1
  if x_1 = 0 then (B, (-1))
  else let x_3 := fX7_rests B a1.toNatClampNeg
  if x_3 = 0 then (B, (-5))
  else let x_5 := (B 1 (7 + 14 * a1.toNatClampNeg + 2)) - (B 1 (7 + 14 * a1.toNatClampNeg + 3))
  ((bput B 1 (7 + 14 * a1.toNatClampNeg + 2) (B 1 (7 + 14 * a1.toNatClampNeg + 3))), x_5 + 1000000)
abbrev rX7_homes : Room := { frames := 2, cells := 0, slots := 0, locals := 43 }
set_option maxHeartbeats 4000000 in
set_option maxRecDepth 100000 in
theorem kX7_homes (l : Launch) (G : wG) (Z : wZ) (B : wB) (a1 : Int32) (hm : 0 ≤ (B 1 6).toInt ∧ (B 1 6).toInt ≤ 4) : mI l yX7_homes wsX7_homes rX7_homes G [.ref (G.2.2.1 12 0), .int a1] (wset Z 12 B) (fX7_homes B a1).2 (wset Z 12 (fX7_homes B a1).1) := by
  refine Met.ofW (cc := cX7_homes) (maxL := 3) (ret := (some .int)) (by decide) rfl ?_
  intro p e s m args below meth c s₁ B0 hml hv
  obtain ⟨rfl, hW, hK, hL⟩ := hv
  have hlocks := B0.notSynchronized
  have hr := B0.returns
  have hC : wX p s m c cX7_homes _ wsX7_homes RX7 G := ⟨B0.exec, B0.bytes, findClass_of_methodNamed B0.named, atoms_spec (ws := wsX7_homes) B0.pre, hK, hL⟩
  have hx := hC.1
  have hb := hC.2.1
  have hts := hC.2.2.2.1
  have hinRX7 : ∀ w ∈ wsX70, w ∈ wsX7_homes := by decide +kernel
  have hk0 := hts (.fieldLink RX7 7 "RampShaftsModel" "s" "[I") (by decide +kernel)
  have hk1 := hts (.constant RX7 95 (1000000)) (by decide +kernel)
  have hS : va_S (wA G) s.heap s.heap [] := va_S.rf
  have hl := lv_entry ([.ref (G.2.2.1 12 0), .int a1]) (n := 3) (Nat.le_of_ble_eq_true rfl)
  rw [lg_entry_eq]
  generalize (lg_sl ([.ref (G.2.2.1 12 0), .int a1]) ++ List.replicate (3 - (lg_sl ([.ref (G.2.2.1 12 0), .int a1])).length) Slot.unset).toArray = ls at hl ⊢
  have hl : lv_has ls 3 [(0, .ref (G.2.2.1 12 0)), (1, .int a1)] := hl
  refine lv_aload_n hx hb dX7_homes_0 rfl (lv_at hl 0 rfl) ?_
  refine lv_iload_n hx hb dX7_homes_1 rfl (lv_at hl 1 rfl) ?_
  refine wc_i hC hml (kX7_isShaft l G Z B a1) (cwV 1 hts gX7_homes_X7_isShaft rfl rfl rfl (by decide +kernel) ⟨Nat.le_of_ble_eq_true rfl, Nat.le_of_ble_eq_true rfl⟩) hW hS (vM (by decide)) ce_m0 rfl rfl rfl rfl hl.1 (Nat.le_of_ble_eq_true rfl) dX7_homes_2 (fun H locs hW hS => ?_)
  refine lv_topi (fun x_1 ex_1 => ?_)
  refine lv_if_ne (tgt := 10) hx hb dX7_homes_5 (by decide) (fun c_2 => ?_) (fun c_2 => ?_)
  · skip
    have hs9 := sh_ok hm (by rw [← ex_1]; exact c_2)
    have ek9 := nI_self hs9.1
    have hk9 := hs9.2.1
    rw [ek9] at hl
    refine lv_aload_n hx hb dX7_homes_10 rfl (lv_at hl 0 rfl) ?_
    refine lv_iload_n hx hb dX7_homes_11 rfl (lv_at hl 1 rfl) ?_
    refine wc_i hC hml (kX7_rests l G Z B a1.toNatClampNeg (by first | assumption | omega)) (cwV 1 hts gX7_homes_X7_rests rfl rfl rfl (by decide +kernel) ⟨Nat.le_of_ble_eq_true rfl, Nat.le_of_ble_eq_true rfl⟩) hW hS (vM (by decide)) ce_m0 rfl rfl rfl rfl hl.1 (Nat.le_of_ble_eq_true rfl) dX7_homes_12 (fun H locs hW hS => ?_)
    refine lv_topi (fun x_3 ex_3 => ?_)
    refine lv_if_ne (tgt := 21) hx hb dX7_homes_15 (by decide) (fun c_4 => ?_) (fun c_4 => ?_)
    · skip
      refine lv_aload_n hx hb dX7_homes_21 rfl (lv_at hl 0 rfl) ?_
      refine wr_get hC hinRX7 hW (vM (by decide)) ce_m0 rfl 0 (by decide) hk0 rfl dX7_homes_22 ?_
      refine lv_iload_n hx hb dX7_homes_25 rfl (lv_at hl 1 rfl) ?_
      refine lv_iconst (v := 2) hx hb dX7_homes_26 (by decide) ?_
      refine wc_s hC hml (kX7_at l G (wset Z 12 B) a1.toNatClampNeg 2) (cwS 2 hts gX7_homes_X7_at rfl rfl rfl (by decide +kernel) ⟨Nat.le_of_ble_eq_true rfl, Nat.le_of_ble_eq_true rfl⟩) hW hS rfl rfl hl.1 (Nat.le_of_ble_eq_true rfl) dX7_homes_27 (fun H locs hW hS => ?_)
      refine lv_re (y := nI (7 + 14 * a1.toNatClampNeg + 2)) rfl ?_
      refine wr_ald (kA := 0) hC hW (vM (by decide)) ce_m1 rfl (vp_in_nI (show (7 + 14 * a1.toNatClampNeg + 2) < 100 by omega) (by decide)) dX7_homes_30 ?_
      refine lv_re (y := B 1 (7 + 14 * a1.toNatClampNeg + 2)) ((congrArg (B 1) (nI_clamp (by omega)))) ?_
      refine lv_aload_n hx hb dX7_homes_31 rfl (lv_at hl 0 rfl) ?_
      refine wr_get hC hinRX7 hW (vM (by decide)) ce_m0 rfl 0 (by decide) hk0 rfl dX7_homes_32 ?_
      refine lv_iload_n hx hb dX7_homes_35 rfl (lv_at hl 1 rfl) ?_
      refine lv_iconst (v := 3) hx hb dX7_homes_36 (by decide) ?_
      refine wc_s hC hml (kX7_at l G (wset Z 12 B) a1.toNatClampNeg 3) (cwS 2 hts gX7_homes_X7_at rfl rfl rfl (by decide +kernel) ⟨Nat.le_of_ble_eq_true rfl, Nat.le_of_ble_eq_true rfl⟩) hW hS rfl rfl hl.1 (Nat.le_of_ble_eq_true rfl) dX7_homes_37 (fun H locs hW hS => ?_)
      refine lv_re (y := nI (7 + 14 * a1.toNatClampNeg + 3)) rfl ?_
      refine wr_ald (kA := 0) hC hW (vM (by decide)) ce_m1 rfl (vp_in_nI (show (7 + 14 * a1.toNatClampNeg + 3) < 100 by omega) (by decide)) dX7_homes_40 ?_
      refine lv_re (y := B 1 (7 + 14 * a1.toNatClampNeg + 3)) ((congrArg (B 1) (nI_clamp (by omega)))) ?_
      refine lv_isub hx hb dX7_homes_41 ?_
      refine lv_topi (fun x_5 ex_5 => ?_)
      refine lv_istore_n (lv' := [(2, .int x_5), (0, .ref (G.2.2.1 12 0)), (1, .int (nI a1.toNatClampNeg))]) hx hb dX7_homes_42 rfl hl (by decide) rfl (fun ls hl => ?_)
      refine lv_aload_n hx hb dX7_homes_43 rfl (lv_at hl 1 rfl) ?_
      refine wr_get hC hinRX7 hW (vM (by decide)) ce_m0 rfl 0 (by decide) hk0 rfl dX7_homes_44 ?_
      refine lv_iload_n hx hb dX7_homes_47 rfl (lv_at hl 2 rfl) ?_
      refine lv_iconst (v := 2) hx hb dX7_homes_48 (by decide) ?_
      refine wc_s hC hml (kX7_at l G (wset Z 12 B) a1.toNatClampNeg 2) (cwS 2 hts gX7_homes_X7_at rfl rfl rfl (by decide +kernel) ⟨Nat.le_of_ble_eq_true rfl, Nat.le_of_ble_eq_true rfl⟩) hW hS rfl rfl hl.1 (Nat.le_of_ble_eq_true rfl) dX7_homes_49 (fun H locs hW hS => ?_)
      refine lv_re (y := nI (7 + 14 * a1.toNatClampNeg + 2)) rfl ?_
      refine lv_aload_n hx hb dX7_homes_52 rfl (lv_at hl 1 rfl) ?_
      refine wr_get hC hinRX7 hW (vM (by decide)) ce_m0 rfl 0 (by decide) hk0 rfl dX7_homes_53 ?_
      refine lv_iload_n hx hb dX7_homes_56 rfl (lv_at hl 2 rfl) ?_
      refine lv_iconst (v := 3) hx hb dX7_homes_57 (by decide) ?_
      refine wc_s hC hml (kX7_at l G (wset Z 12 B) a1.toNatClampNeg 3) (cwS 2 hts gX7_homes_X7_at rfl rfl rfl (by decide +kernel) ⟨Nat.le_of_ble_eq_true rfl, Nat.le_of_ble_eq_true rfl⟩) hW hS rfl rfl hl.1 (Nat.le_of_ble_eq_true rfl) dX7_homes_58 (fun H locs hW hS => ?_)
      refine lv_re (y := nI (7 + 14 * a1.toNatClampNeg + 3)) rfl ?_
      refine wr_ald (kA := 0) hC hW (vM (by decide)) ce_m1 rfl (vp_in_nI (show (7 + 14 * a1.toNatClampNeg + 3) < 100 by omega) (by decide)) dX7_homes_61 ?_
      refine lv_re (y := B 1 (7 + 14 * a1.toNatClampNeg + 3)) ((congrArg (B 1) (nI_clamp (by omega)))) ?_
      refine wr_ast (kA := 0) (Z' := wset Z 12 (bput B 1 (nI (7 + 14 * a1.toNatClampNeg + 2)).toNatClampNeg (B 1 (7 + 14 * a1.toNatClampNeg + 3)))) hC hW hS (vM (by decide)) ce_m1 rfl (vp_in_nI (show (7 + 14 * a1.toNatClampNeg + 2) < 100 by omega) (by decide)) wset_off pu_m1 dX7_homes_62 (fun H locs hW hS => ?_)
      rw [nI_clamp (show (7 + 14 * a1.toNatClampNeg + 2) < 2 ^ 31 by omega)] at hW
      refine lv_iload_n hx hb dX7_homes_63 rfl (lv_at hl 0 rfl) ?_
      refine lv_ldc (v := 1000000) hx hb hC.2.2.1 hk1 dX7_homes_64 ?_
      refine lv_iadd hx hb dX7_homes_66 ?_
      have hf : fX7_homes B a1 = ((bput B 1 (7 + 14 * a1.toNatClampNeg + 2) (B 1 (7 + 14 * a1.toNatClampNeg + 3))), x_5 + 1000000) := by
        subst ex_5
        subst ex_3
        subst ex_1
        exact (if_neg c_2).trans ((if_neg c_4).trans rfl)
      exact we_i hC hr hlocks (congrArg Prod.snd hf).symm (congrArg (fun u => wset Z 12 u.1) hf).symm hW hS dX7_homes_67
    · skip
      refine lv_bipush (v := (-5)) hx hb dX7_homes_18 (by decide) ?_
      have hf : fX7_homes B a1 = (B, (-5)) := by
        subst ex_3
        subst ex_1
        exact (if_neg c_2).trans ((if_pos c_4).trans rfl)
      exact we_i hC hr hlocks (congrArg Prod.snd hf).symm (congrArg (fun u => wset Z 12 u.1) hf).symm hW hS dX7_homes_20
  · skip
    refine lv_iconst (v := (-1)) hx hb dX7_homes_8 (by decide) ?_
    have hf : fX7_homes B a1 = (B, (-1)) := by
      subst ex_1
      exact (if_pos c_2).trans rfl
    exact we_i hC hr hlocks (congrArg Prod.snd hf).symm (congrArg (fun u => wset Z 12 u.1) hf).symm hW hS dX7_homes_9
def fX7_says (B : wB) (k : Nat) (a2 : Int32) : Int32 :=
  ((B 1 (7 + 14 * k + 2)) + (((B 1 (7 + 14 * k + 4)) * (B 1 (7 + 14 * k + 0))) * a2)) + 1000000
abbrev rX7_says : Room := { frames := 1, cells := 0, slots := 0, locals := 21 }
set_option maxHeartbeats 4000000 in
set_option maxRecDepth 100000 in
theorem kX7_says (l : Launch) (G : wG) (Z : wZ) (B : wB) (k : Nat) (a2 : Int32) (hk : k < 4) : mI l yX7_says wsX7_says rX7_says G [.ref (G.2.2.1 12 0), .int (nI k), .int a2] (wset Z 12 B) (fX7_says B k a2) (wset Z 12 B) := by
  refine Met.ofW (cc := cX7_says) (maxL := 3) (ret := (some .int)) (by decide) rfl ?_
  intro p e s m args below meth c s₁ B0 hml hv
  obtain ⟨rfl, hW, hK, hL⟩ := hv
  have hlocks := B0.notSynchronized
  have hr := B0.returns
  have hC : wX p s m c cX7_says _ wsX7_says RX7 G := ⟨B0.exec, B0.bytes, findClass_of_methodNamed B0.named, atoms_spec (ws := wsX7_says) B0.pre, hK, hL⟩
  have hx := hC.1
  have hb := hC.2.1
  have hts := hC.2.2.2.1
  have hinRX7 : ∀ w ∈ wsX70, w ∈ wsX7_says := by decide +kernel
  have hk0 := hts (.fieldLink RX7 7 "RampShaftsModel" "s" "[I") (by decide +kernel)
  have hk1 := hts (.constant RX7 95 (1000000)) (by decide +kernel)
  have hS : va_S (wA G) s.heap s.heap [] := va_S.rf
  have hl := lv_entry ([.ref (G.2.2.1 12 0), .int (nI k), .int a2]) (n := 3) (Nat.le_of_ble_eq_true rfl)
  rw [lg_entry_eq]
  generalize (lg_sl ([.ref (G.2.2.1 12 0), .int (nI k), .int a2]) ++ List.replicate (3 - (lg_sl ([.ref (G.2.2.1 12 0), .int (nI k), .int a2])).length) Slot.unset).toArray = ls at hl ⊢
  have hl : lv_has ls 3 [(0, .ref (G.2.2.1 12 0)), (1, .int (nI k)), (2, .int a2)] := hl
  refine lv_aload_n hx hb dX7_says_0 rfl (lv_at hl 0 rfl) ?_
  refine wr_get hC hinRX7 hW (vM (by decide)) ce_m0 rfl 0 (by decide) hk0 rfl dX7_says_1 ?_
  refine lv_iload_n hx hb dX7_says_4 rfl (lv_at hl 1 rfl) ?_
  refine lv_iconst (v := 2) hx hb dX7_says_5 (by decide) ?_
  refine wc_s hC hml (kX7_at l G (wset Z 12 B) k 2) (cwS 2 hts gX7_says_X7_at rfl rfl rfl (by decide +kernel) ⟨Nat.le_of_ble_eq_true rfl, Nat.le_of_ble_eq_true rfl⟩) hW hS rfl rfl hl.1 (Nat.le_of_ble_eq_true rfl) dX7_says_6 (fun H locs hW hS => ?_)
  refine lv_re (y := nI (7 + 14 * k + 2)) rfl ?_
  refine wr_ald (kA := 0) hC hW (vM (by decide)) ce_m1 rfl (vp_in_nI (show (7 + 14 * k + 2) < 100 by omega) (by decide)) dX7_says_9 ?_
  refine lv_re (y := B 1 (7 + 14 * k + 2)) ((congrArg (B 1) (nI_clamp (by omega)))) ?_
  refine lv_aload_n hx hb dX7_says_10 rfl (lv_at hl 0 rfl) ?_
  refine wr_get hC hinRX7 hW (vM (by decide)) ce_m0 rfl 0 (by decide) hk0 rfl dX7_says_11 ?_
  refine lv_iload_n hx hb dX7_says_14 rfl (lv_at hl 1 rfl) ?_
  refine lv_iconst (v := 4) hx hb dX7_says_15 (by decide) ?_
  refine wc_s hC hml (kX7_at l G (wset Z 12 B) k 4) (cwS 2 hts gX7_says_X7_at rfl rfl rfl (by decide +kernel) ⟨Nat.le_of_ble_eq_true rfl, Nat.le_of_ble_eq_true rfl⟩) hW hS rfl rfl hl.1 (Nat.le_of_ble_eq_true rfl) dX7_says_16 (fun H locs hW hS => ?_)
  refine lv_re (y := nI (7 + 14 * k + 4)) rfl ?_
  refine wr_ald (kA := 0) hC hW (vM (by decide)) ce_m1 rfl (vp_in_nI (show (7 + 14 * k + 4) < 100 by omega) (by decide)) dX7_says_19 ?_
  refine lv_re (y := B 1 (7 + 14 * k + 4)) ((congrArg (B 1) (nI_clamp (by omega)))) ?_
  refine lv_aload_n hx hb dX7_says_20 rfl (lv_at hl 0 rfl) ?_
  refine wr_get hC hinRX7 hW (vM (by decide)) ce_m0 rfl 0 (by decide) hk0 rfl dX7_says_21 ?_
  refine lv_iload_n hx hb dX7_says_24 rfl (lv_at hl 1 rfl) ?_
  refine lv_iconst (v := 0) hx hb dX7_says_25 (by decide) ?_
  refine wc_s hC hml (kX7_at l G (wset Z 12 B) k 0) (cwS 2 hts gX7_says_X7_at rfl rfl rfl (by decide +kernel) ⟨Nat.le_of_ble_eq_true rfl, Nat.le_of_ble_eq_true rfl⟩) hW hS rfl rfl hl.1 (Nat.le_of_ble_eq_true rfl) dX7_says_26 (fun H locs hW hS => ?_)
  refine lv_re (y := nI (7 + 14 * k + 0)) rfl ?_
  refine wr_ald (kA := 0) hC hW (vM (by decide)) ce_m1 rfl (vp_in_nI (show (7 + 14 * k + 0) < 100 by omega) (by decide)) dX7_says_29 ?_
  refine lv_re (y := B 1 (7 + 14 * k + 0)) ((congrArg (B 1) (nI_clamp (by omega)))) ?_
  refine lv_imul hx hb dX7_says_30 ?_
  refine lv_iload_n hx hb dX7_says_31 rfl (lv_at hl 2 rfl) ?_
  refine lv_imul hx hb dX7_says_32 ?_
  refine lv_iadd hx hb dX7_says_33 ?_
  refine lv_ldc (v := 1000000) hx hb hC.2.2.1 hk1 dX7_says_34 ?_
  refine lv_iadd hx hb dX7_says_36 ?_
  have hf : fX7_says B k a2 = ((B 1 (7 + 14 * k + 2)) + (((B 1 (7 + 14 * k + 4)) * (B 1 (7 + 14 * k + 0))) * a2)) + 1000000 := rfl
  exact we_i hC hr hlocks hf.symm rfl hW hS dX7_says_37
def fX7_of (B : wB) (a1 : Int32) (a2 : Int32) : Int32 :=
  let x_1 := fX7_isShaft B a1
  if x_1 = 0 then (-1)
  else if a2 = 0 then (B 1 (7 + 14 * a1.toNatClampNeg + 2)) + 1000000
  else if a2 = 1 then (B 1 (7 + 14 * a1.toNatClampNeg + 3)) + 1000000
  else if a2 = 2 then B 1 (7 + 14 * a1.toNatClampNeg + 0)
  else if a2 = 3 then B 1 (7 + 14 * a1.toNatClampNeg + 1)
  else if a2 = 4 then (let x_8 := fX7_rests B a1.toNatClampNeg
    if x_8 = 0 then 1
    else 0)
  else if a2 = 5 then B 1 (7 + 14 * a1.toNatClampNeg + 5)
  else if a2 = 6 then (let x_12 := fX7_rests B a1.toNatClampNeg
    if x_12 = 0 then B 1 (7 + 14 * a1.toNatClampNeg + 6)
    else 0)
  else if a2 = 7 then (let x_15 := fX7_rests B a1.toNatClampNeg
    if x_15 = 0 then (B 1 (7 + 14 * a1.toNatClampNeg + 7)) - (B 1 5)
    else (-6))
  else if a2 = 8 then B 1 (7 + 14 * a1.toNatClampNeg + 8)
  else if a2 = 9 then B 1 (7 + 14 * a1.toNatClampNeg + 12)
  else if a2 = 10 then B 1 (7 + 14 * a1.toNatClampNeg + 13)
  else if a2 = 11 then (let x_21 := fX7_says B a1.toNatClampNeg (B 1 (7 + 14 * a1.toNatClampNeg + 5))
    x_21)
  else (-2)
abbrev rX7_of : Room := { frames := 2, cells := 0, slots := 0, locals := 43 }
set_option maxHeartbeats 4000000 in
set_option maxRecDepth 100000 in
theorem kX7_of (l : Launch) (G : wG) (Z : wZ) (B : wB) (a1 : Int32) (a2 : Int32) (hm : 0 ≤ (B 1 6).toInt ∧ (B 1 6).toInt ≤ 4) : mI l yX7_of wsX7_of rX7_of G [.ref (G.2.2.1 12 0), .int a1, .int a2] (wset Z 12 B) (fX7_of B a1 a2) (wset Z 12 B) := by
  refine Met.ofW (cc := cX7_of) (maxL := 3) (ret := (some .int)) (by decide) rfl ?_
  intro p e s m args below meth c s₁ B0 hml hv
  obtain ⟨rfl, hW, hK, hL⟩ := hv
  have hlocks := B0.notSynchronized
  have hr := B0.returns
  have hC : wX p s m c cX7_of _ wsX7_of RX7 G := ⟨B0.exec, B0.bytes, findClass_of_methodNamed B0.named, atoms_spec (ws := wsX7_of) B0.pre, hK, hL⟩
  have hx := hC.1
  have hb := hC.2.1
  have hts := hC.2.2.2.1
  have hinRX7 : ∀ w ∈ wsX70, w ∈ wsX7_of := by decide +kernel
  have hk0 := hts (.fieldLink RX7 7 "RampShaftsModel" "s" "[I") (by decide +kernel)
  have hk1 := hts (.constant RX7 95 (1000000)) (by decide +kernel)
  have hS : va_S (wA G) s.heap s.heap [] := va_S.rf
  have hl := lv_entry ([.ref (G.2.2.1 12 0), .int a1, .int a2]) (n := 3) (Nat.le_of_ble_eq_true rfl)
  rw [lg_entry_eq]
  generalize (lg_sl ([.ref (G.2.2.1 12 0), .int a1, .int a2]) ++ List.replicate (3 - (lg_sl ([.ref (G.2.2.1 12 0), .int a1, .int a2])).length) Slot.unset).toArray = ls at hl ⊢
  have hl : lv_has ls 3 [(0, .ref (G.2.2.1 12 0)), (1, .int a1), (2, .int a2)] := hl
  refine lv_aload_n hx hb dX7_of_0 rfl (lv_at hl 0 rfl) ?_
  refine lv_iload_n hx hb dX7_of_1 rfl (lv_at hl 1 rfl) ?_
  refine wc_i hC hml (kX7_isShaft l G Z B a1) (cwV 1 hts gX7_of_X7_isShaft rfl rfl rfl (by decide +kernel) ⟨Nat.le_of_ble_eq_true rfl, Nat.le_of_ble_eq_true rfl⟩) hW hS (vM (by decide)) ce_m0 rfl rfl rfl rfl hl.1 (Nat.le_of_ble_eq_true rfl) dX7_of_2 (fun H locs hW hS => ?_)
  refine lv_topi (fun x_1 ex_1 => ?_)
  refine lv_if_ne (tgt := 10) hx hb dX7_of_5 (by decide) (fun c_2 => ?_) (fun c_2 => ?_)
  · skip
    have hs9 := sh_ok hm (by rw [← ex_1]; exact c_2)
    have ek9 := nI_self hs9.1
    have hk9 := hs9.2.1
    rw [ek9] at hl
    refine lv_iload_n hx hb dX7_of_10 rfl (lv_at hl 2 rfl) ?_
    by_cases c_3 : a2 = 0
    · refine lv_re c_3 ?_
      refine lv_tableIn (tgt := 72) (off := 61) hx hb dX7_of_11 (by decide) (by decide) (by decide) (by decide) ?_
      refine lv_aload_n hx hb dX7_of_72 rfl (lv_at hl 0 rfl) ?_
      refine wr_get hC hinRX7 hW (vM (by decide)) ce_m0 rfl 0 (by decide) hk0 rfl dX7_of_73 ?_
      refine lv_iload_n hx hb dX7_of_76 rfl (lv_at hl 1 rfl) ?_
      refine lv_iconst (v := 2) hx hb dX7_of_77 (by decide) ?_
      refine wc_s hC hml (kX7_at l G (wset Z 12 B) a1.toNatClampNeg 2) (cwS 2 hts gX7_of_X7_at rfl rfl rfl (by decide +kernel) ⟨Nat.le_of_ble_eq_true rfl, Nat.le_of_ble_eq_true rfl⟩) hW hS rfl rfl hl.1 (Nat.le_of_ble_eq_true rfl) dX7_of_78 (fun H locs hW hS => ?_)
      refine lv_re (y := nI (7 + 14 * a1.toNatClampNeg + 2)) rfl ?_
      refine wr_ald (kA := 0) hC hW (vM (by decide)) ce_m1 rfl (vp_in_nI (show (7 + 14 * a1.toNatClampNeg + 2) < 100 by omega) (by decide)) dX7_of_81 ?_
      refine lv_re (y := B 1 (7 + 14 * a1.toNatClampNeg + 2)) ((congrArg (B 1) (nI_clamp (by omega)))) ?_
      refine lv_ldc (v := 1000000) hx hb hC.2.2.1 hk1 dX7_of_82 ?_
      refine lv_iadd hx hb dX7_of_84 ?_
      have hf : fX7_of B a1 a2 = (B 1 (7 + 14 * a1.toNatClampNeg + 2)) + 1000000 := by
        subst ex_1
        exact (if_neg c_2).trans ((if_pos c_3).trans rfl)
      exact we_i hC hr hlocks hf.symm rfl hW hS dX7_of_85
    by_cases c_4 : a2 = 1
    · refine lv_re c_4 ?_
      refine lv_tableIn (tgt := 86) (off := 75) hx hb dX7_of_11 (by decide) (by decide) (by decide) (by decide) ?_
      refine lv_aload_n hx hb dX7_of_86 rfl (lv_at hl 0 rfl) ?_
      refine wr_get hC hinRX7 hW (vM (by decide)) ce_m0 rfl 0 (by decide) hk0 rfl dX7_of_87 ?_
      refine lv_iload_n hx hb dX7_of_90 rfl (lv_at hl 1 rfl) ?_
      refine lv_iconst (v := 3) hx hb dX7_of_91 (by decide) ?_
      refine wc_s hC hml (kX7_at l G (wset Z 12 B) a1.toNatClampNeg 3) (cwS 2 hts gX7_of_X7_at rfl rfl rfl (by decide +kernel) ⟨Nat.le_of_ble_eq_true rfl, Nat.le_of_ble_eq_true rfl⟩) hW hS rfl rfl hl.1 (Nat.le_of_ble_eq_true rfl) dX7_of_92 (fun H locs hW hS => ?_)
      refine lv_re (y := nI (7 + 14 * a1.toNatClampNeg + 3)) rfl ?_
      refine wr_ald (kA := 0) hC hW (vM (by decide)) ce_m1 rfl (vp_in_nI (show (7 + 14 * a1.toNatClampNeg + 3) < 100 by omega) (by decide)) dX7_of_95 ?_
      refine lv_re (y := B 1 (7 + 14 * a1.toNatClampNeg + 3)) ((congrArg (B 1) (nI_clamp (by omega)))) ?_
      refine lv_ldc (v := 1000000) hx hb hC.2.2.1 hk1 dX7_of_96 ?_
      refine lv_iadd hx hb dX7_of_98 ?_
      have hf : fX7_of B a1 a2 = (B 1 (7 + 14 * a1.toNatClampNeg + 3)) + 1000000 := by
        subst ex_1
        exact (if_neg c_2).trans ((if_neg c_3).trans ((if_pos c_4).trans rfl))
      exact we_i hC hr hlocks hf.symm rfl hW hS dX7_of_99
    by_cases c_5 : a2 = 2
    · refine lv_re c_5 ?_
      refine lv_tableIn (tgt := 100) (off := 89) hx hb dX7_of_11 (by decide) (by decide) (by decide) (by decide) ?_
      refine lv_aload_n hx hb dX7_of_100 rfl (lv_at hl 0 rfl) ?_
      refine wr_get hC hinRX7 hW (vM (by decide)) ce_m0 rfl 0 (by decide) hk0 rfl dX7_of_101 ?_
      refine lv_iload_n hx hb dX7_of_104 rfl (lv_at hl 1 rfl) ?_
      refine lv_iconst (v := 0) hx hb dX7_of_105 (by decide) ?_
      refine wc_s hC hml (kX7_at l G (wset Z 12 B) a1.toNatClampNeg 0) (cwS 2 hts gX7_of_X7_at rfl rfl rfl (by decide +kernel) ⟨Nat.le_of_ble_eq_true rfl, Nat.le_of_ble_eq_true rfl⟩) hW hS rfl rfl hl.1 (Nat.le_of_ble_eq_true rfl) dX7_of_106 (fun H locs hW hS => ?_)
      refine lv_re (y := nI (7 + 14 * a1.toNatClampNeg + 0)) rfl ?_
      refine wr_ald (kA := 0) hC hW (vM (by decide)) ce_m1 rfl (vp_in_nI (show (7 + 14 * a1.toNatClampNeg + 0) < 100 by omega) (by decide)) dX7_of_109 ?_
      refine lv_re (y := B 1 (7 + 14 * a1.toNatClampNeg + 0)) ((congrArg (B 1) (nI_clamp (by omega)))) ?_
      have hf : fX7_of B a1 a2 = B 1 (7 + 14 * a1.toNatClampNeg + 0) := by
        subst ex_1
        exact (if_neg c_2).trans ((if_neg c_3).trans ((if_neg c_4).trans ((if_pos c_5).trans rfl)))
      exact we_i hC hr hlocks hf.symm rfl hW hS dX7_of_110
    by_cases c_6 : a2 = 3
    · refine lv_re c_6 ?_
      refine lv_tableIn (tgt := 111) (off := 100) hx hb dX7_of_11 (by decide) (by decide) (by decide) (by decide) ?_
      refine lv_aload_n hx hb dX7_of_111 rfl (lv_at hl 0 rfl) ?_
      refine wr_get hC hinRX7 hW (vM (by decide)) ce_m0 rfl 0 (by decide) hk0 rfl dX7_of_112 ?_
      refine lv_iload_n hx hb dX7_of_115 rfl (lv_at hl 1 rfl) ?_
      refine lv_iconst (v := 1) hx hb dX7_of_116 (by decide) ?_
      refine wc_s hC hml (kX7_at l G (wset Z 12 B) a1.toNatClampNeg 1) (cwS 2 hts gX7_of_X7_at rfl rfl rfl (by decide +kernel) ⟨Nat.le_of_ble_eq_true rfl, Nat.le_of_ble_eq_true rfl⟩) hW hS rfl rfl hl.1 (Nat.le_of_ble_eq_true rfl) dX7_of_117 (fun H locs hW hS => ?_)
      refine lv_re (y := nI (7 + 14 * a1.toNatClampNeg + 1)) rfl ?_
      refine wr_ald (kA := 0) hC hW (vM (by decide)) ce_m1 rfl (vp_in_nI (show (7 + 14 * a1.toNatClampNeg + 1) < 100 by omega) (by decide)) dX7_of_120 ?_
      refine lv_re (y := B 1 (7 + 14 * a1.toNatClampNeg + 1)) ((congrArg (B 1) (nI_clamp (by omega)))) ?_
      have hf : fX7_of B a1 a2 = B 1 (7 + 14 * a1.toNatClampNeg + 1) := by
        subst ex_1
        exact (if_neg c_2).trans ((if_neg c_3).trans ((if_neg c_4).trans ((if_neg c_5).trans ((if_pos c_6).trans rfl))))
      exact we_i hC hr hlocks hf.symm rfl hW hS dX7_of_121
    by_cases c_7 : a2 = 4
    · refine lv_re c_7 ?_
      refine lv_tableIn (tgt := 122) (off := 111) hx hb dX7_of_11 (by decide) (by decide) (by decide) (by decide) ?_
      refine lv_aload_n hx hb dX7_of_122 rfl (lv_at hl 0 rfl) ?_
      refine lv_iload_n hx hb dX7_of_123 rfl (lv_at hl 1 rfl) ?_
      refine wc_i hC hml (kX7_rests l G Z B a1.toNatClampNeg (by first | assumption | omega)) (cwV 1 hts gX7_of_X7_rests rfl rfl rfl (by decide +kernel) ⟨Nat.le_of_ble_eq_true rfl, Nat.le_of_ble_eq_true rfl⟩) hW hS (vM (by decide)) ce_m0 rfl rfl rfl rfl hl.1 (Nat.le_of_ble_eq_true rfl) dX7_of_124 (fun H locs hW hS => ?_)
      refine lv_topi (fun x_8 ex_8 => ?_)
      refine lv_if_eq (tgt := 134) hx hb dX7_of_127 (by decide) (fun c_9 => ?_) (fun c_9 => ?_)
      · skip
        refine lv_iconst (v := 1) hx hb dX7_of_134 (by decide) ?_
        have hf : fX7_of B a1 a2 = 1 := by
          subst ex_8
          subst ex_1
          exact (if_neg c_2).trans ((if_neg c_3).trans ((if_neg c_4).trans ((if_neg c_5).trans ((if_neg c_6).trans ((if_pos c_7).trans ((if_pos c_9).trans rfl))))))
        exact we_i hC hr hlocks hf.symm rfl hW hS dX7_of_135
      · skip
        refine lv_iconst (v := 0) hx hb dX7_of_130 (by decide) ?_
        refine lv_goto (tgt := 135) hx hb dX7_of_131 (by decide) ?_
        have hf : fX7_of B a1 a2 = 0 := by
          subst ex_8
          subst ex_1
          exact (if_neg c_2).trans ((if_neg c_3).trans ((if_neg c_4).trans ((if_neg c_5).trans ((if_neg c_6).trans ((if_pos c_7).trans ((if_neg c_9).trans rfl))))))
        exact we_i hC hr hlocks hf.symm rfl hW hS dX7_of_135
    by_cases c_10 : a2 = 5
    · refine lv_re c_10 ?_
      refine lv_tableIn (tgt := 136) (off := 125) hx hb dX7_of_11 (by decide) (by decide) (by decide) (by decide) ?_
      refine lv_aload_n hx hb dX7_of_136 rfl (lv_at hl 0 rfl) ?_
      refine wr_get hC hinRX7 hW (vM (by decide)) ce_m0 rfl 0 (by decide) hk0 rfl dX7_of_137 ?_
      refine lv_iload_n hx hb dX7_of_140 rfl (lv_at hl 1 rfl) ?_
      refine lv_iconst (v := 5) hx hb dX7_of_141 (by decide) ?_
      refine wc_s hC hml (kX7_at l G (wset Z 12 B) a1.toNatClampNeg 5) (cwS 2 hts gX7_of_X7_at rfl rfl rfl (by decide +kernel) ⟨Nat.le_of_ble_eq_true rfl, Nat.le_of_ble_eq_true rfl⟩) hW hS rfl rfl hl.1 (Nat.le_of_ble_eq_true rfl) dX7_of_142 (fun H locs hW hS => ?_)
      refine lv_re (y := nI (7 + 14 * a1.toNatClampNeg + 5)) rfl ?_
      refine wr_ald (kA := 0) hC hW (vM (by decide)) ce_m1 rfl (vp_in_nI (show (7 + 14 * a1.toNatClampNeg + 5) < 100 by omega) (by decide)) dX7_of_145 ?_
      refine lv_re (y := B 1 (7 + 14 * a1.toNatClampNeg + 5)) ((congrArg (B 1) (nI_clamp (by omega)))) ?_
      have hf : fX7_of B a1 a2 = B 1 (7 + 14 * a1.toNatClampNeg + 5) := by
        subst ex_1
        exact (if_neg c_2).trans ((if_neg c_3).trans ((if_neg c_4).trans ((if_neg c_5).trans ((if_neg c_6).trans ((if_neg c_7).trans ((if_pos c_10).trans rfl))))))
      exact we_i hC hr hlocks hf.symm rfl hW hS dX7_of_146
    by_cases c_11 : a2 = 6
    · refine lv_re c_11 ?_
      refine lv_tableIn (tgt := 147) (off := 136) hx hb dX7_of_11 (by decide) (by decide) (by decide) (by decide) ?_
      refine lv_aload_n hx hb dX7_of_147 rfl (lv_at hl 0 rfl) ?_
      refine lv_iload_n hx hb dX7_of_148 rfl (lv_at hl 1 rfl) ?_
      refine wc_i hC hml (kX7_rests l G Z B a1.toNatClampNeg (by first | assumption | omega)) (cwV 1 hts gX7_of_X7_rests rfl rfl rfl (by decide +kernel) ⟨Nat.le_of_ble_eq_true rfl, Nat.le_of_ble_eq_true rfl⟩) hW hS (vM (by decide)) ce_m0 rfl rfl rfl rfl hl.1 (Nat.le_of_ble_eq_true rfl) dX7_of_149 (fun H locs hW hS => ?_)
      refine lv_topi (fun x_12 ex_12 => ?_)
      refine lv_if_eq (tgt := 159) hx hb dX7_of_152 (by decide) (fun c_13 => ?_) (fun c_13 => ?_)
      · skip
        refine lv_aload_n hx hb dX7_of_159 rfl (lv_at hl 0 rfl) ?_
        refine wr_get hC hinRX7 hW (vM (by decide)) ce_m0 rfl 0 (by decide) hk0 rfl dX7_of_160 ?_
        refine lv_iload_n hx hb dX7_of_163 rfl (lv_at hl 1 rfl) ?_
        refine lv_bipush (v := 6) hx hb dX7_of_164 (by decide) ?_
        refine wc_s hC hml (kX7_at l G (wset Z 12 B) a1.toNatClampNeg 6) (cwS 2 hts gX7_of_X7_at rfl rfl rfl (by decide +kernel) ⟨Nat.le_of_ble_eq_true rfl, Nat.le_of_ble_eq_true rfl⟩) hW hS rfl rfl hl.1 (Nat.le_of_ble_eq_true rfl) dX7_of_166 (fun H locs hW hS => ?_)
        refine lv_re (y := nI (7 + 14 * a1.toNatClampNeg + 6)) rfl ?_
        refine wr_ald (kA := 0) hC hW (vM (by decide)) ce_m1 rfl (vp_in_nI (show (7 + 14 * a1.toNatClampNeg + 6) < 100 by omega) (by decide)) dX7_of_169 ?_
        refine lv_re (y := B 1 (7 + 14 * a1.toNatClampNeg + 6)) ((congrArg (B 1) (nI_clamp (by omega)))) ?_
        have hf : fX7_of B a1 a2 = B 1 (7 + 14 * a1.toNatClampNeg + 6) := by
          subst ex_12
          subst ex_1
          exact (if_neg c_2).trans ((if_neg c_3).trans ((if_neg c_4).trans ((if_neg c_5).trans ((if_neg c_6).trans ((if_neg c_7).trans ((if_neg c_10).trans ((if_pos c_11).trans ((if_pos c_13).trans rfl))))))))
        exact we_i hC hr hlocks hf.symm rfl hW hS dX7_of_170
      · skip
        refine lv_iconst (v := 0) hx hb dX7_of_155 (by decide) ?_
        refine lv_goto (tgt := 170) hx hb dX7_of_156 (by decide) ?_
        have hf : fX7_of B a1 a2 = 0 := by
          subst ex_12
          subst ex_1
          exact (if_neg c_2).trans ((if_neg c_3).trans ((if_neg c_4).trans ((if_neg c_5).trans ((if_neg c_6).trans ((if_neg c_7).trans ((if_neg c_10).trans ((if_pos c_11).trans ((if_neg c_13).trans rfl))))))))
        exact we_i hC hr hlocks hf.symm rfl hW hS dX7_of_170
    by_cases c_14 : a2 = 7
    · refine lv_re c_14 ?_
      refine lv_tableIn (tgt := 171) (off := 160) hx hb dX7_of_11 (by decide) (by decide) (by decide) (by decide) ?_
      refine lv_aload_n hx hb dX7_of_171 rfl (lv_at hl 0 rfl) ?_
      refine lv_iload_n hx hb dX7_of_172 rfl (lv_at hl 1 rfl) ?_
      refine wc_i hC hml (kX7_rests l G Z B a1.toNatClampNeg (by first | assumption | omega)) (cwV 1 hts gX7_of_X7_rests rfl rfl rfl (by decide +kernel) ⟨Nat.le_of_ble_eq_true rfl, Nat.le_of_ble_eq_true rfl⟩) hW hS (vM (by decide)) ce_m0 rfl rfl rfl rfl hl.1 (Nat.le_of_ble_eq_true rfl) dX7_of_173 (fun H locs hW hS => ?_)
      refine lv_topi (fun x_15 ex_15 => ?_)
      refine lv_if_eq (tgt := 184) hx hb dX7_of_176 (by decide) (fun c_16 => ?_) (fun c_16 => ?_)
      · skip
        refine lv_aload_n hx hb dX7_of_184 rfl (lv_at hl 0 rfl) ?_
        refine wr_get hC hinRX7 hW (vM (by decide)) ce_m0 rfl 0 (by decide) hk0 rfl dX7_of_185 ?_
        refine lv_iload_n hx hb dX7_of_188 rfl (lv_at hl 1 rfl) ?_
        refine lv_bipush (v := 7) hx hb dX7_of_189 (by decide) ?_
        refine wc_s hC hml (kX7_at l G (wset Z 12 B) a1.toNatClampNeg 7) (cwS 2 hts gX7_of_X7_at rfl rfl rfl (by decide +kernel) ⟨Nat.le_of_ble_eq_true rfl, Nat.le_of_ble_eq_true rfl⟩) hW hS rfl rfl hl.1 (Nat.le_of_ble_eq_true rfl) dX7_of_191 (fun H locs hW hS => ?_)
        refine lv_re (y := nI (7 + 14 * a1.toNatClampNeg + 7)) rfl ?_
        refine wr_ald (kA := 0) hC hW (vM (by decide)) ce_m1 rfl (vp_in_nI (show (7 + 14 * a1.toNatClampNeg + 7) < 100 by omega) (by decide)) dX7_of_194 ?_
        refine lv_re (y := B 1 (7 + 14 * a1.toNatClampNeg + 7)) ((congrArg (B 1) (nI_clamp (by omega)))) ?_
        refine lv_aload_n hx hb dX7_of_195 rfl (lv_at hl 0 rfl) ?_
        refine wr_get hC hinRX7 hW (vM (by decide)) ce_m0 rfl 0 (by decide) hk0 rfl dX7_of_196 ?_
        refine lv_iconst (v := 5) hx hb dX7_of_199 (by decide) ?_
        refine wr_ald (kA := 0) hC hW (vM (by decide)) ce_m1 rfl (vp_in_iff.mpr (by decide)) dX7_of_200 ?_
        refine lv_re (y := B 1 5) ((congrArg (B 1) (show (5 : Int32).toNatClampNeg = 5 by decide))) ?_
        refine lv_isub hx hb dX7_of_201 ?_
        have hf : fX7_of B a1 a2 = (B 1 (7 + 14 * a1.toNatClampNeg + 7)) - (B 1 5) := by
          subst ex_15
          subst ex_1
          exact (if_neg c_2).trans ((if_neg c_3).trans ((if_neg c_4).trans ((if_neg c_5).trans ((if_neg c_6).trans ((if_neg c_7).trans ((if_neg c_10).trans ((if_neg c_11).trans ((if_pos c_14).trans ((if_pos c_16).trans rfl)))))))))
        exact we_i hC hr hlocks hf.symm rfl hW hS dX7_of_202
      · skip
        refine lv_bipush (v := (-6)) hx hb dX7_of_179 (by decide) ?_
        refine lv_goto (tgt := 202) hx hb dX7_of_181 (by decide) ?_
        have hf : fX7_of B a1 a2 = (-6) := by
          subst ex_15
          subst ex_1
          exact (if_neg c_2).trans ((if_neg c_3).trans ((if_neg c_4).trans ((if_neg c_5).trans ((if_neg c_6).trans ((if_neg c_7).trans ((if_neg c_10).trans ((if_neg c_11).trans ((if_pos c_14).trans ((if_neg c_16).trans rfl)))))))))
        exact we_i hC hr hlocks hf.symm rfl hW hS dX7_of_202
    by_cases c_17 : a2 = 8
    · refine lv_re c_17 ?_
      refine lv_tableIn (tgt := 203) (off := 192) hx hb dX7_of_11 (by decide) (by decide) (by decide) (by decide) ?_
      refine lv_aload_n hx hb dX7_of_203 rfl (lv_at hl 0 rfl) ?_
      refine wr_get hC hinRX7 hW (vM (by decide)) ce_m0 rfl 0 (by decide) hk0 rfl dX7_of_204 ?_
      refine lv_iload_n hx hb dX7_of_207 rfl (lv_at hl 1 rfl) ?_
      refine lv_bipush (v := 8) hx hb dX7_of_208 (by decide) ?_
      refine wc_s hC hml (kX7_at l G (wset Z 12 B) a1.toNatClampNeg 8) (cwS 2 hts gX7_of_X7_at rfl rfl rfl (by decide +kernel) ⟨Nat.le_of_ble_eq_true rfl, Nat.le_of_ble_eq_true rfl⟩) hW hS rfl rfl hl.1 (Nat.le_of_ble_eq_true rfl) dX7_of_210 (fun H locs hW hS => ?_)
      refine lv_re (y := nI (7 + 14 * a1.toNatClampNeg + 8)) rfl ?_
      refine wr_ald (kA := 0) hC hW (vM (by decide)) ce_m1 rfl (vp_in_nI (show (7 + 14 * a1.toNatClampNeg + 8) < 100 by omega) (by decide)) dX7_of_213 ?_
      refine lv_re (y := B 1 (7 + 14 * a1.toNatClampNeg + 8)) ((congrArg (B 1) (nI_clamp (by omega)))) ?_
      have hf : fX7_of B a1 a2 = B 1 (7 + 14 * a1.toNatClampNeg + 8) := by
        subst ex_1
        exact (if_neg c_2).trans ((if_neg c_3).trans ((if_neg c_4).trans ((if_neg c_5).trans ((if_neg c_6).trans ((if_neg c_7).trans ((if_neg c_10).trans ((if_neg c_11).trans ((if_neg c_14).trans ((if_pos c_17).trans rfl)))))))))
      exact we_i hC hr hlocks hf.symm rfl hW hS dX7_of_214
    by_cases c_18 : a2 = 9
    · refine lv_re c_18 ?_
      refine lv_tableIn (tgt := 215) (off := 204) hx hb dX7_of_11 (by decide) (by decide) (by decide) (by decide) ?_
      refine lv_aload_n hx hb dX7_of_215 rfl (lv_at hl 0 rfl) ?_
      refine wr_get hC hinRX7 hW (vM (by decide)) ce_m0 rfl 0 (by decide) hk0 rfl dX7_of_216 ?_
      refine lv_iload_n hx hb dX7_of_219 rfl (lv_at hl 1 rfl) ?_
      refine lv_bipush (v := 12) hx hb dX7_of_220 (by decide) ?_
      refine wc_s hC hml (kX7_at l G (wset Z 12 B) a1.toNatClampNeg 12) (cwS 2 hts gX7_of_X7_at rfl rfl rfl (by decide +kernel) ⟨Nat.le_of_ble_eq_true rfl, Nat.le_of_ble_eq_true rfl⟩) hW hS rfl rfl hl.1 (Nat.le_of_ble_eq_true rfl) dX7_of_222 (fun H locs hW hS => ?_)
      refine lv_re (y := nI (7 + 14 * a1.toNatClampNeg + 12)) rfl ?_
      refine wr_ald (kA := 0) hC hW (vM (by decide)) ce_m1 rfl (vp_in_nI (show (7 + 14 * a1.toNatClampNeg + 12) < 100 by omega) (by decide)) dX7_of_225 ?_
      refine lv_re (y := B 1 (7 + 14 * a1.toNatClampNeg + 12)) ((congrArg (B 1) (nI_clamp (by omega)))) ?_
      have hf : fX7_of B a1 a2 = B 1 (7 + 14 * a1.toNatClampNeg + 12) := by
        subst ex_1
        exact (if_neg c_2).trans ((if_neg c_3).trans ((if_neg c_4).trans ((if_neg c_5).trans ((if_neg c_6).trans ((if_neg c_7).trans ((if_neg c_10).trans ((if_neg c_11).trans ((if_neg c_14).trans ((if_neg c_17).trans ((if_pos c_18).trans rfl))))))))))
      exact we_i hC hr hlocks hf.symm rfl hW hS dX7_of_226
    by_cases c_19 : a2 = 10
    · refine lv_re c_19 ?_
      refine lv_tableIn (tgt := 227) (off := 216) hx hb dX7_of_11 (by decide) (by decide) (by decide) (by decide) ?_
      refine lv_aload_n hx hb dX7_of_227 rfl (lv_at hl 0 rfl) ?_
      refine wr_get hC hinRX7 hW (vM (by decide)) ce_m0 rfl 0 (by decide) hk0 rfl dX7_of_228 ?_
      refine lv_iload_n hx hb dX7_of_231 rfl (lv_at hl 1 rfl) ?_
      refine lv_bipush (v := 13) hx hb dX7_of_232 (by decide) ?_
      refine wc_s hC hml (kX7_at l G (wset Z 12 B) a1.toNatClampNeg 13) (cwS 2 hts gX7_of_X7_at rfl rfl rfl (by decide +kernel) ⟨Nat.le_of_ble_eq_true rfl, Nat.le_of_ble_eq_true rfl⟩) hW hS rfl rfl hl.1 (Nat.le_of_ble_eq_true rfl) dX7_of_234 (fun H locs hW hS => ?_)
      refine lv_re (y := nI (7 + 14 * a1.toNatClampNeg + 13)) rfl ?_
      refine wr_ald (kA := 0) hC hW (vM (by decide)) ce_m1 rfl (vp_in_nI (show (7 + 14 * a1.toNatClampNeg + 13) < 100 by omega) (by decide)) dX7_of_237 ?_
      refine lv_re (y := B 1 (7 + 14 * a1.toNatClampNeg + 13)) ((congrArg (B 1) (nI_clamp (by omega)))) ?_
      have hf : fX7_of B a1 a2 = B 1 (7 + 14 * a1.toNatClampNeg + 13) := by
        subst ex_1
        exact (if_neg c_2).trans ((if_neg c_3).trans ((if_neg c_4).trans ((if_neg c_5).trans ((if_neg c_6).trans ((if_neg c_7).trans ((if_neg c_10).trans ((if_neg c_11).trans ((if_neg c_14).trans ((if_neg c_17).trans ((if_neg c_18).trans ((if_pos c_19).trans rfl)))))))))))
      exact we_i hC hr hlocks hf.symm rfl hW hS dX7_of_238
    by_cases c_20 : a2 = 11
    · refine lv_re c_20 ?_
      refine lv_tableIn (tgt := 239) (off := 228) hx hb dX7_of_11 (by decide) (by decide) (by decide) (by decide) ?_
      refine lv_aload_n hx hb dX7_of_239 rfl (lv_at hl 0 rfl) ?_
      refine lv_iload_n hx hb dX7_of_240 rfl (lv_at hl 1 rfl) ?_
      refine lv_aload_n hx hb dX7_of_241 rfl (lv_at hl 0 rfl) ?_
      refine wr_get hC hinRX7 hW (vM (by decide)) ce_m0 rfl 0 (by decide) hk0 rfl dX7_of_242 ?_
      refine lv_iload_n hx hb dX7_of_245 rfl (lv_at hl 1 rfl) ?_
      refine lv_iconst (v := 5) hx hb dX7_of_246 (by decide) ?_
      refine wc_s hC hml (kX7_at l G (wset Z 12 B) a1.toNatClampNeg 5) (cwS 2 hts gX7_of_X7_at rfl rfl rfl (by decide +kernel) ⟨Nat.le_of_ble_eq_true rfl, Nat.le_of_ble_eq_true rfl⟩) hW hS rfl rfl hl.1 (Nat.le_of_ble_eq_true rfl) dX7_of_247 (fun H locs hW hS => ?_)
      refine lv_re (y := nI (7 + 14 * a1.toNatClampNeg + 5)) rfl ?_
      refine wr_ald (kA := 0) hC hW (vM (by decide)) ce_m1 rfl (vp_in_nI (show (7 + 14 * a1.toNatClampNeg + 5) < 100 by omega) (by decide)) dX7_of_250 ?_
      refine lv_re (y := B 1 (7 + 14 * a1.toNatClampNeg + 5)) ((congrArg (B 1) (nI_clamp (by omega)))) ?_
      refine wc_i hC hml (kX7_says l G Z B a1.toNatClampNeg (B 1 (7 + 14 * a1.toNatClampNeg + 5)) (by first | assumption | omega)) (cwV 2 hts gX7_of_X7_says rfl rfl rfl (by decide +kernel) ⟨Nat.le_of_ble_eq_true rfl, Nat.le_of_ble_eq_true rfl⟩) hW hS (vM (by decide)) ce_m0 rfl rfl rfl rfl hl.1 (Nat.le_of_ble_eq_true rfl) dX7_of_251 (fun H locs hW hS => ?_)
      refine lv_topi (fun x_21 ex_21 => ?_)
      have hf : fX7_of B a1 a2 = x_21 := by
        subst ex_21
        subst ex_1
        exact (if_neg c_2).trans ((if_neg c_3).trans ((if_neg c_4).trans ((if_neg c_5).trans ((if_neg c_6).trans ((if_neg c_7).trans ((if_neg c_10).trans ((if_neg c_11).trans ((if_neg c_14).trans ((if_neg c_17).trans ((if_neg c_18).trans ((if_neg c_19).trans ((if_pos c_20).trans rfl))))))))))))
      exact we_i hC hr hlocks hf.symm rfl hW hS dX7_of_254
    refine lv_tableOut (tgt := 255) hx hb dX7_of_11 (by
      have hz : ∀ k : Int32, ¬ a2 = k → ¬ a2.toInt = k.toInt := fun k h q => h (Int32.toInt_inj.mp q)
      have c_3z : ¬ a2.toInt = 0 := fun q => hz 0 c_3 (q.trans (by decide))
      have c_4z : ¬ a2.toInt = 1 := fun q => hz 1 c_4 (q.trans (by decide))
      have c_5z : ¬ a2.toInt = 2 := fun q => hz 2 c_5 (q.trans (by decide))
      have c_6z : ¬ a2.toInt = 3 := fun q => hz 3 c_6 (q.trans (by decide))
      have c_7z : ¬ a2.toInt = 4 := fun q => hz 4 c_7 (q.trans (by decide))
      have c_10z : ¬ a2.toInt = 5 := fun q => hz 5 c_10 (q.trans (by decide))
      have c_11z : ¬ a2.toInt = 6 := fun q => hz 6 c_11 (q.trans (by decide))
      have c_14z : ¬ a2.toInt = 7 := fun q => hz 7 c_14 (q.trans (by decide))
      have c_17z : ¬ a2.toInt = 8 := fun q => hz 8 c_17 (q.trans (by decide))
      have c_18z : ¬ a2.toInt = 9 := fun q => hz 9 c_18 (q.trans (by decide))
      have c_19z : ¬ a2.toInt = 10 := fun q => hz 10 c_19 (q.trans (by decide))
      have c_20z : ¬ a2.toInt = 11 := fun q => hz 11 c_20 (q.trans (by decide))
      omega) (by decide) ?_
    refine lv_bipush (v := (-2)) hx hb dX7_of_255 (by decide) ?_
    have hf : fX7_of B a1 a2 = (-2) := by
      subst ex_1
      exact (if_neg c_2).trans ((if_neg c_3).trans ((if_neg c_4).trans ((if_neg c_5).trans ((if_neg c_6).trans ((if_neg c_7).trans ((if_neg c_10).trans ((if_neg c_11).trans ((if_neg c_14).trans ((if_neg c_17).trans ((if_neg c_18).trans ((if_neg c_19).trans ((if_neg c_20).trans rfl))))))))))))
    exact we_i hC hr hlocks hf.symm rfl hW hS dX7_of_257
  · skip
    refine lv_iconst (v := (-1)) hx hb dX7_of_8 (by decide) ?_
    have hf : fX7_of B a1 a2 = (-1) := by
      subst ex_1
      exact (if_pos c_2).trans rfl
    exact we_i hC hr hlocks hf.symm rfl hW hS dX7_of_9
def fX7_waiting (B : wB) (a1 : Int32) (a2 : Int32) : Int32 :=
  let x_1 := fX7_isShaft B a1
  if x_1 = 0 then (-1)
  else let x_3 := fX7_in a2 0 ((B 1 (7 + 14 * a1.toNatClampNeg + 8)) - 1)
  if x_3 = 0 then (-1)
  else (B 1 (7 + 14 * a1.toNatClampNeg + (9 + a2.toNatClampNeg))) + 1000000
abbrev rX7_waiting : Room := { frames := 2, cells := 0, slots := 0, locals := 43 }
set_option maxHeartbeats 4000000 in
set_option maxRecDepth 100000 in
theorem kX7_waiting (l : Launch) (G : wG) (Z : wZ) (B : wB) (a1 : Int32) (a2 : Int32) (hm : 0 ≤ (B 1 6).toInt ∧ (B 1 6).toInt ≤ 4) (hw : ∀ k : Nat, k < 4 → ¬ B 1 (7 + 14 * k + 8) < 0 ∧ (B 1 (7 + 14 * k + 8)).toInt ≤ 3) : mI l yX7_waiting wsX7_waiting rX7_waiting G [.ref (G.2.2.1 12 0), .int a1, .int a2] (wset Z 12 B) (fX7_waiting B a1 a2) (wset Z 12 B) := by
  refine Met.ofW (cc := cX7_waiting) (maxL := 3) (ret := (some .int)) (by decide) rfl ?_
  intro p e s m args below meth c s₁ B0 hml hv
  obtain ⟨rfl, hW, hK, hL⟩ := hv
  have hlocks := B0.notSynchronized
  have hr := B0.returns
  have hC : wX p s m c cX7_waiting _ wsX7_waiting RX7 G := ⟨B0.exec, B0.bytes, findClass_of_methodNamed B0.named, atoms_spec (ws := wsX7_waiting) B0.pre, hK, hL⟩
  have hx := hC.1
  have hb := hC.2.1
  have hts := hC.2.2.2.1
  have hinRX7 : ∀ w ∈ wsX70, w ∈ wsX7_waiting := by decide +kernel
  have hk0 := hts (.fieldLink RX7 7 "RampShaftsModel" "s" "[I") (by decide +kernel)
  have hk1 := hts (.constant RX7 95 (1000000)) (by decide +kernel)
  have hS : va_S (wA G) s.heap s.heap [] := va_S.rf
  have hl := lv_entry ([.ref (G.2.2.1 12 0), .int a1, .int a2]) (n := 3) (Nat.le_of_ble_eq_true rfl)
  rw [lg_entry_eq]
  generalize (lg_sl ([.ref (G.2.2.1 12 0), .int a1, .int a2]) ++ List.replicate (3 - (lg_sl ([.ref (G.2.2.1 12 0), .int a1, .int a2])).length) Slot.unset).toArray = ls at hl ⊢
  have hl : lv_has ls 3 [(0, .ref (G.2.2.1 12 0)), (1, .int a1), (2, .int a2)] := hl
  refine lv_aload_n hx hb dX7_waiting_0 rfl (lv_at hl 0 rfl) ?_
  refine lv_iload_n hx hb dX7_waiting_1 rfl (lv_at hl 1 rfl) ?_
  refine wc_i hC hml (kX7_isShaft l G Z B a1) (cwV 1 hts gX7_waiting_X7_isShaft rfl rfl rfl (by decide +kernel) ⟨Nat.le_of_ble_eq_true rfl, Nat.le_of_ble_eq_true rfl⟩) hW hS (vM (by decide)) ce_m0 rfl rfl rfl rfl hl.1 (Nat.le_of_ble_eq_true rfl) dX7_waiting_2 (fun H locs hW hS => ?_)
  refine lv_topi (fun x_1 ex_1 => ?_)
  refine lv_if_eq (tgt := 29) hx hb dX7_waiting_5 (by decide) (fun c_2 => ?_) (fun c_2 => ?_)
  · skip
    refine lv_iconst (v := (-1)) hx hb dX7_waiting_29 (by decide) ?_
    have hf : fX7_waiting B a1 a2 = (-1) := by
      subst ex_1
      exact (if_pos c_2).trans rfl
    exact we_i hC hr hlocks hf.symm rfl hW hS dX7_waiting_30
  · skip
    have hs9 := sh_ok hm (by rw [← ex_1]; exact c_2)
    have ek9 := nI_self hs9.1
    have hk9 := hs9.2.1
    rw [ek9] at hl
    refine lv_iload_n hx hb dX7_waiting_8 rfl (lv_at hl 2 rfl) ?_
    refine lv_iconst (v := 0) hx hb dX7_waiting_9 (by decide) ?_
    refine lv_aload_n hx hb dX7_waiting_10 rfl (lv_at hl 0 rfl) ?_
    refine wr_get hC hinRX7 hW (vM (by decide)) ce_m0 rfl 0 (by decide) hk0 rfl dX7_waiting_11 ?_
    refine lv_iload_n hx hb dX7_waiting_14 rfl (lv_at hl 1 rfl) ?_
    refine lv_bipush (v := 8) hx hb dX7_waiting_15 (by decide) ?_
    refine wc_s hC hml (kX7_at l G (wset Z 12 B) a1.toNatClampNeg 8) (cwS 2 hts gX7_waiting_X7_at rfl rfl rfl (by decide +kernel) ⟨Nat.le_of_ble_eq_true rfl, Nat.le_of_ble_eq_true rfl⟩) hW hS rfl rfl hl.1 (Nat.le_of_ble_eq_true rfl) dX7_waiting_17 (fun H locs hW hS => ?_)
    refine lv_re (y := nI (7 + 14 * a1.toNatClampNeg + 8)) rfl ?_
    refine wr_ald (kA := 0) hC hW (vM (by decide)) ce_m1 rfl (vp_in_nI (show (7 + 14 * a1.toNatClampNeg + 8) < 100 by omega) (by decide)) dX7_waiting_20 ?_
    refine lv_re (y := B 1 (7 + 14 * a1.toNatClampNeg + 8)) ((congrArg (B 1) (nI_clamp (by omega)))) ?_
    refine lv_iconst (v := 1) hx hb dX7_waiting_21 (by decide) ?_
    refine lv_isub hx hb dX7_waiting_22 ?_
    refine wc_s hC hml (kX7_in l G (wset Z 12 B) a2 0 ((B 1 (7 + 14 * a1.toNatClampNeg + 8)) - 1)) (cwS 3 hts gX7_waiting_X7_in rfl rfl rfl (by decide +kernel) ⟨Nat.le_of_ble_eq_true rfl, Nat.le_of_ble_eq_true rfl⟩) hW hS rfl rfl hl.1 (Nat.le_of_ble_eq_true rfl) dX7_waiting_23 (fun H locs hW hS => ?_)
    refine lv_topi (fun x_3 ex_3 => ?_)
    refine lv_if_ne (tgt := 31) hx hb dX7_waiting_26 (by decide) (fun c_4 => ?_) (fun c_4 => ?_)
    · skip
      have hi9 := in_ok (by rw [← ex_3]; exact c_4)
      have hw9 := (hw _ hk9)
      have hj9 := tn_of (t0 ▸ hi9.1)
      rw [ti_sub (by rw [t1]; have := hw9.1; rw [Int32.lt_iff_toInt_lt, t0] at this; omega) (by rw [t1]; omega), t1] at hi9
      have hl9 : a2.toNatClampNeg < 3 := by omega
      have el9 := nI_self hj9.1
      rw [el9] at hl
      refine lv_aload_n hx hb dX7_waiting_31 rfl (lv_at hl 0 rfl) ?_
      refine wr_get hC hinRX7 hW (vM (by decide)) ce_m0 rfl 0 (by decide) hk0 rfl dX7_waiting_32 ?_
      refine lv_iload_n hx hb dX7_waiting_35 rfl (lv_at hl 1 rfl) ?_
      refine lv_bipush (v := 9) hx hb dX7_waiting_36 (by decide) ?_
      refine lv_iload_n hx hb dX7_waiting_38 rfl (lv_at hl 2 rfl) ?_
      refine lv_iadd hx hb dX7_waiting_39 ?_
      refine lv_re (y := nI (9 + a2.toNatClampNeg)) (nI_add 9 a2.toNatClampNeg) ?_
      refine wc_s hC hml (kX7_at l G (wset Z 12 B) a1.toNatClampNeg (9 + a2.toNatClampNeg)) (cwS 2 hts gX7_waiting_X7_at rfl rfl rfl (by decide +kernel) ⟨Nat.le_of_ble_eq_true rfl, Nat.le_of_ble_eq_true rfl⟩) hW hS rfl rfl hl.1 (Nat.le_of_ble_eq_true rfl) dX7_waiting_40 (fun H locs hW hS => ?_)
      refine lv_re (y := nI (7 + 14 * a1.toNatClampNeg + (9 + a2.toNatClampNeg))) rfl ?_
      refine wr_ald (kA := 0) hC hW (vM (by decide)) ce_m1 rfl (vp_in_nI (show (7 + 14 * a1.toNatClampNeg + (9 + a2.toNatClampNeg)) < 100 by omega) (by decide)) dX7_waiting_43 ?_
      refine lv_re (y := B 1 (7 + 14 * a1.toNatClampNeg + (9 + a2.toNatClampNeg))) ((congrArg (B 1) (nI_clamp (by omega)))) ?_
      refine lv_ldc (v := 1000000) hx hb hC.2.2.1 hk1 dX7_waiting_44 ?_
      refine lv_iadd hx hb dX7_waiting_46 ?_
      have hf : fX7_waiting B a1 a2 = (B 1 (7 + 14 * a1.toNatClampNeg + (9 + a2.toNatClampNeg))) + 1000000 := by
        subst ex_3
        subst ex_1
        exact (if_neg c_2).trans ((if_neg c_4).trans rfl)
      exact we_i hC hr hlocks hf.symm rfl hW hS dX7_waiting_47
    · skip
      refine lv_iconst (v := (-1)) hx hb dX7_waiting_29 (by decide) ?_
      have hf : fX7_waiting B a1 a2 = (-1) := by
        subst ex_3
        subst ex_1
        exact (if_neg c_2).trans ((if_pos c_4).trans rfl)
      exact we_i hC hr hlocks hf.symm rfl hW hS dX7_waiting_30

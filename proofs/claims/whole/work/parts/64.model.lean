def fX7_set (B : wB) (a1 : Int32) (a2 : Int32) : wB × Int32 :=
  let x_1 := fX7_in a1 0 4
  if x_1 = 0 then (B, (-2))
  else let x_3 := fX7_least a1
  let x_4 := fX7_most a1
  let x_5 := fX7_in a2 x_3 x_4
  if x_5 = 0 then (B, (-2))
  else let B_7 := fX7_records B
  let x_8 := B_7 1 a1.toNatClampNeg
  ((bput B_7 1 a1.toNatClampNeg a2), x_8)
abbrev rX7_set : Room := { frames := 1, cells := 0, slots := 0, locals := 22 }
set_option maxHeartbeats 4000000 in
set_option maxRecDepth 100000 in
theorem kX7_set (l : Launch) (G : wG) (Z : wZ) (B : wB) (a1 : Int32) (a2 : Int32) (hkn : 0 ≤ (B 0 0).toInt ∧ (B 0 0).toInt ≤ 6) : mI l yX7_set wsX7_set rX7_set G [.ref (G.2.2.1 12 0), .int a1, .int a2] (wset Z 12 B) (fX7_set B a1 a2).2 (wset Z 12 (fX7_set B a1 a2).1) := by
  refine Met.ofW (cc := cX7_set) (maxL := 4) (ret := (some .int)) (by decide) rfl ?_
  intro p e s m args below meth c s₁ B0 hml hv
  obtain ⟨rfl, hW, hK, hL⟩ := hv
  have hlocks := B0.notSynchronized
  have hr := B0.returns
  have hC : wX p s m c cX7_set _ wsX7_set RX7 G := ⟨B0.exec, B0.bytes, findClass_of_methodNamed B0.named, atoms_spec (ws := wsX7_set) B0.pre, hK, hL⟩
  have hx := hC.1
  have hb := hC.2.1
  have hts := hC.2.2.2.1
  have hinRX7 : ∀ w ∈ wsX70, w ∈ wsX7_set := by decide +kernel
  have hk0 := hts (.fieldLink RX7 7 "RampShaftsModel" "s" "[I") (by decide +kernel)
  have hS : va_S (wA G) s.heap s.heap [] := va_S.rf
  have hl := lv_entry ([.ref (G.2.2.1 12 0), .int a1, .int a2]) (n := 4) (Nat.le_of_ble_eq_true rfl)
  rw [lg_entry_eq]
  generalize (lg_sl ([.ref (G.2.2.1 12 0), .int a1, .int a2]) ++ List.replicate (4 - (lg_sl ([.ref (G.2.2.1 12 0), .int a1, .int a2])).length) Slot.unset).toArray = ls at hl ⊢
  have hl : lv_has ls 4 [(0, .ref (G.2.2.1 12 0)), (1, .int a1), (2, .int a2)] := hl
  refine lv_iload_n hx hb dX7_set_0 rfl (lv_at hl 1 rfl) ?_
  refine lv_iconst (v := 0) hx hb dX7_set_1 (by decide) ?_
  refine lv_iconst (v := 4) hx hb dX7_set_2 (by decide) ?_
  refine wc_s hC hml (kX7_in l G (wset Z 12 B) a1 0 4) (cwS 3 hts gX7_set_X7_in rfl rfl rfl (by decide +kernel) ⟨Nat.le_of_ble_eq_true rfl, Nat.le_of_ble_eq_true rfl⟩) hW hS rfl rfl hl.1 (Nat.le_of_ble_eq_true rfl) dX7_set_3 (fun H locs hW hS => ?_)
  refine lv_topi (fun x_1 ex_1 => ?_)
  refine lv_if_eq (tgt := 24) hx hb dX7_set_6 (by decide) (fun c_2 => ?_) (fun c_2 => ?_)
  · skip
    refine lv_bipush (v := (-2)) hx hb dX7_set_24 (by decide) ?_
    have hf : fX7_set B a1 a2 = (B, (-2)) := by
      subst ex_1
      exact (if_pos c_2).trans rfl
    exact we_i hC hr hlocks (congrArg Prod.snd hf).symm (congrArg (fun u => wset Z 12 u.1) hf).symm hW hS dX7_set_26
  · skip
    refine lv_iload_n hx hb dX7_set_9 rfl (lv_at hl 2 rfl) ?_
    refine lv_iload_n hx hb dX7_set_10 rfl (lv_at hl 1 rfl) ?_
    refine wc_s hC hml (kX7_least l G (wset Z 12 B) a1) (cwS 1 hts gX7_set_X7_least rfl rfl rfl (by decide +kernel) ⟨Nat.le_of_ble_eq_true rfl, Nat.le_of_ble_eq_true rfl⟩) hW hS rfl rfl hl.1 (Nat.le_of_ble_eq_true rfl) dX7_set_11 (fun H locs hW hS => ?_)
    refine lv_topi (fun x_3 ex_3 => ?_)
    refine lv_iload_n hx hb dX7_set_14 rfl (lv_at hl 1 rfl) ?_
    refine wc_s hC hml (kX7_most l G (wset Z 12 B) a1) (cwS 1 hts gX7_set_X7_most rfl rfl rfl (by decide +kernel) ⟨Nat.le_of_ble_eq_true rfl, Nat.le_of_ble_eq_true rfl⟩) hW hS rfl rfl hl.1 (Nat.le_of_ble_eq_true rfl) dX7_set_15 (fun H locs hW hS => ?_)
    refine lv_topi (fun x_4 ex_4 => ?_)
    refine wc_s hC hml (kX7_in l G (wset Z 12 B) a2 x_3 x_4) (cwS 3 hts gX7_set_X7_in rfl rfl rfl (by decide +kernel) ⟨Nat.le_of_ble_eq_true rfl, Nat.le_of_ble_eq_true rfl⟩) hW hS rfl rfl hl.1 (Nat.le_of_ble_eq_true rfl) dX7_set_18 (fun H locs hW hS => ?_)
    refine lv_topi (fun x_5 ex_5 => ?_)
    refine lv_if_ne (tgt := 27) hx hb dX7_set_21 (by decide) (fun c_6 => ?_) (fun c_6 => ?_)
    · skip
      have hi9 := in_ok (by rw [← ex_1]; exact c_2)
      have hj9 := tn_of (t0 ▸ hi9.1)
      have h4 : (4 : Int32).toInt = 4 := by decide
      have hl9 : a1.toNatClampNeg < 5 := by omega
      have el9 := nI_self hj9.1
      rw [el9] at hl
      refine lv_aload_n hx hb dX7_set_27 rfl (lv_at hl 0 rfl) ?_
      refine wc_v hC hml (kX7_records l G Z B hkn) (cwV 0 hts gX7_set_X7_records rfl rfl rfl (by decide +kernel) ⟨Nat.le_of_ble_eq_true rfl, Nat.le_of_ble_eq_true rfl⟩) hW hS (vM (by decide)) ce_m0 rfl rfl rfl rfl hl.1 (Nat.le_of_ble_eq_true rfl) dX7_set_28 (fun H locs hW hS => ?_)
      obtain ⟨B_7, eB_7⟩ : ∃ y, y = fX7_records B := ⟨_, rfl⟩
      rw [← eB_7] at hW
      refine lv_aload_n hx hb dX7_set_31 rfl (lv_at hl 0 rfl) ?_
      refine wr_get hC hinRX7 hW (vM (by decide)) ce_m0 rfl 0 (by decide) hk0 rfl dX7_set_32 ?_
      refine lv_iload_n hx hb dX7_set_35 rfl (lv_at hl 1 rfl) ?_
      refine wr_ald (kA := 0) hC hW (vM (by decide)) ce_m1 rfl (vp_in_nI (show a1.toNatClampNeg < 100 by omega) (by decide)) dX7_set_36 ?_
      refine lv_re (y := B_7 1 a1.toNatClampNeg) ((congrArg (B_7 1) (nI_clamp (by omega)))) ?_
      refine lv_topi (fun x_8 ex_8 => ?_)
      refine lv_istore_n (lv' := [(3, .int x_8), (0, .ref (G.2.2.1 12 0)), (1, .int (nI a1.toNatClampNeg)), (2, .int a2)]) hx hb dX7_set_37 rfl hl (by decide) rfl (fun ls hl => ?_)
      refine lv_aload_n hx hb dX7_set_38 rfl (lv_at hl 1 rfl) ?_
      refine wr_get hC hinRX7 hW (vM (by decide)) ce_m0 rfl 0 (by decide) hk0 rfl dX7_set_39 ?_
      refine lv_iload_n hx hb dX7_set_42 rfl (lv_at hl 2 rfl) ?_
      refine lv_iload_n hx hb dX7_set_43 rfl (lv_at hl 3 rfl) ?_
      refine wr_ast (kA := 0) (Z' := wset Z 12 (bput B_7 1 (nI a1.toNatClampNeg).toNatClampNeg a2)) hC hW hS (vM (by decide)) ce_m1 rfl (vp_in_nI (show a1.toNatClampNeg < 100 by omega) (by decide)) wset_off pu_m1 dX7_set_44 (fun H locs hW hS => ?_)
      rw [nI_clamp (show a1.toNatClampNeg < 2 ^ 31 by omega)] at hW
      refine lv_iload_n hx hb dX7_set_45 rfl (lv_at hl 0 rfl) ?_
      have hf : fX7_set B a1 a2 = ((bput B_7 1 a1.toNatClampNeg a2), x_8) := by
        subst ex_8
        subst eB_7
        subst ex_5
        subst ex_4
        subst ex_3
        subst ex_1
        exact (if_neg c_2).trans ((if_neg c_6).trans rfl)
      exact we_i hC hr hlocks (congrArg Prod.snd hf).symm (congrArg (fun u => wset Z 12 u.1) hf).symm hW hS dX7_set_46
    · skip
      refine lv_bipush (v := (-2)) hx hb dX7_set_24 (by decide) ?_
      have hf : fX7_set B a1 a2 = (B, (-2)) := by
        subst ex_5
        subst ex_4
        subst ex_3
        subst ex_1
        exact (if_neg c_2).trans ((if_pos c_6).trans rfl)
      exact we_i hC hr hlocks (congrArg Prod.snd hf).symm (congrArg (fun u => wset Z 12 u.1) hf).symm hW hS dX7_set_26
def gX7_undo (C : wB) : wB × Int32 := (rcp C 1 0 (fun q => C 3 (100 * (C 0 0).toNatClampNeg + q)) 100, C 0 0)
def fX7_undo (B : wB) : wB × Int32 := if B 0 0 = 0 then (B, -5) else gX7_undo (bput B 0 0 (B 0 0 - 1))
abbrev rX7_undo : Room := { frames := 0, cells := 0, slots := 0, locals := 0 }
set_option maxHeartbeats 4000000 in
set_option maxRecDepth 100000 in
theorem kX7_undo (l : Launch) (G : wG) (Z : wZ) (B : wB)  (hkn : 0 ≤ (B 0 0).toInt ∧ (B 0 0).toInt ≤ 6) : mI l yX7_undo wsX7_undo rX7_undo G [.ref (G.2.2.1 12 0)] (wset Z 12 B) (fX7_undo B).2 (wset Z 12 (fX7_undo B).1) := by
  refine Met.ofW (cc := cX7_undo) (maxL := 2) (ret := (some .int)) (by decide) rfl ?_
  intro p e s m args below meth c s₁ B0 hml hv
  obtain ⟨rfl, hW, hK, hL⟩ := hv
  have hlocks := B0.notSynchronized
  have hr := B0.returns
  have hC : wX p s m c cX7_undo _ wsX7_undo RX7 G := ⟨B0.exec, B0.bytes, findClass_of_methodNamed B0.named, atoms_spec (ws := wsX7_undo) B0.pre, hK, hL⟩
  have hx := hC.1
  have hb := hC.2.1
  have hts := hC.2.2.2.1
  have hinRX7 : ∀ w ∈ wsX70, w ∈ wsX7_undo := by decide +kernel
  have hk0 := hts (.fieldLink RX7 41 "RampShaftsModel" "known" "I") (by decide +kernel)
  have hk1 := hts (.fieldLink RX7 7 "RampShaftsModel" "s" "[I") (by decide +kernel)
  have hk2 := hts (.fieldLink RX7 16 "RampShaftsModel" "before" "[I") (by decide +kernel)
  have hS : va_S (wA G) s.heap s.heap [] := va_S.rf
  have hl := lv_entry ([.ref (G.2.2.1 12 0)]) (n := 2) (Nat.le_of_ble_eq_true rfl)
  rw [lg_entry_eq]
  generalize (lg_sl ([.ref (G.2.2.1 12 0)]) ++ List.replicate (2 - (lg_sl ([.ref (G.2.2.1 12 0)])).length) Slot.unset).toArray = ls at hl ⊢
  have hl : lv_has ls 2 [(0, .ref (G.2.2.1 12 0))] := hl
  obtain ⟨R, hR⟩ : ∃ R, R = fX7_undo B := ⟨_, rfl⟩
  rw [← hR]
  unfold fX7_undo at hR
  refine lv_aload_n hx hb dX7_undo_0 rfl (lv_at hl 0 rfl) ?_
  refine wr_get hC hinRX7 hW (vM (by decide)) ce_m0 rfl 3 (by decide) hk0 rfl dX7_undo_1 ?_
  refine lv_if_ne (tgt := 10) hx hb dX7_undo_4 (by decide) (fun c_1 => ?_) (fun c_1 => ?_)
  · skip
    try rw [if_neg c_1] at hR
    refine lv_aload_n hx hb dX7_undo_10 rfl (lv_at hl 0 rfl) ?_
    refine lv_dup hx hb dX7_undo_11 rfl ?_
    refine wr_get hC hinRX7 hW (vM (by decide)) ce_m0 rfl 3 (by decide) hk0 rfl dX7_undo_12 ?_
    refine lv_iconst (v := 1) hx hb dX7_undo_15 (by decide) ?_
    refine lv_isub hx hb dX7_undo_16 ?_
    refine wr_put (Z' := wset Z 12 (bput B 0 0 ((B 0 0) - 1))) (v := .int ((B 0 0) - 1)) hC hinRX7 tyX7 tyX7_ok nmX7 hW hS (vM (by decide)) ce_m0 rfl 3 (by decide) hk0 rfl (tyX7_ok 3 (by decide)) rfl rfl (Nat.le_of_ble_eq_true rfl) wset_off pu_m0_0 dX7_undo_17 (fun H locs hW hS => ?_)
    have hz9 : ¬ (B 0 0).toInt = 0 := fun e9 => c_1 (Int32.toInt_inj.mp (e9.trans (by decide)))
    have hs9 : (B 0 0 - 1).toInt = (B 0 0).toInt - 1 := (ti_sub (by rw [t1]; omega) (by rw [t1]; omega)).trans (by rw [t1])
    have hn9 := tn_of (show 0 ≤ (B 0 0 - 1).toInt by omega)
    obtain ⟨m9, em9⟩ : ∃ y, y = (B 0 0 - 1).toNatClampNeg := ⟨_, rfl⟩
    have hm9 : (bput B 0 0 (B 0 0 - 1)) 0 0 = nI m9 := by rw [bput_h, em9]; exact nI_self hn9.1
    have hm8 : m9 ≤ 5 := by omega
    have hq9 : ((bput B 0 0 (B 0 0 - 1)) 0 0).toNatClampNeg = m9 := by rw [hm9, nI_clamp (by omega)]
    unfold gX7_undo at hR
    rw [hq9] at hR
    obtain ⟨C, eC⟩ : ∃ y, y = (bput B 0 0 (B 0 0 - 1)) := ⟨_, rfl⟩
    rw [← eC] at hR hW hm9
    rw [show wset Z 12 C = wset Z 12 (rcp C 1 0 (fun q => C 3 (100 * m9 + q)) 0) from by rw [rcp_0]] at hW
    refine lv_iconst (v := 0) hx hb dX7_undo_20 (by decide) ?_
    refine lv_istore_n (lv' := [(1, .int 0), (0, .ref (G.2.2.1 12 0))]) hx hb dX7_undo_21 rfl hl (by decide) rfl (fun ls hl => ?_)
    have hlp_2 : ∀ (u : Nat) (k : Nat), (hk : k + u = 100) → R = (rcp C 1 0 (fun q => C 3 (100 * m9 + q)) 100, C 0 0) → ∀ (H : Heap) (locs : List Loc) (ls : Array Slot), wW G (wset Z 12 (rcp C 1 0 (fun q => C 3 (100 * m9 + q)) k)) H → va_S (wA G) s.heap H locs → lv_has ls 2 [(0, .ref (G.2.2.1 12 0)), (1, .int (nI k))] → W p l e (headSpec wsX7_undo rX7_undo).room s m ([.ref (G.2.2.1 12 0)] : List Value).toArray below meth c H locs 0 0 (qI below ([.ref (G.2.2.1 12 0)] : List Value).toArray s G R.2 (wset Z 12 R.1)) (F0 m 22 ls []) := by
      intro u
      induction u with
      | zero =>
        intro k hk hR H locs ls hW hS hl
        have hk4 : k = 100 := by omega
        rw [hk4] at hW
        refine lv_iload_n hx hb dX7_undo_22 rfl (lv_at hl 1 rfl) ?_
        refine lv_bipush (v := 100) hx hb dX7_undo_23 (by decide) ?_
        refine lv_icmp_ge (tgt := 54) hx hb dX7_undo_25 (by decide) (fun c_3 => ?_) (fun c_3 => ?_)
        · skip
          refine lv_aload_n hx hb dX7_undo_54 rfl (lv_at hl 0 rfl) ?_
          refine wr_get hC hinRX7 hW (vM (by decide)) ce_m0 rfl 3 (by decide) hk0 rfl dX7_undo_55 ?_
          refine lv_re (rcp_o (by decide)) ?_
          exact we_i hC hr hlocks (congrArg Prod.snd hR).symm (congrArg (fun u => wset Z 12 u.1) hR).symm hW hS dX7_undo_58
        · exact absurd ((nI_leI (a := 100) (by decide) (by omega)).mpr (by omega)) c_3
      | succ u ih =>
        intro k hk hR H locs ls hW hS hl
        refine lv_iload_n hx hb dX7_undo_22 rfl (lv_at hl 1 rfl) ?_
        refine lv_bipush (v := 100) hx hb dX7_undo_23 (by decide) ?_
        refine lv_icmp_ge (tgt := 54) hx hb dX7_undo_25 (by decide) (fun c_4 => ?_) (fun c_4 => ?_)
        · exact absurd ((nI_leI (a := 100) (by decide) (by omega)).mp c_4) (by omega)
        · skip
          refine lv_aload_n hx hb dX7_undo_28 rfl (lv_at hl 0 rfl) ?_
          refine wr_get hC hinRX7 hW (vM (by decide)) ce_m0 rfl 0 (by decide) hk1 rfl dX7_undo_29 ?_
          refine lv_iload_n hx hb dX7_undo_32 rfl (lv_at hl 1 rfl) ?_
          refine lv_aload_n hx hb dX7_undo_33 rfl (lv_at hl 0 rfl) ?_
          refine wr_get hC hinRX7 hW (vM (by decide)) ce_m0 rfl 2 (by decide) hk2 rfl dX7_undo_34 ?_
          refine lv_bipush (v := 100) hx hb dX7_undo_37 (by decide) ?_
          refine lv_aload_n hx hb dX7_undo_39 rfl (lv_at hl 0 rfl) ?_
          refine wr_get hC hinRX7 hW (vM (by decide)) ce_m0 rfl 3 (by decide) hk0 rfl dX7_undo_40 ?_
          refine lv_re ((rcp_o (by decide)).trans hm9) ?_
          refine lv_imul hx hb dX7_undo_43 ?_
          refine lv_re (y := nI (100 * m9)) (pk_mul 100 m9) ?_
          refine lv_iload_n hx hb dX7_undo_44 rfl (lv_at hl 1 rfl) ?_
          refine lv_iadd hx hb dX7_undo_45 ?_
          refine lv_re (y := nI ((100 * m9) + k)) (nI_add (100 * m9) k) ?_
          refine wr_ald (kA := 0) hC hW (vM (by decide)) ce_m3 rfl (vp_in_nI (show ((100 * m9) + k) < 600 by omega) (by decide)) dX7_undo_46 ?_
          refine lv_re (y := (rcp C 1 0 (fun q => C 3 (100 * m9 + q)) k) 3 ((100 * m9) + k)) ((congrArg ((rcp C 1 0 (fun q => C 3 (100 * m9 + q)) k) 3) (nI_clamp (by omega)))) ?_
          refine wr_ast (kA := 0) (Z' := wset Z 12 (bput (rcp C 1 0 (fun q => C 3 (100 * m9 + q)) k) 1 (nI k).toNatClampNeg ((rcp C 1 0 (fun q => C 3 (100 * m9 + q)) k) 3 ((100 * m9) + k)))) hC hW hS (vM (by decide)) ce_m1 rfl (vp_in_nI (show k < 100 by omega) (by decide)) wset_off pu_m1 dX7_undo_47 (fun H locs hW hS => ?_)
          rw [nI_clamp (show k < 2 ^ 31 by omega)] at hW
          refine lv_iinc (v := nI (k + 1)) (lv' := [(1, .int (nI (k + 1))), (0, .ref (G.2.2.1 12 0))]) hx hb dX7_undo_48 hl (k := 1) rfl (nI_1 _) (by decide) rfl (fun ls hl => ?_)
          refine lv_goto (tgt := 22) hx hb dX7_undo_51 (by decide) ?_
          rw [rcp_s (f := fun q => C 3 (100 * m9 + q)) (n := k) (o := 0) (by omega) (show (rcp C 1 0 (fun q => C 3 (100 * m9 + q)) k) 3 (100 * m9 + k) = C 3 (100 * m9 + k) from rcp_o (by decide))] at hW
          exact ih (k + 1) (by omega) hR _ _ _ hW hS (lv_sub hl [1, 0] rfl)
    exact hlp_2 100 0 rfl hR _ _ _ hW hS (lv_sub hl [1, 0] rfl)
  · skip
    try rw [if_pos c_1] at hR
    refine lv_bipush (v := (-5)) hx hb dX7_undo_7 (by decide) ?_
    exact we_i hC hr hlocks (congrArg Prod.snd hR).symm (congrArg (fun u => wset Z 12 u.1) hR).symm hW hS dX7_undo_9
def gX7_save (s : Nat) (B : wB) : wB × Int32 := (bput (rcp B 4 (100 * s) (B 1) 100) 5 s (vp_nar .boolean 1), B 1 6)
def fX7_save (B : wB) (a1 : Int32) : wB × Int32 := if fX7_in a1 0 1 = 0 then (B, -2) else gX7_save a1.toNatClampNeg B
abbrev rX7_save : Room := { frames := 1, cells := 0, slots := 0, locals := 22 }
set_option maxHeartbeats 4000000 in
set_option maxRecDepth 100000 in
theorem kX7_save (l : Launch) (G : wG) (Z : wZ) (B : wB) (a1 : Int32)  : mI l yX7_save wsX7_save rX7_save G [.ref (G.2.2.1 12 0), .int a1] (wset Z 12 B) (fX7_save B a1).2 (wset Z 12 (fX7_save B a1).1) := by
  refine Met.ofW (cc := cX7_save) (maxL := 3) (ret := (some .int)) (by decide) rfl ?_
  intro p e s m args below meth c s₁ B0 hml hv
  obtain ⟨rfl, hW, hK, hL⟩ := hv
  have hlocks := B0.notSynchronized
  have hr := B0.returns
  have hC : wX p s m c cX7_save _ wsX7_save RX7 G := ⟨B0.exec, B0.bytes, findClass_of_methodNamed B0.named, atoms_spec (ws := wsX7_save) B0.pre, hK, hL⟩
  have hx := hC.1
  have hb := hC.2.1
  have hts := hC.2.2.2.1
  have hinRX7 : ∀ w ∈ wsX70, w ∈ wsX7_save := by decide +kernel
  have hk0 := hts (.fieldLink RX7 22 "RampShaftsModel" "isSaved" "[Z") (by decide +kernel)
  have hk1 := hts (.fieldLink RX7 7 "RampShaftsModel" "s" "[I") (by decide +kernel)
  have hk2 := hts (.fieldLink RX7 19 "RampShaftsModel" "slots" "[I") (by decide +kernel)
  have hS : va_S (wA G) s.heap s.heap [] := va_S.rf
  have hl := lv_entry ([.ref (G.2.2.1 12 0), .int a1]) (n := 3) (Nat.le_of_ble_eq_true rfl)
  rw [lg_entry_eq]
  generalize (lg_sl ([.ref (G.2.2.1 12 0), .int a1]) ++ List.replicate (3 - (lg_sl ([.ref (G.2.2.1 12 0), .int a1])).length) Slot.unset).toArray = ls at hl ⊢
  have hl : lv_has ls 3 [(0, .ref (G.2.2.1 12 0)), (1, .int a1)] := hl
  obtain ⟨R, hR⟩ : ∃ R, R = fX7_save B a1 := ⟨_, rfl⟩
  rw [← hR]
  unfold fX7_save at hR
  refine lv_iload_n hx hb dX7_save_0 rfl (lv_at hl 1 rfl) ?_
  refine lv_iconst (v := 0) hx hb dX7_save_1 (by decide) ?_
  refine lv_iconst (v := 1) hx hb dX7_save_2 (by decide) ?_
  refine wc_s hC hml (kX7_in l G (wset Z 12 B) a1 0 1) (cwS 3 hts gX7_save_X7_in rfl rfl rfl (by decide +kernel) ⟨Nat.le_of_ble_eq_true rfl, Nat.le_of_ble_eq_true rfl⟩) hW hS rfl rfl hl.1 (Nat.le_of_ble_eq_true rfl) dX7_save_3 (fun H locs hW hS => ?_)
  refine lv_topi (fun x_1 ex_1 => ?_)
  try rw [← ex_1] at hR
  refine lv_if_ne (tgt := 12) hx hb dX7_save_6 (by decide) (fun c_2 => ?_) (fun c_2 => ?_)
  · skip
    try rw [if_neg c_2] at hR
    have hi9 := in_ok (by rw [← ex_1]; exact c_2)
    have hj9 := tn_of (t0 ▸ hi9.1)
    rw [t1] at hi9
    have hl9 : a1.toNatClampNeg < 2 := by omega
    have el9 := nI_self hj9.1
    obtain ⟨s9, es9⟩ : ∃ y, y = a1.toNatClampNeg := ⟨_, rfl⟩
    rw [← es9] at el9 hl9
    rw [← es9] at hR
    rw [el9] at hl
    rw [show wset Z 12 B = wset Z 12 (rcp B 4 (100 * s9) (B 1) 0) from by rw [rcp_0]] at hW
    unfold gX7_save at hR
    refine lv_iconst (v := 0) hx hb dX7_save_12 (by decide) ?_
    refine lv_istore_n (lv' := [(2, .int 0), (0, .ref (G.2.2.1 12 0)), (1, .int (nI s9))]) hx hb dX7_save_13 rfl hl (by decide) rfl (fun ls hl => ?_)
    have hlp_3 : ∀ (u : Nat) (k : Nat), (hk : k + u = 100) → R = (bput (rcp B 4 (100 * s9) (B 1) 100) 5 s9 (vp_nar .boolean 1), B 1 6) → ∀ (H : Heap) (locs : List Loc) (ls : Array Slot), wW G (wset Z 12 (rcp B 4 (100 * s9) (B 1) k)) H → va_S (wA G) s.heap H locs → lv_has ls 3 [(0, .ref (G.2.2.1 12 0)), (1, .int (nI s9)), (2, .int (nI k))] → W p l e (headSpec wsX7_save rX7_save).room s m ([.ref (G.2.2.1 12 0), .int a1] : List Value).toArray below meth c H locs 0 0 (qI below ([.ref (G.2.2.1 12 0), .int a1] : List Value).toArray s G R.2 (wset Z 12 R.1)) (F0 m 14 ls []) := by
      intro u
      induction u with
      | zero =>
        intro k hk hR H locs ls hW hS hl
        have hk4 : k = 100 := by omega
        rw [hk4] at hW
        refine lv_iload_n hx hb dX7_save_14 rfl (lv_at hl 2 rfl) ?_
        refine lv_bipush (v := 100) hx hb dX7_save_15 (by decide) ?_
        refine lv_icmp_ge (tgt := 43) hx hb dX7_save_17 (by decide) (fun c_4 => ?_) (fun c_4 => ?_)
        · skip
          refine lv_aload_n hx hb dX7_save_43 rfl (lv_at hl 0 rfl) ?_
          refine wr_get hC hinRX7 hW (vM (by decide)) ce_m0 rfl 5 (by decide) hk0 rfl dX7_save_44 ?_
          refine lv_iload_n hx hb dX7_save_47 rfl (lv_at hl 1 rfl) ?_
          refine lv_iconst (v := 1) hx hb dX7_save_48 (by decide) ?_
          refine wr_zast (kA := 1) (Z' := wset Z 12 (bput (rcp B 4 (100 * s9) (B 1) 100) 5 (nI s9).toNatClampNeg (vp_nar .boolean 1))) hC hW hS (vM (by decide)) ce_m5 rfl (vp_in_nI (show s9 < 2 by omega) (by decide)) wset_off pu_m5 dX7_save_49 (fun H locs hW hS => ?_)
          rw [nI_clamp (show s9 < 2 ^ 31 by omega)] at hW
          refine lv_aload_n hx hb dX7_save_50 rfl (lv_at hl 0 rfl) ?_
          refine wr_get hC hinRX7 hW (vM (by decide)) ce_m0 rfl 0 (by decide) hk1 rfl dX7_save_51 ?_
          refine lv_bipush (v := 6) hx hb dX7_save_54 (by decide) ?_
          refine wr_ald (kA := 0) hC hW (vM (by decide)) ce_m1 rfl (vp_in_iff.mpr (by decide)) dX7_save_56 ?_
          refine lv_re (y := (rcp B 4 (100 * s9) (B 1) 100) 1 6) (((congrArg ((bput (rcp B 4 (100 * s9) (B 1) 100) 5 s9 (vp_nar .boolean 1)) 1) (show (6 : Int32).toNatClampNeg = 6 by decide))).trans (bput_j (by omega))) ?_
          refine lv_re (y := B 1 6) (rcp_o (by decide)) ?_
          exact we_i hC hr hlocks (congrArg Prod.snd hR).symm (congrArg (fun u => wset Z 12 u.1) hR).symm hW hS dX7_save_57
        · exact absurd ((nI_leI (a := 100) (by decide) (by omega)).mpr (by omega)) c_4
      | succ u ih =>
        intro k hk hR H locs ls hW hS hl
        refine lv_iload_n hx hb dX7_save_14 rfl (lv_at hl 2 rfl) ?_
        refine lv_bipush (v := 100) hx hb dX7_save_15 (by decide) ?_
        refine lv_icmp_ge (tgt := 43) hx hb dX7_save_17 (by decide) (fun c_5 => ?_) (fun c_5 => ?_)
        · exact absurd ((nI_leI (a := 100) (by decide) (by omega)).mp c_5) (by omega)
        · skip
          refine lv_aload_n hx hb dX7_save_20 rfl (lv_at hl 0 rfl) ?_
          refine wr_get hC hinRX7 hW (vM (by decide)) ce_m0 rfl 4 (by decide) hk2 rfl dX7_save_21 ?_
          refine lv_bipush (v := 100) hx hb dX7_save_24 (by decide) ?_
          refine lv_iload_n hx hb dX7_save_26 rfl (lv_at hl 1 rfl) ?_
          refine lv_imul hx hb dX7_save_27 ?_
          refine lv_re (y := nI (100 * s9)) (pk_mul 100 s9) ?_
          refine lv_iload_n hx hb dX7_save_28 rfl (lv_at hl 2 rfl) ?_
          refine lv_iadd hx hb dX7_save_29 ?_
          refine lv_re (y := nI ((100 * s9) + k)) (nI_add (100 * s9) k) ?_
          refine lv_aload_n hx hb dX7_save_30 rfl (lv_at hl 0 rfl) ?_
          refine wr_get hC hinRX7 hW (vM (by decide)) ce_m0 rfl 0 (by decide) hk1 rfl dX7_save_31 ?_
          refine lv_iload_n hx hb dX7_save_34 rfl (lv_at hl 2 rfl) ?_
          refine wr_ald (kA := 0) hC hW (vM (by decide)) ce_m1 rfl (vp_in_nI (show k < 100 by omega) (by decide)) dX7_save_35 ?_
          refine lv_re (y := (rcp B 4 (100 * s9) (B 1) k) 1 k) ((congrArg ((rcp B 4 (100 * s9) (B 1) k) 1) (nI_clamp (by omega)))) ?_
          refine wr_ast (kA := 0) (Z' := wset Z 12 (bput (rcp B 4 (100 * s9) (B 1) k) 4 (nI ((100 * s9) + k)).toNatClampNeg ((rcp B 4 (100 * s9) (B 1) k) 1 k))) hC hW hS (vM (by decide)) ce_m4 rfl (vp_in_nI (show ((100 * s9) + k) < 200 by omega) (by decide)) wset_off pu_m4 dX7_save_36 (fun H locs hW hS => ?_)
          rw [nI_clamp (show ((100 * s9) + k) < 2 ^ 31 by omega)] at hW
          refine lv_iinc (v := nI (k + 1)) (lv' := [(2, .int (nI (k + 1))), (0, .ref (G.2.2.1 12 0)), (1, .int (nI s9))]) hx hb dX7_save_37 hl (k := 2) rfl (nI_1 _) (by decide) rfl (fun ls hl => ?_)
          refine lv_goto (tgt := 14) hx hb dX7_save_40 (by decide) ?_
          rw [rcp_s (by omega) (rcp_o (by decide))] at hW
          exact ih (k + 1) (by omega) hR _ _ _ hW hS (lv_sub hl [1, 2, 0] rfl)
    exact hlp_3 100 0 rfl hR _ _ _ hW hS (lv_sub hl [1, 2, 0] rfl)
  · skip
    try rw [if_pos c_2] at hR
    refine lv_bipush (v := (-2)) hx hb dX7_save_9 (by decide) ?_
    exact we_i hC hr hlocks (congrArg Prod.snd hR).symm (congrArg (fun u => wset Z 12 u.1) hR).symm hW hS dX7_save_11
def gX7_restore (s : Nat) (C : wB) : wB × Int32 := (rcp C 1 0 (fun q => C 4 (100 * s + q)) 100, (rcp C 1 0 (fun q => C 4 (100 * s + q)) 100) 1 6)
def fX7_restore (B : wB) (a1 : Int32) : wB × Int32 := if fX7_in a1 0 1 = 0 then (B, -2) else if B 5 a1.toNatClampNeg = 0 then (B, -5) else gX7_restore a1.toNatClampNeg (fX7_records B)
abbrev rX7_restore : Room := { frames := 1, cells := 0, slots := 0, locals := 22 }
set_option maxHeartbeats 4000000 in
set_option maxRecDepth 100000 in
theorem kX7_restore (l : Launch) (G : wG) (Z : wZ) (B : wB) (a1 : Int32) (hkn : 0 ≤ (B 0 0).toInt ∧ (B 0 0).toInt ≤ 6) : mI l yX7_restore wsX7_restore rX7_restore G [.ref (G.2.2.1 12 0), .int a1] (wset Z 12 B) (fX7_restore B a1).2 (wset Z 12 (fX7_restore B a1).1) := by
  refine Met.ofW (cc := cX7_restore) (maxL := 3) (ret := (some .int)) (by decide) rfl ?_
  intro p e s m args below meth c s₁ B0 hml hv
  obtain ⟨rfl, hW, hK, hL⟩ := hv
  have hlocks := B0.notSynchronized
  have hr := B0.returns
  have hC : wX p s m c cX7_restore _ wsX7_restore RX7 G := ⟨B0.exec, B0.bytes, findClass_of_methodNamed B0.named, atoms_spec (ws := wsX7_restore) B0.pre, hK, hL⟩
  have hx := hC.1
  have hb := hC.2.1
  have hts := hC.2.2.2.1
  have hinRX7 : ∀ w ∈ wsX70, w ∈ wsX7_restore := by decide +kernel
  have hk0 := hts (.fieldLink RX7 22 "RampShaftsModel" "isSaved" "[Z") (by decide +kernel)
  have hk1 := hts (.fieldLink RX7 7 "RampShaftsModel" "s" "[I") (by decide +kernel)
  have hk2 := hts (.fieldLink RX7 19 "RampShaftsModel" "slots" "[I") (by decide +kernel)
  have hS : va_S (wA G) s.heap s.heap [] := va_S.rf
  have hl := lv_entry ([.ref (G.2.2.1 12 0), .int a1]) (n := 3) (Nat.le_of_ble_eq_true rfl)
  rw [lg_entry_eq]
  generalize (lg_sl ([.ref (G.2.2.1 12 0), .int a1]) ++ List.replicate (3 - (lg_sl ([.ref (G.2.2.1 12 0), .int a1])).length) Slot.unset).toArray = ls at hl ⊢
  have hl : lv_has ls 3 [(0, .ref (G.2.2.1 12 0)), (1, .int a1)] := hl
  obtain ⟨R, hR⟩ : ∃ R, R = fX7_restore B a1 := ⟨_, rfl⟩
  rw [← hR]
  unfold fX7_restore at hR
  refine lv_iload_n hx hb dX7_restore_0 rfl (lv_at hl 1 rfl) ?_
  refine lv_iconst (v := 0) hx hb dX7_restore_1 (by decide) ?_
  refine lv_iconst (v := 1) hx hb dX7_restore_2 (by decide) ?_
  refine wc_s hC hml (kX7_in l G (wset Z 12 B) a1 0 1) (cwS 3 hts gX7_restore_X7_in rfl rfl rfl (by decide +kernel) ⟨Nat.le_of_ble_eq_true rfl, Nat.le_of_ble_eq_true rfl⟩) hW hS rfl rfl hl.1 (Nat.le_of_ble_eq_true rfl) dX7_restore_3 (fun H locs hW hS => ?_)
  refine lv_topi (fun x_1 ex_1 => ?_)
  try rw [← ex_1] at hR
  refine lv_if_ne (tgt := 12) hx hb dX7_restore_6 (by decide) (fun c_2 => ?_) (fun c_2 => ?_)
  · skip
    try rw [if_neg c_2] at hR
    have hi9 := in_ok (by rw [← ex_1]; exact c_2)
    have hj9 := tn_of (t0 ▸ hi9.1)
    rw [t1] at hi9
    have hl9 : a1.toNatClampNeg < 2 := by omega
    have el9 := nI_self hj9.1
    obtain ⟨s9, es9⟩ : ∃ y, y = a1.toNatClampNeg := ⟨_, rfl⟩
    rw [← es9] at el9 hl9
    rw [← es9] at hR
    rw [el9] at hl
    refine lv_aload_n hx hb dX7_restore_12 rfl (lv_at hl 0 rfl) ?_
    refine wr_get hC hinRX7 hW (vM (by decide)) ce_m0 rfl 5 (by decide) hk0 rfl dX7_restore_13 ?_
    refine lv_iload_n hx hb dX7_restore_16 rfl (lv_at hl 1 rfl) ?_
    refine wr_zald (kA := 1) hC hW (vM (by decide)) ce_m5 rfl (vp_in_nI (show s9 < 2 by omega) (by decide)) dX7_restore_17 ?_
    refine lv_re (y := B 5 s9) ((congrArg (B 5) (nI_clamp (by omega)))) ?_
    refine lv_if_ne (tgt := 24) hx hb dX7_restore_18 (by decide) (fun c_3 => ?_) (fun c_3 => ?_)
    · skip
      try rw [if_neg c_3] at hR
      refine lv_aload_n hx hb dX7_restore_24 rfl (lv_at hl 0 rfl) ?_
      refine wc_v hC hml (kX7_records l G Z B hkn) (cwV 0 hts gX7_restore_X7_records rfl rfl rfl (by decide +kernel) ⟨Nat.le_of_ble_eq_true rfl, Nat.le_of_ble_eq_true rfl⟩) hW hS (vM (by decide)) ce_m0 rfl rfl rfl rfl hl.1 (Nat.le_of_ble_eq_true rfl) dX7_restore_25 (fun H locs hW hS => ?_)
      obtain ⟨B_4, eB_4⟩ : ∃ y, y = fX7_records B := ⟨_, rfl⟩
      rw [← eB_4] at hW
      try rw [← eB_4] at hR
      obtain ⟨C, eC⟩ : ∃ y, y = B_4 := ⟨_, rfl⟩
      rw [← eC] at hR hW
      rw [show wset Z 12 C = wset Z 12 (rcp C 1 0 (fun q => C 4 (100 * s9 + q)) 0) from by rw [rcp_0]] at hW
      unfold gX7_restore at hR
      refine lv_iconst (v := 0) hx hb dX7_restore_28 (by decide) ?_
      refine lv_istore_n (lv' := [(2, .int 0), (0, .ref (G.2.2.1 12 0)), (1, .int (nI s9))]) hx hb dX7_restore_29 rfl hl (by decide) rfl (fun ls hl => ?_)
      have hlp_5 : ∀ (u : Nat) (k : Nat), (hk : k + u = 100) → R = (rcp C 1 0 (fun q => C 4 (100 * s9 + q)) 100, (rcp C 1 0 (fun q => C 4 (100 * s9 + q)) 100) 1 6) → ∀ (H : Heap) (locs : List Loc) (ls : Array Slot), wW G (wset Z 12 (rcp C 1 0 (fun q => C 4 (100 * s9 + q)) k)) H → va_S (wA G) s.heap H locs → lv_has ls 3 [(0, .ref (G.2.2.1 12 0)), (1, .int (nI s9)), (2, .int (nI k))] → W p l e (headSpec wsX7_restore rX7_restore).room s m ([.ref (G.2.2.1 12 0), .int a1] : List Value).toArray below meth c H locs 0 0 (qI below ([.ref (G.2.2.1 12 0), .int a1] : List Value).toArray s G R.2 (wset Z 12 R.1)) (F0 m 30 ls []) := by
        intro u
        induction u with
        | zero =>
          intro k hk hR H locs ls hW hS hl
          have hk4 : k = 100 := by omega
          rw [hk4] at hW
          refine lv_iload_n hx hb dX7_restore_30 rfl (lv_at hl 2 rfl) ?_
          refine lv_bipush (v := 100) hx hb dX7_restore_31 (by decide) ?_
          refine lv_icmp_ge (tgt := 59) hx hb dX7_restore_33 (by decide) (fun c_6 => ?_) (fun c_6 => ?_)
          · skip
            refine lv_aload_n hx hb dX7_restore_59 rfl (lv_at hl 0 rfl) ?_
            refine wr_get hC hinRX7 hW (vM (by decide)) ce_m0 rfl 0 (by decide) hk1 rfl dX7_restore_60 ?_
            refine lv_bipush (v := 6) hx hb dX7_restore_63 (by decide) ?_
            refine wr_ald (kA := 0) hC hW (vM (by decide)) ce_m1 rfl (vp_in_iff.mpr (by decide)) dX7_restore_65 ?_
            refine lv_re (y := (rcp C 1 0 (fun q => C 4 (100 * s9 + q)) 100) 1 6) ((congrArg ((rcp C 1 0 (fun q => C 4 (100 * s9 + q)) 100) 1) (show (6 : Int32).toNatClampNeg = 6 by decide))) ?_
            exact we_i hC hr hlocks (congrArg Prod.snd hR).symm (congrArg (fun u => wset Z 12 u.1) hR).symm hW hS dX7_restore_66
          · exact absurd ((nI_leI (a := 100) (by decide) (by omega)).mpr (by omega)) c_6
        | succ u ih =>
          intro k hk hR H locs ls hW hS hl
          refine lv_iload_n hx hb dX7_restore_30 rfl (lv_at hl 2 rfl) ?_
          refine lv_bipush (v := 100) hx hb dX7_restore_31 (by decide) ?_
          refine lv_icmp_ge (tgt := 59) hx hb dX7_restore_33 (by decide) (fun c_7 => ?_) (fun c_7 => ?_)
          · exact absurd ((nI_leI (a := 100) (by decide) (by omega)).mp c_7) (by omega)
          · skip
            refine lv_aload_n hx hb dX7_restore_36 rfl (lv_at hl 0 rfl) ?_
            refine wr_get hC hinRX7 hW (vM (by decide)) ce_m0 rfl 0 (by decide) hk1 rfl dX7_restore_37 ?_
            refine lv_iload_n hx hb dX7_restore_40 rfl (lv_at hl 2 rfl) ?_
            refine lv_aload_n hx hb dX7_restore_41 rfl (lv_at hl 0 rfl) ?_
            refine wr_get hC hinRX7 hW (vM (by decide)) ce_m0 rfl 4 (by decide) hk2 rfl dX7_restore_42 ?_
            refine lv_bipush (v := 100) hx hb dX7_restore_45 (by decide) ?_
            refine lv_iload_n hx hb dX7_restore_47 rfl (lv_at hl 1 rfl) ?_
            refine lv_imul hx hb dX7_restore_48 ?_
            refine lv_re (y := nI (100 * s9)) (pk_mul 100 s9) ?_
            refine lv_iload_n hx hb dX7_restore_49 rfl (lv_at hl 2 rfl) ?_
            refine lv_iadd hx hb dX7_restore_50 ?_
            refine lv_re (y := nI ((100 * s9) + k)) (nI_add (100 * s9) k) ?_
            refine wr_ald (kA := 0) hC hW (vM (by decide)) ce_m4 rfl (vp_in_nI (show ((100 * s9) + k) < 200 by omega) (by decide)) dX7_restore_51 ?_
            refine lv_re (y := (rcp C 1 0 (fun q => C 4 (100 * s9 + q)) k) 4 ((100 * s9) + k)) ((congrArg ((rcp C 1 0 (fun q => C 4 (100 * s9 + q)) k) 4) (nI_clamp (by omega)))) ?_
            refine wr_ast (kA := 0) (Z' := wset Z 12 (bput (rcp C 1 0 (fun q => C 4 (100 * s9 + q)) k) 1 (nI k).toNatClampNeg ((rcp C 1 0 (fun q => C 4 (100 * s9 + q)) k) 4 ((100 * s9) + k)))) hC hW hS (vM (by decide)) ce_m1 rfl (vp_in_nI (show k < 100 by omega) (by decide)) wset_off pu_m1 dX7_restore_52 (fun H locs hW hS => ?_)
            rw [nI_clamp (show k < 2 ^ 31 by omega)] at hW
            refine lv_iinc (v := nI (k + 1)) (lv' := [(2, .int (nI (k + 1))), (0, .ref (G.2.2.1 12 0)), (1, .int (nI s9))]) hx hb dX7_restore_53 hl (k := 2) rfl (nI_1 _) (by decide) rfl (fun ls hl => ?_)
            refine lv_goto (tgt := 30) hx hb dX7_restore_56 (by decide) ?_
            rw [rcp_s (f := fun q => C 4 (100 * s9 + q)) (n := k) (o := 0) (by omega) (show (rcp C 1 0 (fun q => C 4 (100 * s9 + q)) k) 4 (100 * s9 + k) = C 4 (100 * s9 + k) from rcp_o (by decide))] at hW
            exact ih (k + 1) (by omega) hR _ _ _ hW hS (lv_sub hl [1, 2, 0] rfl)
      exact hlp_5 100 0 rfl hR _ _ _ hW hS (lv_sub hl [1, 2, 0] rfl)
    · skip
      try rw [if_pos c_3] at hR
      refine lv_bipush (v := (-5)) hx hb dX7_restore_21 (by decide) ?_
      exact we_i hC hr hlocks (congrArg Prod.snd hR).symm (congrArg (fun u => wset Z 12 u.1) hR).symm hW hS dX7_restore_23
  · skip
    try rw [if_pos c_2] at hR
    refine lv_bipush (v := (-2)) hx hb dX7_restore_9 (by decide) ?_
    exact we_i hC hr hlocks (congrArg Prod.snd hR).symm (congrArg (fun u => wset Z 12 u.1) hR).symm hW hS dX7_restore_11

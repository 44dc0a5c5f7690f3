theorem ok_addsShaft {B : wB} {M4 M : Nat} {a : Int32} (h : bI B M4 M) : OK B (fX7_addsShaft B a).1 := by
  by_cases e4 : B 1 6 = 4
  · unfold fX7_addsShaft
    by_cases a1 : a = 1
    · rw [if_pos a1, if_pos e4]; exact ok_refl h
    · rw [if_neg a1]
      by_cases a2 : a = 2
      · rw [if_pos a2, if_pos e4]; exact ok_refl h
      · rw [if_neg a2]
        by_cases a4 : a = 4
        · rw [if_pos a4, if_pos e4]; exact ok_refl h
        · rw [if_neg a4]; exact ok_refl h
  · have hk := many_lt (hm_of h) e4
    have hM : (B 1 6).toNatClampNeg = M4 := by rw [h.1.1, nI_clamp (by have := h.1.2.1; omega)]
    have key : ∀ v : Int32, ¬ v = 0 → ∀ x : Int32, x = B 1 6 + 1 → OK B (bput (bput ((bput (bput (bput (bput (bput (bput (bput (bput (bput (bput (bput (bput (bput (bput B 1 (7 + 14 * M4 + 0) 0) 1 (7 + 14 * M4 + 1) 0) 1 (7 + 14 * M4 + 2) 0) 1 (7 + 14 * M4 + 3) 0) 1 (7 + 14 * M4 + 4) 0) 1 (7 + 14 * M4 + 5) 0) 1 (7 + 14 * M4 + 6) 0) 1 (7 + 14 * M4 + 7) 0) 1 (7 + 14 * M4 + 8) 0) 1 (7 + 14 * M4 + 9) 0) 1 (7 + 14 * M4 + 10) 0) 1 (7 + 14 * M4 + 11) 0) 1 (7 + 14 * M4 + 12) 0) 1 (7 + 14 * M4 + 13) 0)) 1 (7 + 14 * M4 + 0) v) 1 6 x) := by
      intro v hv x hx
      subst hx
      obtain ⟨⟨h1, h2, h3, h4, h5⟩, h6, h7, h8⟩ := h
      have hkk : M4 < 4 := by omega
      refine ⟨⟨M4 + 1, M, ⟨?_, by omega, fun j hj => ?_, fun j hj => ?_, ?_⟩, ?_, h7, fun p p1 p2 => ?_⟩, ?_⟩
      · rw [bput_h, h1, nI_1]
      · by_cases ej : j = M4
        · subst ej
          rw [bput_q (by omega), bput_h]; exact hv
        · rw [bput_q (by omega)]
          iterate 15 rw [bput_q (by omega)]
          exact h3 j (by omega)
      · unfold WB
        by_cases ej : j = M4
        · subst ej
          rw [bput_q (by omega)]
          iterate 6 rw [bput_q (by omega)]
          rw [bput_h]; decide
        · rw [bput_q (by omega)]
          iterate 15 rw [bput_q (by omega)]
          exact h4 j hj
      · rw [bput_q (by omega)]
        iterate 15 rw [bput_q (by omega)]
        exact h5
      · rw [bput_q (by omega)]
        iterate 15 rw [bput_q (by omega)]
        exact h6
      · obtain ⟨j, hj, ej⟩ := h8 p p1 p2
        refine ⟨j, by omega, ?_⟩
        rw [bput_q (by omega)]
        iterate 15 rw [bput_q (by omega)]
        exact ej
      · iterate 16 refine k0_put ?_
        exact k0_refl
    unfold fX7_addsShaft
    by_cases a1 : a = 1
    · rw [if_pos a1, if_neg e4]; dsimp only; rw [hM]; exact key a (by rw [a1]; decide) _ rfl
    · rw [if_neg a1]
      by_cases a2 : a = 2
      · rw [if_pos a2, if_neg e4]; dsimp only; rw [hM]; exact key a (by rw [a2]; decide) _ rfl
      · rw [if_neg a2]
        by_cases a4 : a = 4
        · rw [if_pos a4, if_neg e4]; dsimp only; rw [hM]; exact key a (by rw [a4]; decide) _ rfl
        · rw [if_neg a4]; exact ok_refl h
def fX7_shaft (B : wB) (a1 : Int32) : wB × Int32 :=
  let B_1 := fX7_putAside B
  let P_2 := fX7_addsShaft B_1 a1
  let P_3 := fX7_change P_2.1 P_2.2
  (P_3.1, P_3.2)
abbrev rX7_shaft : Room := { frames := 2, cells := 0, slots := 0, locals := 44 }
set_option maxHeartbeats 4000000 in
set_option maxRecDepth 100000 in
theorem kX7_shaft (l : Launch) (G : wG) (Z : wZ) (B : wB) (a1 : Int32) (M : Nat) (M4 : Nat) (hI : bI B M4 M) (hkn : 0 ≤ (B 0 0).toInt ∧ (B 0 0).toInt ≤ 6) : mI l yX7_shaft wsX7_shaft rX7_shaft G [.ref (G.2.2.1 12 0), .int a1] (wset Z 12 B) (fX7_shaft B a1).2 (wset Z 12 (fX7_shaft B a1).1) := by
  refine Met.ofW (cc := cX7_shaft) (maxL := 2) (ret := (some .int)) (by decide) rfl ?_
  intro p e s m args below meth c s₁ B0 hml hv
  obtain ⟨rfl, hW, hK, hL⟩ := hv
  have hlocks := B0.notSynchronized
  have hr := B0.returns
  have hC : wX p s m c cX7_shaft _ wsX7_shaft RX7 G := ⟨B0.exec, B0.bytes, findClass_of_methodNamed B0.named, atoms_spec (ws := wsX7_shaft) B0.pre, hK, hL⟩
  have hx := hC.1
  have hb := hC.2.1
  have hts := hC.2.2.2.1
  have hS : va_S (wA G) s.heap s.heap [] := va_S.rf
  have hl := lv_entry ([.ref (G.2.2.1 12 0), .int a1]) (n := 2) (Nat.le_of_ble_eq_true rfl)
  rw [lg_entry_eq]
  generalize (lg_sl ([.ref (G.2.2.1 12 0), .int a1]) ++ List.replicate (2 - (lg_sl ([.ref (G.2.2.1 12 0), .int a1])).length) Slot.unset).toArray = ls at hl ⊢
  have hl : lv_has ls 2 [(0, .ref (G.2.2.1 12 0)), (1, .int a1)] := hl
  refine lv_aload_n hx hb dX7_shaft_0 rfl (lv_at hl 0 rfl) ?_
  refine wc_v hC hml (kX7_putAside l G Z B) (cwV 0 hts gX7_shaft_X7_putAside rfl rfl rfl (by decide +kernel) ⟨Nat.le_of_ble_eq_true rfl, Nat.le_of_ble_eq_true rfl⟩) hW hS (vM (by decide)) ce_m0 rfl rfl rfl rfl hl.1 (Nat.le_of_ble_eq_true rfl) dX7_shaft_1 (fun H locs hW hS => ?_)
  obtain ⟨B_1, eB_1⟩ : ∃ y, y = fX7_putAside B := ⟨_, rfl⟩
  rw [← eB_1] at hW
  have hI1 := mI_row (C := B_1) hI (fun q _ => by rw [eB_1]; exact rcp_o (by decide))
  have hkn1 : 0 ≤ (B_1 0 0).toInt ∧ (B_1 0 0).toInt ≤ 6 := by rw [show B_1 0 0 = B 0 0 by rw [eB_1]; exact rcp_o (by decide)]; exact hkn
  refine lv_aload_n hx hb dX7_shaft_4 rfl (lv_at hl 0 rfl) ?_
  refine lv_aload_n hx hb dX7_shaft_5 rfl (lv_at hl 0 rfl) ?_
  refine lv_iload_n hx hb dX7_shaft_6 rfl (lv_at hl 1 rfl) ?_
  refine wc_i hC hml (kX7_addsShaft l G Z B_1 a1 (hm_of hI1)) (cwV 1 hts gX7_shaft_X7_addsShaft rfl rfl rfl (by decide +kernel) ⟨Nat.le_of_ble_eq_true rfl, Nat.le_of_ble_eq_true rfl⟩) hW hS (vM (by decide)) ce_m0 rfl rfl rfl rfl hl.1 (Nat.le_of_ble_eq_true rfl) dX7_shaft_7 (fun H locs hW hS => ?_)
  obtain ⟨P_2, eP_2⟩ : ∃ y, y = fX7_addsShaft B_1 a1 := ⟨_, rfl⟩
  rw [← eP_2] at hW ⊢
  refine wc_i hC hml (kX7_change l G Z P_2.1 P_2.2 (by rw [eP_2, (ok_addsShaft hI1).2.1 0 (by omega)]; exact hkn1)) (cwV 1 hts gX7_shaft_X7_change rfl rfl rfl (by decide +kernel) ⟨Nat.le_of_ble_eq_true rfl, Nat.le_of_ble_eq_true rfl⟩) hW hS (vM (by decide)) ce_m0 rfl rfl rfl rfl hl.1 (Nat.le_of_ble_eq_true rfl) dX7_shaft_10 (fun H locs hW hS => ?_)
  obtain ⟨P_3, eP_3⟩ : ∃ y, y = fX7_change P_2.1 P_2.2 := ⟨_, rfl⟩
  rw [← eP_3] at hW ⊢
  have hf : fX7_shaft B a1 = (P_3.1, P_3.2) := by
    subst eP_3
    subst eP_2
    subst eB_1
    exact rfl
  exact we_i hC hr hlocks (congrArg Prod.snd hf).symm (congrArg (fun u => wset Z 12 u.1) hf).symm hW hS dX7_shaft_13
def fX7_load (B : wB) (a1 : Int32) (a2 : Int32) : wB × Int32 :=
  let B_1 := fX7_putAside B
  let P_2 := fX7_loads B_1 a1 a2
  let P_3 := fX7_change P_2.1 P_2.2
  (P_3.1, P_3.2)
abbrev rX7_load : Room := { frames := 3, cells := 0, slots := 0, locals := 66 }
set_option maxHeartbeats 4000000 in
set_option maxRecDepth 100000 in
theorem kX7_load (l : Launch) (G : wG) (Z : wZ) (B : wB) (a1 : Int32) (a2 : Int32) (M : Nat) (M4 : Nat) (hI : bI B M4 M) (hkn : 0 ≤ (B 0 0).toInt ∧ (B 0 0).toInt ≤ 6) : mI l yX7_load wsX7_load rX7_load G [.ref (G.2.2.1 12 0), .int a1, .int a2] (wset Z 12 B) (fX7_load B a1 a2).2 (wset Z 12 (fX7_load B a1 a2).1) := by
  refine Met.ofW (cc := cX7_load) (maxL := 3) (ret := (some .int)) (by decide) rfl ?_
  intro p e s m args below meth c s₁ B0 hml hv
  obtain ⟨rfl, hW, hK, hL⟩ := hv
  have hlocks := B0.notSynchronized
  have hr := B0.returns
  have hC : wX p s m c cX7_load _ wsX7_load RX7 G := ⟨B0.exec, B0.bytes, findClass_of_methodNamed B0.named, atoms_spec (ws := wsX7_load) B0.pre, hK, hL⟩
  have hx := hC.1
  have hb := hC.2.1
  have hts := hC.2.2.2.1
  have hS : va_S (wA G) s.heap s.heap [] := va_S.rf
  have hl := lv_entry ([.ref (G.2.2.1 12 0), .int a1, .int a2]) (n := 3) (Nat.le_of_ble_eq_true rfl)
  rw [lg_entry_eq]
  generalize (lg_sl ([.ref (G.2.2.1 12 0), .int a1, .int a2]) ++ List.replicate (3 - (lg_sl ([.ref (G.2.2.1 12 0), .int a1, .int a2])).length) Slot.unset).toArray = ls at hl ⊢
  have hl : lv_has ls 3 [(0, .ref (G.2.2.1 12 0)), (1, .int a1), (2, .int a2)] := hl
  refine lv_aload_n hx hb dX7_load_0 rfl (lv_at hl 0 rfl) ?_
  refine wc_v hC hml (kX7_putAside l G Z B) (cwV 0 hts gX7_load_X7_putAside rfl rfl rfl (by decide +kernel) ⟨Nat.le_of_ble_eq_true rfl, Nat.le_of_ble_eq_true rfl⟩) hW hS (vM (by decide)) ce_m0 rfl rfl rfl rfl hl.1 (Nat.le_of_ble_eq_true rfl) dX7_load_1 (fun H locs hW hS => ?_)
  obtain ⟨B_1, eB_1⟩ : ∃ y, y = fX7_putAside B := ⟨_, rfl⟩
  rw [← eB_1] at hW
  have hI1 := mI_row (C := B_1) hI (fun q _ => by rw [eB_1]; exact rcp_o (by decide))
  have hkn1 : 0 ≤ (B_1 0 0).toInt ∧ (B_1 0 0).toInt ≤ 6 := by rw [show B_1 0 0 = B 0 0 by rw [eB_1]; exact rcp_o (by decide)]; exact hkn
  refine lv_aload_n hx hb dX7_load_4 rfl (lv_at hl 0 rfl) ?_
  refine lv_aload_n hx hb dX7_load_5 rfl (lv_at hl 0 rfl) ?_
  refine lv_iload_n hx hb dX7_load_6 rfl (lv_at hl 1 rfl) ?_
  refine lv_iload_n hx hb dX7_load_7 rfl (lv_at hl 2 rfl) ?_
  refine wc_i hC hml (kX7_loads l G Z B_1 a1 a2 (hm_of hI1)) (cwV 2 hts gX7_load_X7_loads rfl rfl rfl (by decide +kernel) ⟨Nat.le_of_ble_eq_true rfl, Nat.le_of_ble_eq_true rfl⟩) hW hS (vM (by decide)) ce_m0 rfl rfl rfl rfl hl.1 (Nat.le_of_ble_eq_true rfl) dX7_load_8 (fun H locs hW hS => ?_)
  obtain ⟨P_2, eP_2⟩ : ∃ y, y = fX7_loads B_1 a1 a2 := ⟨_, rfl⟩
  rw [← eP_2] at hW ⊢
  refine wc_i hC hml (kX7_change l G Z P_2.1 P_2.2 (by rw [eP_2, (ok_loads hI1).2.1 0 (by omega)]; exact hkn1)) (cwV 1 hts gX7_load_X7_change rfl rfl rfl (by decide +kernel) ⟨Nat.le_of_ble_eq_true rfl, Nat.le_of_ble_eq_true rfl⟩) hW hS (vM (by decide)) ce_m0 rfl rfl rfl rfl hl.1 (Nat.le_of_ble_eq_true rfl) dX7_load_11 (fun H locs hW hS => ?_)
  obtain ⟨P_3, eP_3⟩ : ∃ y, y = fX7_change P_2.1 P_2.2 := ⟨_, rfl⟩
  rw [← eP_3] at hW ⊢
  have hf : fX7_load B a1 a2 = (P_3.1, P_3.2) := by
    subst eP_3
    subst eP_2
    subst eB_1
    exact rfl
  exact we_i hC hr hlocks (congrArg Prod.snd hf).symm (congrArg (fun u => wset Z 12 u.1) hf).symm hW hS dX7_load_14
def fX7_move (B : wB) (a1 : Int32) (a2 : Int32) : wB × Int32 :=
  let B_1 := fX7_putAside B
  let P_2 := fX7_moves B_1 a1 a2
  let P_3 := fX7_change P_2.1 P_2.2
  (P_3.1, P_3.2)
abbrev rX7_move : Room := { frames := 4, cells := 0, slots := 0, locals := 91 }
set_option maxHeartbeats 4000000 in
set_option maxRecDepth 100000 in
theorem kX7_move (l : Launch) (G : wG) (Z : wZ) (B : wB) (a1 : Int32) (a2 : Int32) (M : Nat) (M4 : Nat) (hI : bI B M4 M) (hkn : 0 ≤ (B 0 0).toInt ∧ (B 0 0).toInt ≤ 6) : mI l yX7_move wsX7_move rX7_move G [.ref (G.2.2.1 12 0), .int a1, .int a2] (wset Z 12 B) (fX7_move B a1 a2).2 (wset Z 12 (fX7_move B a1 a2).1) := by
  refine Met.ofW (cc := cX7_move) (maxL := 3) (ret := (some .int)) (by decide) rfl ?_
  intro p e s m args below meth c s₁ B0 hml hv
  obtain ⟨rfl, hW, hK, hL⟩ := hv
  have hlocks := B0.notSynchronized
  have hr := B0.returns
  have hC : wX p s m c cX7_move _ wsX7_move RX7 G := ⟨B0.exec, B0.bytes, findClass_of_methodNamed B0.named, atoms_spec (ws := wsX7_move) B0.pre, hK, hL⟩
  have hx := hC.1
  have hb := hC.2.1
  have hts := hC.2.2.2.1
  have hS : va_S (wA G) s.heap s.heap [] := va_S.rf
  have hl := lv_entry ([.ref (G.2.2.1 12 0), .int a1, .int a2]) (n := 3) (Nat.le_of_ble_eq_true rfl)
  rw [lg_entry_eq]
  generalize (lg_sl ([.ref (G.2.2.1 12 0), .int a1, .int a2]) ++ List.replicate (3 - (lg_sl ([.ref (G.2.2.1 12 0), .int a1, .int a2])).length) Slot.unset).toArray = ls at hl ⊢
  have hl : lv_has ls 3 [(0, .ref (G.2.2.1 12 0)), (1, .int a1), (2, .int a2)] := hl
  refine lv_aload_n hx hb dX7_move_0 rfl (lv_at hl 0 rfl) ?_
  refine wc_v hC hml (kX7_putAside l G Z B) (cwV 0 hts gX7_move_X7_putAside rfl rfl rfl (by decide +kernel) ⟨Nat.le_of_ble_eq_true rfl, Nat.le_of_ble_eq_true rfl⟩) hW hS (vM (by decide)) ce_m0 rfl rfl rfl rfl hl.1 (Nat.le_of_ble_eq_true rfl) dX7_move_1 (fun H locs hW hS => ?_)
  obtain ⟨B_1, eB_1⟩ : ∃ y, y = fX7_putAside B := ⟨_, rfl⟩
  rw [← eB_1] at hW
  have hI1 := mI_row (C := B_1) hI (fun q _ => by rw [eB_1]; exact rcp_o (by decide))
  have hkn1 : 0 ≤ (B_1 0 0).toInt ∧ (B_1 0 0).toInt ≤ 6 := by rw [show B_1 0 0 = B 0 0 by rw [eB_1]; exact rcp_o (by decide)]; exact hkn
  refine lv_aload_n hx hb dX7_move_4 rfl (lv_at hl 0 rfl) ?_
  refine lv_aload_n hx hb dX7_move_5 rfl (lv_at hl 0 rfl) ?_
  refine lv_iload_n hx hb dX7_move_6 rfl (lv_at hl 1 rfl) ?_
  refine lv_iload_n hx hb dX7_move_7 rfl (lv_at hl 2 rfl) ?_
  refine wc_i hC hml (kX7_moves l G Z B_1 a1 a2 (hm_of hI1) (hmi_of hI1) (hw_of hI1)) (cwV 2 hts gX7_move_X7_moves rfl rfl rfl (by decide +kernel) ⟨Nat.le_of_ble_eq_true rfl, Nat.le_of_ble_eq_true rfl⟩) hW hS (vM (by decide)) ce_m0 rfl rfl rfl rfl hl.1 (Nat.le_of_ble_eq_true rfl) dX7_move_8 (fun H locs hW hS => ?_)
  obtain ⟨P_2, eP_2⟩ : ∃ y, y = fX7_moves B_1 a1 a2 := ⟨_, rfl⟩
  rw [← eP_2] at hW ⊢
  refine wc_i hC hml (kX7_change l G Z P_2.1 P_2.2 (by rw [eP_2, (ok_moves hI1).2.1 0 (by omega)]; exact hkn1)) (cwV 1 hts gX7_move_X7_change rfl rfl rfl (by decide +kernel) ⟨Nat.le_of_ble_eq_true rfl, Nat.le_of_ble_eq_true rfl⟩) hW hS (vM (by decide)) ce_m0 rfl rfl rfl rfl hl.1 (Nat.le_of_ble_eq_true rfl) dX7_move_11 (fun H locs hW hS => ?_)
  obtain ⟨P_3, eP_3⟩ : ∃ y, y = fX7_change P_2.1 P_2.2 := ⟨_, rfl⟩
  rw [← eP_3] at hW ⊢
  have hf : fX7_move B a1 a2 = (P_3.1, P_3.2) := by
    subst eP_3
    subst eP_2
    subst eB_1
    exact rfl
  exact we_i hC hr hlocks (congrArg Prod.snd hf).symm (congrArg (fun u => wset Z 12 u.1) hf).symm hW hS dX7_move_14
def fX7_plan (B : wB) (a1 : Int32) (a2 : Int32) (a3 : Int32) : wB × Int32 :=
  let B_1 := fX7_putAside B
  let P_2 := fX7_plans B_1 a1 a2 a3
  let P_3 := fX7_change P_2.1 P_2.2
  (P_3.1, P_3.2)
abbrev rX7_plan : Room := { frames := 3, cells := 0, slots := 0, locals := 67 }
set_option maxHeartbeats 4000000 in
set_option maxRecDepth 100000 in
theorem kX7_plan (l : Launch) (G : wG) (Z : wZ) (B : wB) (a1 : Int32) (a2 : Int32) (a3 : Int32) (M : Nat) (M4 : Nat) (hI : bI B M4 M) (hkn : 0 ≤ (B 0 0).toInt ∧ (B 0 0).toInt ≤ 6) : mI l yX7_plan wsX7_plan rX7_plan G [.ref (G.2.2.1 12 0), .int a1, .int a2, .int a3] (wset Z 12 B) (fX7_plan B a1 a2 a3).2 (wset Z 12 (fX7_plan B a1 a2 a3).1) := by
  refine Met.ofW (cc := cX7_plan) (maxL := 4) (ret := (some .int)) (by decide) rfl ?_
  intro p e s m args below meth c s₁ B0 hml hv
  obtain ⟨rfl, hW, hK, hL⟩ := hv
  have hlocks := B0.notSynchronized
  have hr := B0.returns
  have hC : wX p s m c cX7_plan _ wsX7_plan RX7 G := ⟨B0.exec, B0.bytes, findClass_of_methodNamed B0.named, atoms_spec (ws := wsX7_plan) B0.pre, hK, hL⟩
  have hx := hC.1
  have hb := hC.2.1
  have hts := hC.2.2.2.1
  have hS : va_S (wA G) s.heap s.heap [] := va_S.rf
  have hl := lv_entry ([.ref (G.2.2.1 12 0), .int a1, .int a2, .int a3]) (n := 4) (Nat.le_of_ble_eq_true rfl)
  rw [lg_entry_eq]
  generalize (lg_sl ([.ref (G.2.2.1 12 0), .int a1, .int a2, .int a3]) ++ List.replicate (4 - (lg_sl ([.ref (G.2.2.1 12 0), .int a1, .int a2, .int a3])).length) Slot.unset).toArray = ls at hl ⊢
  have hl : lv_has ls 4 [(0, .ref (G.2.2.1 12 0)), (1, .int a1), (2, .int a2), (3, .int a3)] := hl
  refine lv_aload_n hx hb dX7_plan_0 rfl (lv_at hl 0 rfl) ?_
  refine wc_v hC hml (kX7_putAside l G Z B) (cwV 0 hts gX7_plan_X7_putAside rfl rfl rfl (by decide +kernel) ⟨Nat.le_of_ble_eq_true rfl, Nat.le_of_ble_eq_true rfl⟩) hW hS (vM (by decide)) ce_m0 rfl rfl rfl rfl hl.1 (Nat.le_of_ble_eq_true rfl) dX7_plan_1 (fun H locs hW hS => ?_)
  obtain ⟨B_1, eB_1⟩ : ∃ y, y = fX7_putAside B := ⟨_, rfl⟩
  rw [← eB_1] at hW
  have hI1 := mI_row (C := B_1) hI (fun q _ => by rw [eB_1]; exact rcp_o (by decide))
  have hkn1 : 0 ≤ (B_1 0 0).toInt ∧ (B_1 0 0).toInt ≤ 6 := by rw [show B_1 0 0 = B 0 0 by rw [eB_1]; exact rcp_o (by decide)]; exact hkn
  refine lv_aload_n hx hb dX7_plan_4 rfl (lv_at hl 0 rfl) ?_
  refine lv_aload_n hx hb dX7_plan_5 rfl (lv_at hl 0 rfl) ?_
  refine lv_iload_n hx hb dX7_plan_6 rfl (lv_at hl 1 rfl) ?_
  refine lv_iload_n hx hb dX7_plan_7 rfl (lv_at hl 2 rfl) ?_
  refine lv_iload_n hx hb dX7_plan_8 rfl (lv_at hl 3 rfl) ?_
  refine wc_i hC hml (kX7_plans l G Z B_1 a1 a2 a3 (hm_of hI1) (hp_of hI1)) (cwV 3 hts gX7_plan_X7_plans rfl rfl rfl (by decide +kernel) ⟨Nat.le_of_ble_eq_true rfl, Nat.le_of_ble_eq_true rfl⟩) hW hS (vM (by decide)) ce_m0 rfl rfl rfl rfl hl.1 (Nat.le_of_ble_eq_true rfl) dX7_plan_9 (fun H locs hW hS => ?_)
  obtain ⟨P_2, eP_2⟩ : ∃ y, y = fX7_plans B_1 a1 a2 a3 := ⟨_, rfl⟩
  rw [← eP_2] at hW ⊢
  refine wc_i hC hml (kX7_change l G Z P_2.1 P_2.2 (by rw [eP_2, (ok_plans hI1).2.1 0 (by omega)]; exact hkn1)) (cwV 1 hts gX7_plan_X7_change rfl rfl rfl (by decide +kernel) ⟨Nat.le_of_ble_eq_true rfl, Nat.le_of_ble_eq_true rfl⟩) hW hS (vM (by decide)) ce_m0 rfl rfl rfl rfl hl.1 (Nat.le_of_ble_eq_true rfl) dX7_plan_12 (fun H locs hW hS => ?_)
  obtain ⟨P_3, eP_3⟩ : ∃ y, y = fX7_change P_2.1 P_2.2 := ⟨_, rfl⟩
  rw [← eP_3] at hW ⊢
  have hf : fX7_plan B a1 a2 a3 = (P_3.1, P_3.2) := by
    subst eP_3
    subst eP_2
    subst eB_1
    exact rfl
  exact we_i hC hr hlocks (congrArg Prod.snd hf).symm (congrArg (fun u => wset Z 12 u.1) hf).symm hW hS dX7_plan_15
def fX7_stop (B : wB) (a1 : Int32) : wB × Int32 :=
  let B_1 := fX7_putAside B
  let P_2 := fX7_stops B_1 a1
  let P_3 := fX7_change P_2.1 P_2.2
  (P_3.1, P_3.2)
abbrev rX7_stop : Room := { frames := 3, cells := 0, slots := 0, locals := 65 }
set_option maxHeartbeats 4000000 in
set_option maxRecDepth 100000 in
theorem kX7_stop (l : Launch) (G : wG) (Z : wZ) (B : wB) (a1 : Int32) (M : Nat) (M4 : Nat) (hI : bI B M4 M) (hkn : 0 ≤ (B 0 0).toInt ∧ (B 0 0).toInt ≤ 6) : mI l yX7_stop wsX7_stop rX7_stop G [.ref (G.2.2.1 12 0), .int a1] (wset Z 12 B) (fX7_stop B a1).2 (wset Z 12 (fX7_stop B a1).1) := by
  refine Met.ofW (cc := cX7_stop) (maxL := 2) (ret := (some .int)) (by decide) rfl ?_
  intro p e s m args below meth c s₁ B0 hml hv
  obtain ⟨rfl, hW, hK, hL⟩ := hv
  have hlocks := B0.notSynchronized
  have hr := B0.returns
  have hC : wX p s m c cX7_stop _ wsX7_stop RX7 G := ⟨B0.exec, B0.bytes, findClass_of_methodNamed B0.named, atoms_spec (ws := wsX7_stop) B0.pre, hK, hL⟩
  have hx := hC.1
  have hb := hC.2.1
  have hts := hC.2.2.2.1
  have hS : va_S (wA G) s.heap s.heap [] := va_S.rf
  have hl := lv_entry ([.ref (G.2.2.1 12 0), .int a1]) (n := 2) (Nat.le_of_ble_eq_true rfl)
  rw [lg_entry_eq]
  generalize (lg_sl ([.ref (G.2.2.1 12 0), .int a1]) ++ List.replicate (2 - (lg_sl ([.ref (G.2.2.1 12 0), .int a1])).length) Slot.unset).toArray = ls at hl ⊢
  have hl : lv_has ls 2 [(0, .ref (G.2.2.1 12 0)), (1, .int a1)] := hl
  refine lv_aload_n hx hb dX7_stop_0 rfl (lv_at hl 0 rfl) ?_
  refine wc_v hC hml (kX7_putAside l G Z B) (cwV 0 hts gX7_stop_X7_putAside rfl rfl rfl (by decide +kernel) ⟨Nat.le_of_ble_eq_true rfl, Nat.le_of_ble_eq_true rfl⟩) hW hS (vM (by decide)) ce_m0 rfl rfl rfl rfl hl.1 (Nat.le_of_ble_eq_true rfl) dX7_stop_1 (fun H locs hW hS => ?_)
  obtain ⟨B_1, eB_1⟩ : ∃ y, y = fX7_putAside B := ⟨_, rfl⟩
  rw [← eB_1] at hW
  have hI1 := mI_row (C := B_1) hI (fun q _ => by rw [eB_1]; exact rcp_o (by decide))
  have hkn1 : 0 ≤ (B_1 0 0).toInt ∧ (B_1 0 0).toInt ≤ 6 := by rw [show B_1 0 0 = B 0 0 by rw [eB_1]; exact rcp_o (by decide)]; exact hkn
  refine lv_aload_n hx hb dX7_stop_4 rfl (lv_at hl 0 rfl) ?_
  refine lv_aload_n hx hb dX7_stop_5 rfl (lv_at hl 0 rfl) ?_
  refine lv_iload_n hx hb dX7_stop_6 rfl (lv_at hl 1 rfl) ?_
  refine wc_i hC hml (kX7_stops l G Z B_1 a1 (hm_of hI1)) (cwV 1 hts gX7_stop_X7_stops rfl rfl rfl (by decide +kernel) ⟨Nat.le_of_ble_eq_true rfl, Nat.le_of_ble_eq_true rfl⟩) hW hS (vM (by decide)) ce_m0 rfl rfl rfl rfl hl.1 (Nat.le_of_ble_eq_true rfl) dX7_stop_7 (fun H locs hW hS => ?_)
  obtain ⟨P_2, eP_2⟩ : ∃ y, y = fX7_stops B_1 a1 := ⟨_, rfl⟩
  rw [← eP_2] at hW ⊢
  refine wc_i hC hml (kX7_change l G Z P_2.1 P_2.2 (by rw [eP_2, (ok_stops hI1).2.1 0 (by omega)]; exact hkn1)) (cwV 1 hts gX7_stop_X7_change rfl rfl rfl (by decide +kernel) ⟨Nat.le_of_ble_eq_true rfl, Nat.le_of_ble_eq_true rfl⟩) hW hS (vM (by decide)) ce_m0 rfl rfl rfl rfl hl.1 (Nat.le_of_ble_eq_true rfl) dX7_stop_10 (fun H locs hW hS => ?_)
  obtain ⟨P_3, eP_3⟩ : ∃ y, y = fX7_change P_2.1 P_2.2 := ⟨_, rfl⟩
  rw [← eP_3] at hW ⊢
  have hf : fX7_stop B a1 = (P_3.1, P_3.2) := by
    subst eP_3
    subst eP_2
    subst eB_1
    exact rfl
  exact we_i hC hr hlocks (congrArg Prod.snd hf).symm (congrArg (fun u => wset Z 12 u.1) hf).symm hW hS dX7_stop_13
def fX7_home (B : wB) (a1 : Int32) : wB × Int32 :=
  let B_1 := fX7_putAside B
  let P_2 := fX7_homes B_1 a1
  let P_3 := fX7_change P_2.1 P_2.2
  (P_3.1, P_3.2)
abbrev rX7_home : Room := { frames := 3, cells := 0, slots := 0, locals := 65 }
set_option maxHeartbeats 4000000 in
set_option maxRecDepth 100000 in
theorem kX7_home (l : Launch) (G : wG) (Z : wZ) (B : wB) (a1 : Int32) (M : Nat) (M4 : Nat) (hI : bI B M4 M) (hkn : 0 ≤ (B 0 0).toInt ∧ (B 0 0).toInt ≤ 6) : mI l yX7_home wsX7_home rX7_home G [.ref (G.2.2.1 12 0), .int a1] (wset Z 12 B) (fX7_home B a1).2 (wset Z 12 (fX7_home B a1).1) := by
  refine Met.ofW (cc := cX7_home) (maxL := 2) (ret := (some .int)) (by decide) rfl ?_
  intro p e s m args below meth c s₁ B0 hml hv
  obtain ⟨rfl, hW, hK, hL⟩ := hv
  have hlocks := B0.notSynchronized
  have hr := B0.returns
  have hC : wX p s m c cX7_home _ wsX7_home RX7 G := ⟨B0.exec, B0.bytes, findClass_of_methodNamed B0.named, atoms_spec (ws := wsX7_home) B0.pre, hK, hL⟩
  have hx := hC.1
  have hb := hC.2.1
  have hts := hC.2.2.2.1
  have hS : va_S (wA G) s.heap s.heap [] := va_S.rf
  have hl := lv_entry ([.ref (G.2.2.1 12 0), .int a1]) (n := 2) (Nat.le_of_ble_eq_true rfl)
  rw [lg_entry_eq]
  generalize (lg_sl ([.ref (G.2.2.1 12 0), .int a1]) ++ List.replicate (2 - (lg_sl ([.ref (G.2.2.1 12 0), .int a1])).length) Slot.unset).toArray = ls at hl ⊢
  have hl : lv_has ls 2 [(0, .ref (G.2.2.1 12 0)), (1, .int a1)] := hl
  refine lv_aload_n hx hb dX7_home_0 rfl (lv_at hl 0 rfl) ?_
  refine wc_v hC hml (kX7_putAside l G Z B) (cwV 0 hts gX7_home_X7_putAside rfl rfl rfl (by decide +kernel) ⟨Nat.le_of_ble_eq_true rfl, Nat.le_of_ble_eq_true rfl⟩) hW hS (vM (by decide)) ce_m0 rfl rfl rfl rfl hl.1 (Nat.le_of_ble_eq_true rfl) dX7_home_1 (fun H locs hW hS => ?_)
  obtain ⟨B_1, eB_1⟩ : ∃ y, y = fX7_putAside B := ⟨_, rfl⟩
  rw [← eB_1] at hW
  have hI1 := mI_row (C := B_1) hI (fun q _ => by rw [eB_1]; exact rcp_o (by decide))
  have hkn1 : 0 ≤ (B_1 0 0).toInt ∧ (B_1 0 0).toInt ≤ 6 := by rw [show B_1 0 0 = B 0 0 by rw [eB_1]; exact rcp_o (by decide)]; exact hkn
  refine lv_aload_n hx hb dX7_home_4 rfl (lv_at hl 0 rfl) ?_
  refine lv_aload_n hx hb dX7_home_5 rfl (lv_at hl 0 rfl) ?_
  refine lv_iload_n hx hb dX7_home_6 rfl (lv_at hl 1 rfl) ?_
  refine wc_i hC hml (kX7_homes l G Z B_1 a1 (hm_of hI1)) (cwV 1 hts gX7_home_X7_homes rfl rfl rfl (by decide +kernel) ⟨Nat.le_of_ble_eq_true rfl, Nat.le_of_ble_eq_true rfl⟩) hW hS (vM (by decide)) ce_m0 rfl rfl rfl rfl hl.1 (Nat.le_of_ble_eq_true rfl) dX7_home_7 (fun H locs hW hS => ?_)
  obtain ⟨P_2, eP_2⟩ : ∃ y, y = fX7_homes B_1 a1 := ⟨_, rfl⟩
  rw [← eP_2] at hW ⊢
  refine wc_i hC hml (kX7_change l G Z P_2.1 P_2.2 (by rw [eP_2, (ok_homes hI1).2.1 0 (by omega)]; exact hkn1)) (cwV 1 hts gX7_home_X7_change rfl rfl rfl (by decide +kernel) ⟨Nat.le_of_ble_eq_true rfl, Nat.le_of_ble_eq_true rfl⟩) hW hS (vM (by decide)) ce_m0 rfl rfl rfl rfl hl.1 (Nat.le_of_ble_eq_true rfl) dX7_home_10 (fun H locs hW hS => ?_)
  obtain ⟨P_3, eP_3⟩ : ∃ y, y = fX7_change P_2.1 P_2.2 := ⟨_, rfl⟩
  rw [← eP_3] at hW ⊢
  have hf : fX7_home B a1 = (P_3.1, P_3.2) := by
    subst eP_3
    subst eP_2
    subst eB_1
    exact rfl
  exact we_i hC hr hlocks (congrArg Prod.snd hf).symm (congrArg (fun u => wset Z 12 u.1) hf).symm hW hS dX7_home_13
def fX7_pass (B : wB) (a1 : Int32) : wB × Int32 :=
  let B_1 := fX7_putAside B
  let P_2 := fX7_passes B_1 a1
  let P_3 := fX7_change P_2.1 P_2.2
  (P_3.1, P_3.2)
abbrev rX7_pass : Room := { frames := 6, cells := 0, slots := 0, locals := 139 }
set_option maxHeartbeats 4000000 in
set_option maxRecDepth 100000 in
theorem kX7_pass (l : Launch) (G : wG) (Z : wZ) (B : wB) (a1 : Int32) (M : Nat) (M4 : Nat) (hI : bI B M4 M) (hkn : 0 ≤ (B 0 0).toInt ∧ (B 0 0).toInt ≤ 6) : mI l yX7_pass wsX7_pass rX7_pass G [.ref (G.2.2.1 12 0), .int a1] (wset Z 12 B) (fX7_pass B a1).2 (wset Z 12 (fX7_pass B a1).1) := by
  refine Met.ofW (cc := cX7_pass) (maxL := 2) (ret := (some .int)) (by decide) rfl ?_
  intro p e s m args below meth c s₁ B0 hml hv
  obtain ⟨rfl, hW, hK, hL⟩ := hv
  have hlocks := B0.notSynchronized
  have hr := B0.returns
  have hC : wX p s m c cX7_pass _ wsX7_pass RX7 G := ⟨B0.exec, B0.bytes, findClass_of_methodNamed B0.named, atoms_spec (ws := wsX7_pass) B0.pre, hK, hL⟩
  have hx := hC.1
  have hb := hC.2.1
  have hts := hC.2.2.2.1
  have hS : va_S (wA G) s.heap s.heap [] := va_S.rf
  have hl := lv_entry ([.ref (G.2.2.1 12 0), .int a1]) (n := 2) (Nat.le_of_ble_eq_true rfl)
  rw [lg_entry_eq]
  generalize (lg_sl ([.ref (G.2.2.1 12 0), .int a1]) ++ List.replicate (2 - (lg_sl ([.ref (G.2.2.1 12 0), .int a1])).length) Slot.unset).toArray = ls at hl ⊢
  have hl : lv_has ls 2 [(0, .ref (G.2.2.1 12 0)), (1, .int a1)] := hl
  refine lv_aload_n hx hb dX7_pass_0 rfl (lv_at hl 0 rfl) ?_
  refine wc_v hC hml (kX7_putAside l G Z B) (cwV 0 hts gX7_pass_X7_putAside rfl rfl rfl (by decide +kernel) ⟨Nat.le_of_ble_eq_true rfl, Nat.le_of_ble_eq_true rfl⟩) hW hS (vM (by decide)) ce_m0 rfl rfl rfl rfl hl.1 (Nat.le_of_ble_eq_true rfl) dX7_pass_1 (fun H locs hW hS => ?_)
  obtain ⟨B_1, eB_1⟩ : ∃ y, y = fX7_putAside B := ⟨_, rfl⟩
  rw [← eB_1] at hW
  have hI1 := mI_row (C := B_1) hI (fun q _ => by rw [eB_1]; exact rcp_o (by decide))
  have hkn1 : 0 ≤ (B_1 0 0).toInt ∧ (B_1 0 0).toInt ≤ 6 := by rw [show B_1 0 0 = B 0 0 by rw [eB_1]; exact rcp_o (by decide)]; exact hkn
  refine lv_aload_n hx hb dX7_pass_4 rfl (lv_at hl 0 rfl) ?_
  refine lv_aload_n hx hb dX7_pass_5 rfl (lv_at hl 0 rfl) ?_
  refine lv_iload_n hx hb dX7_pass_6 rfl (lv_at hl 1 rfl) ?_
  refine wc_i hC hml (kX7_passes l G Z B_1 a1 M M4 hI1) (cwV 1 hts gX7_pass_X7_passes rfl rfl rfl (by decide +kernel) ⟨Nat.le_of_ble_eq_true rfl, Nat.le_of_ble_eq_true rfl⟩) hW hS (vM (by decide)) ce_m0 rfl rfl rfl rfl hl.1 (Nat.le_of_ble_eq_true rfl) dX7_pass_7 (fun H locs hW hS => ?_)
  obtain ⟨P_2, eP_2⟩ : ∃ y, y = fX7_passes B_1 a1 := ⟨_, rfl⟩
  rw [← eP_2] at hW ⊢
  refine wc_i hC hml (kX7_change l G Z P_2.1 P_2.2 (by rw [eP_2, (ok_passes hI1).2.1 0 (by omega)]; exact hkn1)) (cwV 1 hts gX7_pass_X7_change rfl rfl rfl (by decide +kernel) ⟨Nat.le_of_ble_eq_true rfl, Nat.le_of_ble_eq_true rfl⟩) hW hS (vM (by decide)) ce_m0 rfl rfl rfl rfl hl.1 (Nat.le_of_ble_eq_true rfl) dX7_pass_10 (fun H locs hW hS => ?_)
  obtain ⟨P_3, eP_3⟩ : ∃ y, y = fX7_change P_2.1 P_2.2 := ⟨_, rfl⟩
  rw [← eP_3] at hW ⊢
  have hf : fX7_pass B a1 = (P_3.1, P_3.2) := by
    subst eP_3
    subst eP_2
    subst eB_1
    exact rfl
  exact we_i hC hr hlocks (congrArg Prod.snd hf).symm (congrArg (fun u => wset Z 12 u.1) hf).symm hW hS dX7_pass_13

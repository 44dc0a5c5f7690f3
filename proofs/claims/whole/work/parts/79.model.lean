/-- only the numbers of the parser are others -/
def KF (B C : wB) : Prop := (∀ j q, j ≠ 0 → C j q = B j q) ∧ ∀ q, q < 5 → C 0 q = B 0 q
theorem kf_refl {B : wB} : KF B B := ⟨fun _ _ _ => rfl, fun _ _ => rfl⟩
theorem kf_trans {B C D : wB} (h1 : KF B C) (h2 : KF C D) : KF B D := ⟨fun j q h => (h2.1 j q h).trans (h1.1 j q h), fun q h => (h2.2 q h).trans (h1.2 q h)⟩
theorem kf_put {B C : wB} {p : Nat} {v : Int32} (h : KF B C) (hp : 5 ≤ p) : KF B (bput C 0 p v) := ⟨fun j q hj => (bput_j hj).trans (h.1 j q hj), fun q hq => (bput_q (by omega)).trans (h.2 q hq)⟩
theorem kf_sign {B : wB} {c : Int32} : KF B (fX7_sign B c) := by
  simp only [fX7_sign]
  repeat' split
  all_goals first | exact kf_put (kf_put kf_refl (by omega)) (by omega) | exact kf_put kf_refl (by omega)
theorem kf_digit {B : wB} : KF B (fX7_digit B).1 := by
  simp only [fX7_digit]
  repeat' split
  all_goals first | exact kf_put (kf_put kf_refl (by omega)) (by omega) | exact kf_put kf_refl (by omega)
theorem kf_number {B : wB} : KF B (fX7_number B).1 := by
  have h1 := @kf_digit B
  have h2 := fun v => kf_put (p := 5) (v := v) h1 (by omega)
  have h3 := fun v w => kf_put (p := 5) (v := v) (h2 w) (by omega)
  have h4 := fun v w x => kf_put (p := 5) (v := v) (h3 w x) (by omega)
  exact pr_ite (P := KF B) (pr_ite (P := KF B) h1 (pr_ite (P := KF B) h1 (pr_ite (P := KF B) (h2 _) (pr_ite (P := KF B) (h2 _) (pr_ite (P := KF B) (h3 _ _) (pr_ite (P := KF B) (h3 _ _) (pr_ite (P := KF B) (h4 _ _ _) (h4 _ _ _)))))))) h1
theorem kf_place {B : wB} : KF B (fX7_place B).1 := pr_ite (P := KF B) (pr_ite (P := KF B) (kf_trans (kf_put kf_refl (by omega)) kf_number) (kf_trans (kf_put kf_refl (by omega)) kf_number)) (kf_trans (kf_put kf_refl (by omega)) kf_number)
theorem kf_order {B : wB} : KF B (fX7_order B) := by
  have h0 : KF B (bput (bput B 0 7 (fX7_next B)) 0 5 (B 0 5 + 1)) := kf_put (kf_put kf_refl (by omega)) (by omega)
  have d : ∀ {C : wB} {q : Nat} {v : Int32}, KF B C → 5 ≤ q → KF B (bput (fX7_digit C).1 0 q v) := fun h hq => kf_put (kf_trans h kf_digit) hq
  have n : ∀ {C : wB} {q : Nat} {v : Int32}, KF B C → 5 ≤ q → KF B (bput (fX7_number C).1 0 q v) := fun h hq => kf_put (kf_trans h kf_number) hq
  have p : ∀ {C : wB} {q : Nat} {v : Int32}, KF B C → 5 ≤ q → KF B (bput (fX7_place C).1 0 q v) := fun h hq => kf_put (kf_trans h kf_place) hq
  have s : ∀ {C : wB} {c : Int32}, KF B C → KF B (fX7_sign C c) := fun h => kf_trans h kf_sign
  have bad : KF B (bput (bput B 0 7 (fX7_next B)) 0 6 1) := kf_put (kf_put kf_refl (by omega)) (by omega)
  exact (gen_ite (P := KF B) (d h0 (by decide)) (gen_ite (P := KF B) bad (gen_ite (P := KF B) bad (gen_ite (P := KF B) bad (gen_ite (P := KF B) (d (s (d h0 (by decide))) (by decide)) (gen_ite (P := KF B) (p (s (d h0 (by decide))) (by decide)) (gen_ite (P := KF B) (d h0 (by decide)) (gen_ite (P := KF B) bad (gen_ite (P := KF B) (p (s (d (s (n h0 (by decide))) (by decide))) (by decide)) (gen_ite (P := KF B) bad (gen_ite (P := KF B) bad (gen_ite (P := KF B) (d h0 (by decide)) (gen_ite (P := KF B) (n h0 (by decide)) bad)))))))))))))
theorem kf_if : ∀ (u : Nat) (B : wB), KF B (LX7_if u B) := by
  intro u
  induction u with
  | zero => exact fun B => kf_refl
  | succ u ih =>
    intro B
    exact gen_ite (P := KF B) (gen_ite (P := KF B) kf_order (gen_ite (P := KF B) (kf_trans (kf_trans kf_order kf_sign) (ih _)) (kf_trans kf_order kf_sign))) kf_order
theorem kf_isFaulty {B : wB} : KF B (fX7_isFaulty B).1 := kf_trans (kf_put (kf_put kf_refl (by omega)) (by omega)) (kf_if _ _)
theorem bI_kf {B C : wB} {M4 M : Nat} (h : bI B M4 M) (hk : KF B C) : bI C M4 M := mI_row h (fun q _ => hk.1 1 q (by decide))
def fX7_does (B : wB) : wB × Int32 :=
  if (B 0 7) = 108 then (let P_2 := fX7_loads B (B 0 8) (B 0 9)
    (P_2.1, P_2.2))
  else if (B 0 7) = 109 then (let P_4 := fX7_moves B (B 0 8) (B 0 9)
    (P_4.1, P_4.2))
  else if (B 0 7) = 110 then (let P_6 := fX7_addsShaft B (B 0 8)
    (P_6.1, P_6.2))
  else if (B 0 7) = 111 then (let P_8 := fX7_homes B (B 0 8)
    (P_8.1, P_8.2))
  else if (B 0 7) = 112 then (let P_10 := fX7_plans B (B 0 8) (B 0 9) (B 0 10)
    (P_10.1, P_10.2))
  else if (B 0 7) = 113 then (let P_12 := fX7_homes B (B 0 8)
    (P_12.1, P_12.2))
  else if (B 0 7) = 114 then (let P_14 := fX7_homes B (B 0 8)
    (P_14.1, P_14.2))
  else if (B 0 7) = 115 then (let P_16 := fX7_stops B (B 0 8)
    (P_16.1, P_16.2))
  else if (B 0 7) = 116 then (let P_18 := fX7_passes B (B 0 8)
    (P_18.1, P_18.2))
  else let P_19 := fX7_homes B (B 0 8)
  (P_19.1, P_19.2)
abbrev rX7_does : Room := { frames := 6, cells := 0, slots := 0, locals := 139 }
set_option maxHeartbeats 4000000 in
set_option maxRecDepth 100000 in
theorem kX7_does (l : Launch) (G : wG) (Z : wZ) (B : wB)  (M : Nat) (M4 : Nat) (hI : bI B M4 M) : mI l yX7_does wsX7_does rX7_does G [.ref (G.2.2.1 12 0)] (wset Z 12 B) (fX7_does B).2 (wset Z 12 (fX7_does B).1) := by
  refine Met.ofW (cc := cX7_does) (maxL := 1) (ret := (some .int)) (by decide) rfl ?_
  intro p e s m args below meth c s₁ B0 hml hv
  obtain ⟨rfl, hW, hK, hL⟩ := hv
  have hlocks := B0.notSynchronized
  have hr := B0.returns
  have hC : wX p s m c cX7_does _ wsX7_does RX7 G := ⟨B0.exec, B0.bytes, findClass_of_methodNamed B0.named, atoms_spec (ws := wsX7_does) B0.pre, hK, hL⟩
  have hx := hC.1
  have hb := hC.2.1
  have hts := hC.2.2.2.1
  have hinRX7 : ∀ w ∈ wsX70, w ∈ wsX7_does := by decide +kernel
  have hk0 := hts (.fieldLink RX7 175 "RampShaftsModel" "letter" "I") (by decide +kernel)
  have hk1 := hts (.fieldLink RX7 178 "RampShaftsModel" "first" "I") (by decide +kernel)
  have hk2 := hts (.fieldLink RX7 187 "RampShaftsModel" "second" "I") (by decide +kernel)
  have hk3 := hts (.fieldLink RX7 190 "RampShaftsModel" "third" "I") (by decide +kernel)
  have hS : va_S (wA G) s.heap s.heap [] := va_S.rf
  have hl := lv_entry ([.ref (G.2.2.1 12 0)]) (n := 1) (Nat.le_of_ble_eq_true rfl)
  rw [lg_entry_eq]
  generalize (lg_sl ([.ref (G.2.2.1 12 0)]) ++ List.replicate (1 - (lg_sl ([.ref (G.2.2.1 12 0)])).length) Slot.unset).toArray = ls at hl ⊢
  have hl : lv_has ls 1 [(0, .ref (G.2.2.1 12 0))] := hl
  refine lv_aload_n hx hb dX7_does_0 rfl (lv_at hl 0 rfl) ?_
  refine wr_get hC hinRX7 hW (vM (by decide)) ce_m0 rfl 13 (by decide) hk0 rfl dX7_does_1 ?_
  by_cases c_1 : (B 0 7) = 108
  · refine lv_re c_1 ?_
    refine lv_tableIn (tgt := 86) (off := 82) hx hb dX7_does_4 (by decide) (by decide) (by decide) (by decide) ?_
    refine lv_aload_n hx hb dX7_does_86 rfl (lv_at hl 0 rfl) ?_
    refine lv_aload_n hx hb dX7_does_87 rfl (lv_at hl 0 rfl) ?_
    refine wr_get hC hinRX7 hW (vM (by decide)) ce_m0 rfl 14 (by decide) hk1 rfl dX7_does_88 ?_
    refine lv_aload_n hx hb dX7_does_91 rfl (lv_at hl 0 rfl) ?_
    refine wr_get hC hinRX7 hW (vM (by decide)) ce_m0 rfl 15 (by decide) hk2 rfl dX7_does_92 ?_
    refine wc_i hC hml (kX7_loads l G Z B (B 0 8) (B 0 9) (hm_of hI)) (cwV 2 hts gX7_does_X7_loads rfl rfl rfl (by decide +kernel) ⟨Nat.le_of_ble_eq_true rfl, Nat.le_of_ble_eq_true rfl⟩) hW hS (vM (by decide)) ce_m0 rfl rfl rfl rfl hl.1 (Nat.le_of_ble_eq_true rfl) dX7_does_95 (fun H locs hW hS => ?_)
    obtain ⟨P_2, eP_2⟩ : ∃ y, y = fX7_loads B (B 0 8) (B 0 9) := ⟨_, rfl⟩
    rw [← eP_2] at hW ⊢
    have hf : fX7_does B = (P_2.1, P_2.2) := by
      subst eP_2
      exact (if_pos c_1).trans rfl
    exact we_i hC hr hlocks (congrArg Prod.snd hf).symm (congrArg (fun u => wset Z 12 u.1) hf).symm hW hS dX7_does_98
  by_cases c_3 : (B 0 7) = 109
  · refine lv_re c_3 ?_
    refine lv_tableIn (tgt := 56) (off := 52) hx hb dX7_does_4 (by decide) (by decide) (by decide) (by decide) ?_
    refine lv_aload_n hx hb dX7_does_56 rfl (lv_at hl 0 rfl) ?_
    refine lv_aload_n hx hb dX7_does_57 rfl (lv_at hl 0 rfl) ?_
    refine wr_get hC hinRX7 hW (vM (by decide)) ce_m0 rfl 14 (by decide) hk1 rfl dX7_does_58 ?_
    refine lv_aload_n hx hb dX7_does_61 rfl (lv_at hl 0 rfl) ?_
    refine wr_get hC hinRX7 hW (vM (by decide)) ce_m0 rfl 15 (by decide) hk2 rfl dX7_does_62 ?_
    refine wc_i hC hml (kX7_moves l G Z B (B 0 8) (B 0 9) (hm_of hI) (hmi_of hI) (hw_of hI)) (cwV 2 hts gX7_does_X7_moves rfl rfl rfl (by decide +kernel) ⟨Nat.le_of_ble_eq_true rfl, Nat.le_of_ble_eq_true rfl⟩) hW hS (vM (by decide)) ce_m0 rfl rfl rfl rfl hl.1 (Nat.le_of_ble_eq_true rfl) dX7_does_65 (fun H locs hW hS => ?_)
    obtain ⟨P_4, eP_4⟩ : ∃ y, y = fX7_moves B (B 0 8) (B 0 9) := ⟨_, rfl⟩
    rw [← eP_4] at hW ⊢
    have hf : fX7_does B = (P_4.1, P_4.2) := by
      subst eP_4
      exact (if_neg c_1).trans ((if_pos c_3).trans rfl)
    exact we_i hC hr hlocks (congrArg Prod.snd hf).symm (congrArg (fun u => wset Z 12 u.1) hf).symm hW hS dX7_does_68
  by_cases c_5 : (B 0 7) = 110
  · refine lv_re c_5 ?_
    refine lv_tableIn (tgt := 108) (off := 104) hx hb dX7_does_4 (by decide) (by decide) (by decide) (by decide) ?_
    refine lv_aload_n hx hb dX7_does_108 rfl (lv_at hl 0 rfl) ?_
    refine lv_aload_n hx hb dX7_does_109 rfl (lv_at hl 0 rfl) ?_
    refine wr_get hC hinRX7 hW (vM (by decide)) ce_m0 rfl 14 (by decide) hk1 rfl dX7_does_110 ?_
    refine wc_i hC hml (kX7_addsShaft l G Z B (B 0 8) (hm_of hI)) (cwV 1 hts gX7_does_X7_addsShaft rfl rfl rfl (by decide +kernel) ⟨Nat.le_of_ble_eq_true rfl, Nat.le_of_ble_eq_true rfl⟩) hW hS (vM (by decide)) ce_m0 rfl rfl rfl rfl hl.1 (Nat.le_of_ble_eq_true rfl) dX7_does_113 (fun H locs hW hS => ?_)
    obtain ⟨P_6, eP_6⟩ : ∃ y, y = fX7_addsShaft B (B 0 8) := ⟨_, rfl⟩
    rw [← eP_6] at hW ⊢
    have hf : fX7_does B = (P_6.1, P_6.2) := by
      subst eP_6
      exact (if_neg c_1).trans ((if_neg c_3).trans ((if_pos c_5).trans rfl))
    exact we_i hC hr hlocks (congrArg Prod.snd hf).symm (congrArg (fun u => wset Z 12 u.1) hf).symm hW hS dX7_does_116
  by_cases c_7 : (B 0 7) = 111
  · refine lv_re c_7 ?_
    refine lv_tableIn (tgt := 126) (off := 122) hx hb dX7_does_4 (by decide) (by decide) (by decide) (by decide) ?_
    refine lv_aload_n hx hb dX7_does_126 rfl (lv_at hl 0 rfl) ?_
    refine lv_aload_n hx hb dX7_does_127 rfl (lv_at hl 0 rfl) ?_
    refine wr_get hC hinRX7 hW (vM (by decide)) ce_m0 rfl 14 (by decide) hk1 rfl dX7_does_128 ?_
    refine wc_i hC hml (kX7_homes l G Z B (B 0 8) (hm_of hI)) (cwV 1 hts gX7_does_X7_homes rfl rfl rfl (by decide +kernel) ⟨Nat.le_of_ble_eq_true rfl, Nat.le_of_ble_eq_true rfl⟩) hW hS (vM (by decide)) ce_m0 rfl rfl rfl rfl hl.1 (Nat.le_of_ble_eq_true rfl) dX7_does_131 (fun H locs hW hS => ?_)
    obtain ⟨P_8, eP_8⟩ : ∃ y, y = fX7_homes B (B 0 8) := ⟨_, rfl⟩
    rw [← eP_8] at hW ⊢
    have hf : fX7_does B = (P_8.1, P_8.2) := by
      subst eP_8
      exact (if_neg c_1).trans ((if_neg c_3).trans ((if_neg c_5).trans ((if_pos c_7).trans rfl)))
    exact we_i hC hr hlocks (congrArg Prod.snd hf).symm (congrArg (fun u => wset Z 12 u.1) hf).symm hW hS dX7_does_134
  by_cases c_9 : (B 0 7) = 112
  · refine lv_re c_9 ?_
    refine lv_tableIn (tgt := 69) (off := 65) hx hb dX7_does_4 (by decide) (by decide) (by decide) (by decide) ?_
    refine lv_aload_n hx hb dX7_does_69 rfl (lv_at hl 0 rfl) ?_
    refine lv_aload_n hx hb dX7_does_70 rfl (lv_at hl 0 rfl) ?_
    refine wr_get hC hinRX7 hW (vM (by decide)) ce_m0 rfl 14 (by decide) hk1 rfl dX7_does_71 ?_
    refine lv_aload_n hx hb dX7_does_74 rfl (lv_at hl 0 rfl) ?_
    refine wr_get hC hinRX7 hW (vM (by decide)) ce_m0 rfl 15 (by decide) hk2 rfl dX7_does_75 ?_
    refine lv_aload_n hx hb dX7_does_78 rfl (lv_at hl 0 rfl) ?_
    refine wr_get hC hinRX7 hW (vM (by decide)) ce_m0 rfl 16 (by decide) hk3 rfl dX7_does_79 ?_
    refine wc_i hC hml (kX7_plans l G Z B (B 0 8) (B 0 9) (B 0 10) (hm_of hI) (hp_of hI)) (cwV 3 hts gX7_does_X7_plans rfl rfl rfl (by decide +kernel) ⟨Nat.le_of_ble_eq_true rfl, Nat.le_of_ble_eq_true rfl⟩) hW hS (vM (by decide)) ce_m0 rfl rfl rfl rfl hl.1 (Nat.le_of_ble_eq_true rfl) dX7_does_82 (fun H locs hW hS => ?_)
    obtain ⟨P_10, eP_10⟩ : ∃ y, y = fX7_plans B (B 0 8) (B 0 9) (B 0 10) := ⟨_, rfl⟩
    rw [← eP_10] at hW ⊢
    have hf : fX7_does B = (P_10.1, P_10.2) := by
      subst eP_10
      exact (if_neg c_1).trans ((if_neg c_3).trans ((if_neg c_5).trans ((if_neg c_7).trans ((if_pos c_9).trans rfl))))
    exact we_i hC hr hlocks (congrArg Prod.snd hf).symm (congrArg (fun u => wset Z 12 u.1) hf).symm hW hS dX7_does_85
  by_cases c_11 : (B 0 7) = 113
  · refine lv_re c_11 ?_
    refine lv_tableIn (tgt := 126) (off := 122) hx hb dX7_does_4 (by decide) (by decide) (by decide) (by decide) ?_
    refine lv_aload_n hx hb dX7_does_126 rfl (lv_at hl 0 rfl) ?_
    refine lv_aload_n hx hb dX7_does_127 rfl (lv_at hl 0 rfl) ?_
    refine wr_get hC hinRX7 hW (vM (by decide)) ce_m0 rfl 14 (by decide) hk1 rfl dX7_does_128 ?_
    refine wc_i hC hml (kX7_homes l G Z B (B 0 8) (hm_of hI)) (cwV 1 hts gX7_does_X7_homes rfl rfl rfl (by decide +kernel) ⟨Nat.le_of_ble_eq_true rfl, Nat.le_of_ble_eq_true rfl⟩) hW hS (vM (by decide)) ce_m0 rfl rfl rfl rfl hl.1 (Nat.le_of_ble_eq_true rfl) dX7_does_131 (fun H locs hW hS => ?_)
    obtain ⟨P_12, eP_12⟩ : ∃ y, y = fX7_homes B (B 0 8) := ⟨_, rfl⟩
    rw [← eP_12] at hW ⊢
    have hf : fX7_does B = (P_12.1, P_12.2) := by
      subst eP_12
      exact (if_neg c_1).trans ((if_neg c_3).trans ((if_neg c_5).trans ((if_neg c_7).trans ((if_neg c_9).trans ((if_pos c_11).trans rfl)))))
    exact we_i hC hr hlocks (congrArg Prod.snd hf).symm (congrArg (fun u => wset Z 12 u.1) hf).symm hW hS dX7_does_134
  by_cases c_13 : (B 0 7) = 114
  · refine lv_re c_13 ?_
    refine lv_tableIn (tgt := 126) (off := 122) hx hb dX7_does_4 (by decide) (by decide) (by decide) (by decide) ?_
    refine lv_aload_n hx hb dX7_does_126 rfl (lv_at hl 0 rfl) ?_
    refine lv_aload_n hx hb dX7_does_127 rfl (lv_at hl 0 rfl) ?_
    refine wr_get hC hinRX7 hW (vM (by decide)) ce_m0 rfl 14 (by decide) hk1 rfl dX7_does_128 ?_
    refine wc_i hC hml (kX7_homes l G Z B (B 0 8) (hm_of hI)) (cwV 1 hts gX7_does_X7_homes rfl rfl rfl (by decide +kernel) ⟨Nat.le_of_ble_eq_true rfl, Nat.le_of_ble_eq_true rfl⟩) hW hS (vM (by decide)) ce_m0 rfl rfl rfl rfl hl.1 (Nat.le_of_ble_eq_true rfl) dX7_does_131 (fun H locs hW hS => ?_)
    obtain ⟨P_14, eP_14⟩ : ∃ y, y = fX7_homes B (B 0 8) := ⟨_, rfl⟩
    rw [← eP_14] at hW ⊢
    have hf : fX7_does B = (P_14.1, P_14.2) := by
      subst eP_14
      exact (if_neg c_1).trans ((if_neg c_3).trans ((if_neg c_5).trans ((if_neg c_7).trans ((if_neg c_9).trans ((if_neg c_11).trans ((if_pos c_13).trans rfl))))))
    exact we_i hC hr hlocks (congrArg Prod.snd hf).symm (congrArg (fun u => wset Z 12 u.1) hf).symm hW hS dX7_does_134
  by_cases c_15 : (B 0 7) = 115
  · refine lv_re c_15 ?_
    refine lv_tableIn (tgt := 117) (off := 113) hx hb dX7_does_4 (by decide) (by decide) (by decide) (by decide) ?_
    refine lv_aload_n hx hb dX7_does_117 rfl (lv_at hl 0 rfl) ?_
    refine lv_aload_n hx hb dX7_does_118 rfl (lv_at hl 0 rfl) ?_
    refine wr_get hC hinRX7 hW (vM (by decide)) ce_m0 rfl 14 (by decide) hk1 rfl dX7_does_119 ?_
    refine wc_i hC hml (kX7_stops l G Z B (B 0 8) (hm_of hI)) (cwV 1 hts gX7_does_X7_stops rfl rfl rfl (by decide +kernel) ⟨Nat.le_of_ble_eq_true rfl, Nat.le_of_ble_eq_true rfl⟩) hW hS (vM (by decide)) ce_m0 rfl rfl rfl rfl hl.1 (Nat.le_of_ble_eq_true rfl) dX7_does_122 (fun H locs hW hS => ?_)
    obtain ⟨P_16, eP_16⟩ : ∃ y, y = fX7_stops B (B 0 8) := ⟨_, rfl⟩
    rw [← eP_16] at hW ⊢
    have hf : fX7_does B = (P_16.1, P_16.2) := by
      subst eP_16
      exact (if_neg c_1).trans ((if_neg c_3).trans ((if_neg c_5).trans ((if_neg c_7).trans ((if_neg c_9).trans ((if_neg c_11).trans ((if_neg c_13).trans ((if_pos c_15).trans rfl)))))))
    exact we_i hC hr hlocks (congrArg Prod.snd hf).symm (congrArg (fun u => wset Z 12 u.1) hf).symm hW hS dX7_does_125
  by_cases c_17 : (B 0 7) = 116
  · refine lv_re c_17 ?_
    refine lv_tableIn (tgt := 99) (off := 95) hx hb dX7_does_4 (by decide) (by decide) (by decide) (by decide) ?_
    refine lv_aload_n hx hb dX7_does_99 rfl (lv_at hl 0 rfl) ?_
    refine lv_aload_n hx hb dX7_does_100 rfl (lv_at hl 0 rfl) ?_
    refine wr_get hC hinRX7 hW (vM (by decide)) ce_m0 rfl 14 (by decide) hk1 rfl dX7_does_101 ?_
    refine wc_i hC hml (kX7_passes l G Z B (B 0 8) M M4 hI) (cwV 1 hts gX7_does_X7_passes rfl rfl rfl (by decide +kernel) ⟨Nat.le_of_ble_eq_true rfl, Nat.le_of_ble_eq_true rfl⟩) hW hS (vM (by decide)) ce_m0 rfl rfl rfl rfl hl.1 (Nat.le_of_ble_eq_true rfl) dX7_does_104 (fun H locs hW hS => ?_)
    obtain ⟨P_18, eP_18⟩ : ∃ y, y = fX7_passes B (B 0 8) := ⟨_, rfl⟩
    rw [← eP_18] at hW ⊢
    have hf : fX7_does B = (P_18.1, P_18.2) := by
      subst eP_18
      exact (if_neg c_1).trans ((if_neg c_3).trans ((if_neg c_5).trans ((if_neg c_7).trans ((if_neg c_9).trans ((if_neg c_11).trans ((if_neg c_13).trans ((if_neg c_15).trans ((if_pos c_17).trans rfl))))))))
    exact we_i hC hr hlocks (congrArg Prod.snd hf).symm (congrArg (fun u => wset Z 12 u.1) hf).symm hW hS dX7_does_107
  refine lv_tableOut (tgt := 126) hx hb dX7_does_4 (by
    have hz : ∀ k : Int32, ¬ (B 0 7) = k → ¬ (B 0 7).toInt = k.toInt := fun k h q => h (Int32.toInt_inj.mp q)
    have c_1z : ¬ (B 0 7).toInt = 108 := fun q => hz 108 c_1 (q.trans (by decide))
    have c_3z : ¬ (B 0 7).toInt = 109 := fun q => hz 109 c_3 (q.trans (by decide))
    have c_5z : ¬ (B 0 7).toInt = 110 := fun q => hz 110 c_5 (q.trans (by decide))
    have c_7z : ¬ (B 0 7).toInt = 111 := fun q => hz 111 c_7 (q.trans (by decide))
    have c_9z : ¬ (B 0 7).toInt = 112 := fun q => hz 112 c_9 (q.trans (by decide))
    have c_11z : ¬ (B 0 7).toInt = 113 := fun q => hz 113 c_11 (q.trans (by decide))
    have c_13z : ¬ (B 0 7).toInt = 114 := fun q => hz 114 c_13 (q.trans (by decide))
    have c_15z : ¬ (B 0 7).toInt = 115 := fun q => hz 115 c_15 (q.trans (by decide))
    have c_17z : ¬ (B 0 7).toInt = 116 := fun q => hz 116 c_17 (q.trans (by decide))
    omega) (by decide) ?_
  refine lv_aload_n hx hb dX7_does_126 rfl (lv_at hl 0 rfl) ?_
  refine lv_aload_n hx hb dX7_does_127 rfl (lv_at hl 0 rfl) ?_
  refine wr_get hC hinRX7 hW (vM (by decide)) ce_m0 rfl 14 (by decide) hk1 rfl dX7_does_128 ?_
  refine wc_i hC hml (kX7_homes l G Z B (B 0 8) (hm_of hI)) (cwV 1 hts gX7_does_X7_homes rfl rfl rfl (by decide +kernel) ⟨Nat.le_of_ble_eq_true rfl, Nat.le_of_ble_eq_true rfl⟩) hW hS (vM (by decide)) ce_m0 rfl rfl rfl rfl hl.1 (Nat.le_of_ble_eq_true rfl) dX7_does_131 (fun H locs hW hS => ?_)
  obtain ⟨P_19, eP_19⟩ : ∃ y, y = fX7_homes B (B 0 8) := ⟨_, rfl⟩
  rw [← eP_19] at hW ⊢
  have hf : fX7_does B = (P_19.1, P_19.2) := by
    subst eP_19
    exact (if_neg c_1).trans ((if_neg c_3).trans ((if_neg c_5).trans ((if_neg c_7).trans ((if_neg c_9).trans ((if_neg c_11).trans ((if_neg c_13).trans ((if_neg c_15).trans ((if_neg c_17).trans rfl))))))))
  exact we_i hC hr hlocks (congrArg Prod.snd hf).symm (congrArg (fun u => wset Z 12 u.1) hf).symm hW hS dX7_does_134
theorem ok_does {B : wB} {M4 M : Nat} (h : bI B M4 M) : OK B (fX7_does B).1 :=
  (pr_ite (P := OK B) (ok_loads h) (pr_ite (P := OK B) (ok_moves h) (pr_ite (P := OK B) (ok_addsShaft h) (pr_ite (P := OK B) (ok_homes h) (pr_ite (P := OK B) (ok_plans h) (pr_ite (P := OK B) (ok_homes h) (pr_ite (P := OK B) (ok_homes h) (pr_ite (P := OK B) (ok_stops h) (pr_ite (P := OK B) (ok_passes h) (ok_homes h))))))))))
theorem k0_records {B : wB} : (∀ q, 0 < q → (fX7_records B) 0 q = B 0 q) ∧ ∀ q, (fX7_records B) 1 q = B 1 q := by
  have key : ∀ C : wB, (∀ q, 0 < q → (gX7_recC C) 0 q = C 0 q) ∧ ∀ q, (gX7_recC C) 1 q = C 1 q := by
    intro C
    unfold gX7_recC gX7_rec
    exact ⟨fun q hq => (bput_q (by omega)).trans (rcp_o (by decide)), fun q => (bput_j (by decide)).trans (rcp_o (by decide))⟩
  unfold fX7_records
  split
  · obtain ⟨k1, k2⟩ := key (bput (rcp B 3 0 (fun q => B 3 (100 + q)) 500) 0 0 ((rcp B 3 0 (fun q => B 3 (100 + q)) 500) 0 0 - 1))
    exact ⟨fun q hq => (k1 q hq).trans ((bput_q (by omega)).trans (rcp_o (by decide))), fun q => (k2 q).trans ((bput_j (by decide)).trans (rcp_o (by decide)))⟩
  · exact key B
theorem co_z {B : wB} (hz : pzl B 0 95) (h : ¬ B 0 1 ≤ B 0 5) : pzl B 0 80 := by
  rw [Int32.le_iff_toInt_le] at h
  obtain ⟨h1, h2, h3⟩ := hz
  exact ⟨h1, by omega, h3⟩
theorem co_z2 {B C D : wB} (hz : pzl B 0 80) (hC : C = fX7_order B) (hD : D = bput C 0 5 (C 0 5 + 1)) : pzl D 0 95 ∧ (B 0 5).toInt + 1 ≤ (D 0 5).toInt := by
  subst hC
  have q : pzl B (B 0 5).toInt.toNat 80 := ⟨by have := hz.1; omega, hz.2.1, hz.2.2⟩
  have q1 := pzX7_order (by omega) q
  have q2 := pz_inc1 (v := (fX7_order B) 0 5 + 1) (by omega) q1 rfl
  rw [← hD] at q2
  have z := hz.1
  exact ⟨pz_mono q2 (by omega), by have := q2.1; omega⟩
theorem pz_k0 {B C : wB} {lo n : Nat} (h : pzl B lo n) (hk : K0 B C) : pzl C lo n := by
  unfold pzl
  rw [hk.1 5 (by omega), hk.1 1 (by omega)]
  exact h
def LX7_co : Nat → wB → Int32 → wB × Int32
  | 0, B, x => (B, x)
  | u + 1, B, x => if B 0 1 ≤ B 0 5 then (B, x)
    else if (fX7_does (bput (fX7_order B) 0 5 ((fX7_order B) 0 5 + 1))).2 < 0 then ((fX7_does (bput (fX7_order B) 0 5 ((fX7_order B) 0 5 + 1))).1, x + 0)
    else LX7_co u (fX7_does (bput (fX7_order B) 0 5 ((fX7_order B) 0 5 + 1))).1 (x + 1)
def gX7_ce (q : wB × Int32) : wB × Int32 := (bput q.1 0 1 0, q.2)
def fX7_carryOut (B : wB) : wB × Int32 := if (fX7_isFaulty B).2 = 0 then gX7_ce (LX7_co 81 (bput (fX7_records (fX7_isFaulty B).1) 0 5 0) 0) else ((fX7_isFaulty B).1, -3)
abbrev rX7_carryOut : Room := { frames := 7, cells := 0, slots := 0, locals := 159 }
set_option maxHeartbeats 4000000 in
set_option maxRecDepth 100000 in
theorem kX7_carryOut (l : Launch) (G : wG) (Z : wZ) (B : wB)  (M : Nat) (M4 : Nat) (hI : bI B M4 M) (hkn : 0 ≤ (B 0 0).toInt ∧ (B 0 0).toInt ≤ 6) (hln : 0 ≤ (B 0 1).toInt ∧ (B 0 1).toInt ≤ 80) : mI l yX7_carryOut wsX7_carryOut rX7_carryOut G [.ref (G.2.2.1 12 0)] (wset Z 12 B) (fX7_carryOut B).2 (wset Z 12 (fX7_carryOut B).1) := by
  refine Met.ofW (cc := cX7_carryOut) (maxL := 3) (ret := (some .int)) (by decide) rfl ?_
  intro p e s m args below meth c s₁ B0 hml hv
  obtain ⟨rfl, hW, hK, hL⟩ := hv
  have hlocks := B0.notSynchronized
  have hr := B0.returns
  have hC : wX p s m c cX7_carryOut _ wsX7_carryOut RX7 G := ⟨B0.exec, B0.bytes, findClass_of_methodNamed B0.named, atoms_spec (ws := wsX7_carryOut) B0.pre, hK, hL⟩
  have hx := hC.1
  have hb := hC.2.1
  have hts := hC.2.2.2.1
  have hinRX7 : ∀ w ∈ wsX70, w ∈ wsX7_carryOut := by decide +kernel
  have hk0 := hts (.fieldLink RX7 160 "RampShaftsModel" "spot" "I") (by decide +kernel)
  have hk1 := hts (.fieldLink RX7 149 "RampShaftsModel" "length" "I") (by decide +kernel)
  have hS : va_S (wA G) s.heap s.heap [] := va_S.rf
  have hl := lv_entry ([.ref (G.2.2.1 12 0)]) (n := 3) (Nat.le_of_ble_eq_true rfl)
  rw [lg_entry_eq]
  generalize (lg_sl ([.ref (G.2.2.1 12 0)]) ++ List.replicate (3 - (lg_sl ([.ref (G.2.2.1 12 0)])).length) Slot.unset).toArray = ls at hl ⊢
  have hl : lv_has ls 3 [(0, .ref (G.2.2.1 12 0))] := hl
  obtain ⟨R, hR⟩ : ∃ R, R = fX7_carryOut B := ⟨_, rfl⟩
  rw [← hR]
  unfold fX7_carryOut at hR
  refine lv_aload_n hx hb dX7_carryOut_0 rfl (lv_at hl 0 rfl) ?_
  refine wc_i hC hml (kX7_isFaulty l G Z B hln.2) (cwV 0 hts gX7_carryOut_X7_isFaulty rfl rfl rfl (by decide +kernel) ⟨Nat.le_of_ble_eq_true rfl, Nat.le_of_ble_eq_true rfl⟩) hW hS (vM (by decide)) ce_m0 rfl rfl rfl rfl hl.1 (Nat.le_of_ble_eq_true rfl) dX7_carryOut_1 (fun H locs hW hS => ?_)
  obtain ⟨P_1, eP_1⟩ : ∃ y, y = fX7_isFaulty B := ⟨_, rfl⟩
  rw [← eP_1] at hW ⊢
  try rw [← eP_1] at hR
  refine lv_if_eq (tgt := 10) hx hb dX7_carryOut_4 (by decide) (fun c_2 => ?_) (fun c_2 => ?_)
  · skip
    try rw [if_pos c_2] at hR
    have hkf : KF B P_1.1 := by rw [eP_1]; exact kf_isFaulty
    have hkn9 : 0 ≤ (P_1.1 0 0).toInt ∧ (P_1.1 0 0).toInt ≤ 6 := by rw [hkf.2 0 (by omega)]; exact hkn
    refine lv_aload_n hx hb dX7_carryOut_10 rfl (lv_at hl 0 rfl) ?_
    refine wc_v hC hml (kX7_records l G Z P_1.1 hkn9) (cwV 0 hts gX7_carryOut_X7_records rfl rfl rfl (by decide +kernel) ⟨Nat.le_of_ble_eq_true rfl, Nat.le_of_ble_eq_true rfl⟩) hW hS (vM (by decide)) ce_m0 rfl rfl rfl rfl hl.1 (Nat.le_of_ble_eq_true rfl) dX7_carryOut_11 (fun H locs hW hS => ?_)
    obtain ⟨B_3, eB_3⟩ : ∃ y, y = fX7_records P_1.1 := ⟨_, rfl⟩
    rw [← eB_3] at hW
    try rw [← eB_3] at hR
    have hI9 : bI (bput B_3 0 5 0) M4 M := bI_j (mI_row hI (fun q _ => by rw [eB_3, k0_records.2 q, hkf.1 1 q (by decide)])) (by decide)
    have hz9 : pzl (bput B_3 0 5 0) 0 95 := ⟨by rw [bput_h]; decide, by rw [bput_h]; decide, by rw [bput_q (by decide), eB_3, k0_records.1 1 (by omega), hkf.2 1 (by omega)]; exact hln.2⟩
    refine lv_iconst (v := 0) hx hb dX7_carryOut_14 (by decide) ?_
    refine lv_istore_n (lv' := [(1, .int 0), (0, .ref (G.2.2.1 12 0))]) hx hb dX7_carryOut_15 rfl hl (by decide) rfl (fun ls hl => ?_)
    refine lv_iconst (v := 1) hx hb dX7_carryOut_16 (by decide) ?_
    refine lv_istore_n (lv' := [(2, .int 1), (1, .int 0), (0, .ref (G.2.2.1 12 0))]) hx hb dX7_carryOut_17 rfl hl (by decide) rfl (fun ls hl => ?_)
    refine lv_aload_n hx hb dX7_carryOut_18 rfl (lv_at hl 2 rfl) ?_
    refine lv_iconst (v := 0) hx hb dX7_carryOut_19 (by decide) ?_
    refine wr_put (Z' := wset Z 12 (bput B_3 0 5 0)) (v := .int 0) hC hinRX7 tyX7 tyX7_ok nmX7 hW hS (vM (by decide)) ce_m0 rfl 11 (by decide) hk0 rfl (tyX7_ok 11 (by decide)) rfl rfl (Nat.le_of_ble_eq_true rfl) wset_off pu_m0_5 dX7_carryOut_20 (fun H locs hW hS => ?_)
    have hlp_4 : ∀ (u : Nat) (C : wB) (x : Int32) (M4 : Nat) (M : Nat), (hI : bI C M4 M) → (hz : pzl C 0 95) → (hu : (81 : Int) ≤ (C 0 5).toInt + u) → R = gX7_ce (LX7_co u C x) → ∀ (H : Heap) (locs : List Loc) (ls : Array Slot), wW G (wset Z 12 C) H → va_S (wA G) s.heap H locs → lv_has ls 3 [(0, .ref (G.2.2.1 12 0)), (1, .int x), (2, .int 1)] → W p l e (headSpec wsX7_carryOut rX7_carryOut).room s m ([.ref (G.2.2.1 12 0)] : List Value).toArray below meth c H locs 0 0 (qI below ([.ref (G.2.2.1 12 0)] : List Value).toArray s G R.2 (wset Z 12 R.1)) (F0 m 23 ls []) := by
      intro u
      induction u with
      | zero =>
        intro C x M4 M hI hz hu hR H locs ls hW hS hl
        simp only [LX7_co] at hR
        refine lv_iload_n hx hb dX7_carryOut_23 rfl (lv_at hl 2 rfl) ?_
        refine lv_if_eq (tgt := 80) hx hb dX7_carryOut_24 (by decide) (fun c_5 => ?_) (fun c_5 => ?_)
        · exact absurd c_5 (by decide)
        · skip
          refine lv_aload_n hx hb dX7_carryOut_27 rfl (lv_at hl 0 rfl) ?_
          refine wr_get hC hinRX7 hW (vM (by decide)) ce_m0 rfl 11 (by decide) hk0 rfl dX7_carryOut_28 ?_
          refine lv_aload_n hx hb dX7_carryOut_31 rfl (lv_at hl 0 rfl) ?_
          refine wr_get hC hinRX7 hW (vM (by decide)) ce_m0 rfl 7 (by decide) hk1 rfl dX7_carryOut_32 ?_
          refine lv_icmp_ge (tgt := 80) hx hb dX7_carryOut_35 (by decide) (fun c_6 => ?_) (fun c_6 => ?_)
          · skip
            unfold gX7_ce at hR
            try dsimp only at hR
            refine lv_aload_n hx hb dX7_carryOut_80 rfl (lv_at hl 0 rfl) ?_
            refine lv_iconst (v := 0) hx hb dX7_carryOut_81 (by decide) ?_
            refine wr_put (Z' := wset Z 12 (bput C 0 1 0)) (v := .int 0) hC hinRX7 tyX7 tyX7_ok nmX7 hW hS (vM (by decide)) ce_m0 rfl 7 (by decide) hk1 rfl (tyX7_ok 7 (by decide)) rfl rfl (Nat.le_of_ble_eq_true rfl) wset_off pu_m0_1 dX7_carryOut_82 (fun H locs hW hS => ?_)
            refine lv_iload_n hx hb dX7_carryOut_85 rfl (lv_at hl 1 rfl) ?_
            exact we_i hC hr hlocks (congrArg Prod.snd hR).symm (congrArg (fun u => wset Z 12 u.1) hR).symm hW hS dX7_carryOut_86
          · exact absurd (show C 0 1 ≤ C 0 5 by rw [Int32.le_iff_toInt_le]; have := hz.2.2; omega) c_6
      | succ u ih =>
        intro C x M4 M hI hz hu hR H locs ls hW hS hl
        simp only [LX7_co] at hR
        refine lv_iload_n hx hb dX7_carryOut_23 rfl (lv_at hl 2 rfl) ?_
        refine lv_if_eq (tgt := 80) hx hb dX7_carryOut_24 (by decide) (fun c_7 => ?_) (fun c_7 => ?_)
        · exact absurd c_7 (by decide)
        · skip
          refine lv_aload_n hx hb dX7_carryOut_27 rfl (lv_at hl 0 rfl) ?_
          refine wr_get hC hinRX7 hW (vM (by decide)) ce_m0 rfl 11 (by decide) hk0 rfl dX7_carryOut_28 ?_
          refine lv_aload_n hx hb dX7_carryOut_31 rfl (lv_at hl 0 rfl) ?_
          refine wr_get hC hinRX7 hW (vM (by decide)) ce_m0 rfl 7 (by decide) hk1 rfl dX7_carryOut_32 ?_
          refine lv_icmp_ge (tgt := 80) hx hb dX7_carryOut_35 (by decide) (fun c_8 => ?_) (fun c_8 => ?_)
          · skip
            try rw [if_pos c_8] at hR
            unfold gX7_ce at hR
            try dsimp only at hR
            refine lv_aload_n hx hb dX7_carryOut_80 rfl (lv_at hl 0 rfl) ?_
            refine lv_iconst (v := 0) hx hb dX7_carryOut_81 (by decide) ?_
            refine wr_put (Z' := wset Z 12 (bput C 0 1 0)) (v := .int 0) hC hinRX7 tyX7 tyX7_ok nmX7 hW hS (vM (by decide)) ce_m0 rfl 7 (by decide) hk1 rfl (tyX7_ok 7 (by decide)) rfl rfl (Nat.le_of_ble_eq_true rfl) wset_off pu_m0_1 dX7_carryOut_82 (fun H locs hW hS => ?_)
            refine lv_iload_n hx hb dX7_carryOut_85 rfl (lv_at hl 1 rfl) ?_
            exact we_i hC hr hlocks (congrArg Prod.snd hR).symm (congrArg (fun u => wset Z 12 u.1) hR).symm hW hS dX7_carryOut_86
          · skip
            try rw [if_neg c_8] at hR
            have hz8 := co_z hz c_8
            refine lv_aload_n hx hb dX7_carryOut_38 rfl (lv_at hl 0 rfl) ?_
            refine wc_v hC hml (kX7_order l G Z C 80 (by omega) hz8) (cwV 0 hts gX7_carryOut_X7_order rfl rfl rfl (by decide +kernel) ⟨Nat.le_of_ble_eq_true rfl, Nat.le_of_ble_eq_true rfl⟩) hW hS (vM (by decide)) ce_m0 rfl rfl rfl rfl hl.1 (Nat.le_of_ble_eq_true rfl) dX7_carryOut_39 (fun H locs hW hS => ?_)
            obtain ⟨B_9, eB_9⟩ : ∃ y, y = fX7_order C := ⟨_, rfl⟩
            rw [← eB_9] at hW
            try rw [← eB_9] at hR
            refine lv_aload_n hx hb dX7_carryOut_42 rfl (lv_at hl 0 rfl) ?_
            refine lv_dup hx hb dX7_carryOut_43 rfl ?_
            refine wr_get hC hinRX7 hW (vM (by decide)) ce_m0 rfl 11 (by decide) hk0 rfl dX7_carryOut_44 ?_
            refine lv_iconst (v := 1) hx hb dX7_carryOut_47 (by decide) ?_
            refine lv_iadd hx hb dX7_carryOut_48 ?_
            refine wr_put (Z' := wset Z 12 (bput B_9 0 5 ((B_9 0 5) + 1))) (v := .int ((B_9 0 5) + 1)) hC hinRX7 tyX7 tyX7_ok nmX7 hW hS (vM (by decide)) ce_m0 rfl 11 (by decide) hk0 rfl (tyX7_ok 11 (by decide)) rfl rfl (Nat.le_of_ble_eq_true rfl) wset_off pu_m0_5 dX7_carryOut_49 (fun H locs hW hS => ?_)
            obtain ⟨B_10, eB_10⟩ : ∃ y, y = (bput B_9 0 5 ((B_9 0 5) + 1)) := ⟨_, rfl⟩
            rw [← eB_10] at hW
            try rw [← eB_10] at hR
            have hz7 := co_z2 hz8 eB_9 eB_10
            have hIC : bI B_10 M4 M := by rw [eB_10, eB_9]; exact bI_j (bI_kf hI kf_order) (by decide)
            have hOK := ok_does hIC
            obtain ⟨M49, M9, hI8⟩ := hOK.1
            refine lv_aload_n hx hb dX7_carryOut_52 rfl (lv_at hl 0 rfl) ?_
            refine wc_i hC hml (kX7_does l G Z B_10 M M4 hIC) (cwV 0 hts gX7_carryOut_X7_does rfl rfl rfl (by decide +kernel) ⟨Nat.le_of_ble_eq_true rfl, Nat.le_of_ble_eq_true rfl⟩) hW hS (vM (by decide)) ce_m0 rfl rfl rfl rfl hl.1 (Nat.le_of_ble_eq_true rfl) dX7_carryOut_53 (fun H locs hW hS => ?_)
            obtain ⟨P_11, eP_11⟩ : ∃ y, y = fX7_does B_10 := ⟨_, rfl⟩
            rw [← eP_11] at hW ⊢
            try rw [← eP_11] at hR
            refine lv_if_lt (tgt := 63) hx hb dX7_carryOut_56 (by decide) (fun c_12 => ?_) (fun c_12 => ?_)
            · skip
              try rw [if_pos c_12] at hR
              refine lv_iconst (v := 0) hx hb dX7_carryOut_63 (by decide) ?_
              refine lv_istore_n (lv' := [(2, .int 0), (0, .ref (G.2.2.1 12 0)), (1, .int x)]) hx hb dX7_carryOut_64 rfl hl (by decide) rfl (fun ls hl => ?_)
              refine lv_iload_n hx hb dX7_carryOut_65 rfl (lv_at hl 2 rfl) ?_
              refine lv_iload_n hx hb dX7_carryOut_66 rfl (lv_at hl 0 rfl) ?_
              refine lv_if_eq (tgt := 74) hx hb dX7_carryOut_67 (by decide) (fun c_13 => ?_) (fun c_13 => ?_)
              · skip
                refine lv_iconst (v := 0) hx hb dX7_carryOut_74 (by decide) ?_
                refine lv_iadd hx hb dX7_carryOut_75 ?_
                refine lv_topi (fun x_14 ex_14 => ?_)
                try rw [← ex_14] at hR
                refine lv_istore_n (lv' := [(1, .int x_14), (2, .int 0), (0, .ref (G.2.2.1 12 0))]) hx hb dX7_carryOut_76 rfl hl (by decide) rfl (fun ls hl => ?_)
                refine lv_goto (tgt := 23) hx hb dX7_carryOut_77 (by decide) ?_
                refine lv_iload_n hx hb dX7_carryOut_23 rfl (lv_at hl 1 rfl) ?_
                refine lv_if_eq (tgt := 80) hx hb dX7_carryOut_24 (by decide) (fun c_15 => ?_) (fun c_15 => ?_)
                · skip
                  unfold gX7_ce at hR
                  try dsimp only at hR
                  refine lv_aload_n hx hb dX7_carryOut_80 rfl (lv_at hl 2 rfl) ?_
                  refine lv_iconst (v := 0) hx hb dX7_carryOut_81 (by decide) ?_
                  refine wr_put (Z' := wset Z 12 (bput P_11.1 0 1 0)) (v := .int 0) hC hinRX7 tyX7 tyX7_ok nmX7 hW hS (vM (by decide)) ce_m0 rfl 7 (by decide) hk1 rfl (tyX7_ok 7 (by decide)) rfl rfl (Nat.le_of_ble_eq_true rfl) wset_off pu_m0_1 dX7_carryOut_82 (fun H locs hW hS => ?_)
                  refine lv_iload_n hx hb dX7_carryOut_85 rfl (lv_at hl 0 rfl) ?_
                  exact we_i hC hr hlocks (congrArg Prod.snd hR).symm (congrArg (fun u => wset Z 12 u.1) hR).symm hW hS dX7_carryOut_86
                · exact absurd c_15 (by decide)
              · exact absurd c_13 (by decide)
            · skip
              try rw [if_neg c_12] at hR
              refine lv_iconst (v := 1) hx hb dX7_carryOut_59 (by decide) ?_
              refine lv_goto (tgt := 64) hx hb dX7_carryOut_60 (by decide) ?_
              refine lv_istore_n (lv' := [(2, .int 1), (0, .ref (G.2.2.1 12 0)), (1, .int x)]) hx hb dX7_carryOut_64 rfl hl (by decide) rfl (fun ls hl => ?_)
              refine lv_iload_n hx hb dX7_carryOut_65 rfl (lv_at hl 2 rfl) ?_
              refine lv_iload_n hx hb dX7_carryOut_66 rfl (lv_at hl 0 rfl) ?_
              refine lv_if_eq (tgt := 74) hx hb dX7_carryOut_67 (by decide) (fun c_16 => ?_) (fun c_16 => ?_)
              · exact absurd c_16 (by decide)
              · skip
                refine lv_iconst (v := 1) hx hb dX7_carryOut_70 (by decide) ?_
                refine lv_goto (tgt := 75) hx hb dX7_carryOut_71 (by decide) ?_
                refine lv_iadd hx hb dX7_carryOut_75 ?_
                refine lv_topi (fun x_17 ex_17 => ?_)
                try rw [← ex_17] at hR
                refine lv_istore_n (lv' := [(1, .int x_17), (2, .int 1), (0, .ref (G.2.2.1 12 0))]) hx hb dX7_carryOut_76 rfl hl (by decide) rfl (fun ls hl => ?_)
                refine lv_goto (tgt := 23) hx hb dX7_carryOut_77 (by decide) ?_
                exact ih P_11.1 x_17 M49 M9 (by rw [eP_11]; exact hI8) (by rw [eP_11]; exact pz_k0 hz7.1 hOK.2) (by rw [eP_11, hOK.2.1 5 (by omega)]; have := hz7.2; omega) hR _ _ _ hW hS (lv_sub hl [2, 0, 1] rfl)
    exact hlp_4 81 (bput B_3 0 5 0) 0 M4 M hI9 hz9 (by rw [bput_h]; decide) hR _ _ _ hW hS (lv_sub hl [2, 1, 0] rfl)
  · skip
    try rw [if_neg c_2] at hR
    refine lv_bipush (v := (-3)) hx hb dX7_carryOut_7 (by decide) ?_
    exact we_i hC hr hlocks (congrArg Prod.snd hR).symm (congrArg (fun u => wset Z 12 u.1) hR).symm hW hS dX7_carryOut_9

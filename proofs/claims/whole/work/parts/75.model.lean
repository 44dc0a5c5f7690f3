/-- a bench of the reference is in order: M4 shafts, M plans -/
def bI (B : wB) (M4 M : Nat) : Prop := tI B M4 ∧ B 1 63 = nI M ∧ M ≤ 12 ∧ pI B 0 M M4
theorem pc_inv {M M4 : Nat} (hM : M ≤ 12) : ∀ (u k q : Nat) (B : wB), k + u = M → q ≤ k → tI B M4 → pI B k M M4 → pI B 0 q M4 → tI (LX7_pc u k q B).2 M4 ∧ pI (LX7_pc u k q B).2 0 (LX7_pc u k q B).1 M4 ∧ (LX7_pc u k q B).1 ≤ M := by
  intro u
  induction u with
  | zero => exact fun k q B hk hq hT hI hJ => ⟨hT, hJ, by show q ≤ M; omega⟩
  | succ u ih =>
    intro k q B hk hq hT hI hJ
    simp only [LX7_pc]
    split
    · obtain ⟨j, hj, ej⟩ := hI k (Nat.le_refl k) (by omega)
      have hj4 : j < 4 := by have := hT.2.1; omega
      have e : (B 1 ((64 + (3 * k)) + 1)).toNatClampNeg = j := by rw [ej, nI_clamp (by omega)]
      rw [e]
      have hw := hT.2.2.2.1 j hj4
      have hs := se_comes (k := j) (B := B) (a := B 1 ((64 + (3 * k)) + 2)) (tn_of hw.1).1
      exact ih (k + 1) q _ (by omega) (by omega) (tI_se hj4 hT hs (wb_comes hw)) (pI_mono (pI_se hj4 hI hs)) (pI_se hj4 hJ hs)
    · refine ih (k + 1) (q + 1) _ (by omega) (by omega) (tI_put (tI_put (tI_put hT (by omega)) (by omega)) (by omega)) (pI_put (pI_put (pI_put (pI_mono hI) (by omega) (by omega)) (by omega) (by omega)) (by omega) (by omega)) ?_
      intro p h1 h2
      by_cases hp : p = q
      · subst hp
        obtain ⟨j, hj, ej⟩ := hI k (Nat.le_refl k) (by omega)
        exact ⟨j, hj, by rw [bput_q (by omega), bput_h]; exact ej⟩
      · obtain ⟨j, hj, ej⟩ := hJ p h1 (by omega)
        exact ⟨j, hj, by rw [bput_q (by omega), bput_q (by omega), bput_q (by omega)]; exact ej⟩
theorem plansCome_mI {B : wB} {M4 M : Nat} (h : bI B M4 M) : ∃ M', bI (fX7_plansCome B) M4 M' := by
  obtain ⟨hT, hM, h12, hI⟩ := h
  have e : (B 1 63).toNatClampNeg = M := by rw [hM, nI_clamp (by omega)]
  obtain ⟨g1, g2, g3⟩ := pc_inv h12 M 0 0 B (by omega) (Nat.le_refl 0) hT hI (fun p h1 h2 => absurd h2 (by omega))
  unfold fX7_plansCome
  rw [e]
  refine ⟨(LX7_pc M 0 0 B).1, ?_, ?_, by omega, ?_⟩
  · unfold gX7_pc
    obtain ⟨t1, t2, t3, t4, t5⟩ := g1
    refine tI_put ⟨?_, t2, fun j hj => ?_, fun j hj => ?_, ?_⟩ (by omega)
    · rw [show rcp (LX7_pc M 0 0 B).2 1 (64 + (3 * (LX7_pc M 0 0 B).1)) (fun _ => 0) (100 - (64 + (3 * (LX7_pc M 0 0 B).1))) 1 6 = (LX7_pc M 0 0 B).2 1 6 from if_neg (by omega)]; exact t1
    · rw [show rcp (LX7_pc M 0 0 B).2 1 (64 + (3 * (LX7_pc M 0 0 B).1)) (fun _ => 0) (100 - (64 + (3 * (LX7_pc M 0 0 B).1))) 1 (7 + 14 * j + 0) = (LX7_pc M 0 0 B).2 1 (7 + 14 * j + 0) from if_neg (by omega)]; exact t3 j hj
    · have t6 := t4 j hj
      unfold WB at t6 ⊢
      rw [show rcp (LX7_pc M 0 0 B).2 1 (64 + (3 * (LX7_pc M 0 0 B).1)) (fun _ => 0) (100 - (64 + (3 * (LX7_pc M 0 0 B).1))) 1 (7 + 14 * j + 8) = (LX7_pc M 0 0 B).2 1 (7 + 14 * j + 8) from if_neg (by omega)]
      exact t6
    · rw [show rcp (LX7_pc M 0 0 B).2 1 (64 + (3 * (LX7_pc M 0 0 B).1)) (fun _ => 0) (100 - (64 + (3 * (LX7_pc M 0 0 B).1))) 1 2 = (LX7_pc M 0 0 B).2 1 2 from if_neg (by omega)]; exact t5
  · unfold gX7_pc
    rw [bput_h]
  · intro p h1 h2
    obtain ⟨j, hj, ej⟩ := g2 p h1 h2
    refine ⟨j, hj, ?_⟩
    unfold gX7_pc
    rw [bput_q (by omega), show rcp (LX7_pc M 0 0 B).2 1 (64 + (3 * (LX7_pc M 0 0 B).1)) (fun _ => 0) (100 - (64 + (3 * (LX7_pc M 0 0 B).1))) 1 (64 + (3 * p) + 1) = (LX7_pc M 0 0 B).2 1 (64 + (3 * p) + 1) from if_neg (by omega)]
    exact ej
theorem mI_put5 {B : wB} {M4 M : Nat} {v : Int32} (h : bI B M4 M) : bI (bput B 1 5 v) M4 M := ⟨tI_put h.1 (by omega), (bput_q (by decide)).trans h.2.1, h.2.2.1, pI_put h.2.2.2 (by omega) h.2.2.1⟩
theorem mI_steps {B : wB} {M4 M k : Nat} (hk : k < 4) (h : bI B M4 M) : bI (fX7_steps B k) M4 M := ⟨tI_se hk h.1 se_steps (wb_steps (h.1.2.2.2.1 k hk)), (se_steps.1 63 (by omega)).trans h.2.1, h.2.2.1, pI_se hk h.2.2.2 se_steps⟩
theorem mI_row {B C : wB} {M4 M : Nat} (h : bI B M4 M) (hr : ∀ q, q < 100 → C 1 q = B 1 q) : bI C M4 M := by
  obtain ⟨⟨h1, h2, h3, h4, h5⟩, h6, h7, h8⟩ := h
  refine ⟨⟨(hr 6 (by omega)).trans h1, h2, fun j hj => ?_, fun j hj => ?_, ?_⟩, (hr 63 (by omega)).trans h6, h7, fun p p1 p2 => ?_⟩
  · rw [hr _ (by omega)]; exact h3 j hj
  · have t6 := h4 j hj
    unfold WB at t6 ⊢
    rw [hr _ (by omega)]; exact t6
  · rw [hr 2 (by omega)]; exact h5
  · obtain ⟨j, hj, ej⟩ := h8 p p1 p2
    exact ⟨j, hj, (hr _ (by omega)).trans ej⟩
def LX7_tk : Nat → Nat → wB → Int32 → wB × Int32
  | 0, _, B, x => (B, x)
  | u + 1, k, B, x => if fX7_rests B k = 0 then (if B 1 (7 + 14 * k + 7) = B 1 5 then LX7_tk u (k + 1) (fX7_steps B k) (x + 1) else LX7_tk u (k + 1) B x) else LX7_tk u (k + 1) B x
def gX7_tk (C : wB) : wB × Int32 := LX7_tk (C 1 6).toNatClampNeg 0 C 0
def fX7_ticks (B : wB) : wB × Int32 := gX7_tk (fX7_plansCome (bput B 1 5 (B 1 5 + 1)))
abbrev rX7_ticks : Room := { frames := 4, cells := 0, slots := 0, locals := 94 }
set_option maxHeartbeats 4000000 in
set_option maxRecDepth 100000 in
theorem kX7_ticks (l : Launch) (G : wG) (Z : wZ) (B : wB)  (M : Nat) (M4 : Nat) (hI : bI B M4 M) : mI l yX7_ticks wsX7_ticks rX7_ticks G [.ref (G.2.2.1 12 0)] (wset Z 12 B) (fX7_ticks B).2 (wset Z 12 (fX7_ticks B).1) := by
  refine Met.ofW (cc := cX7_ticks) (maxL := 3) (ret := (some .int)) (by decide) rfl ?_
  intro p e s m args below meth c s₁ B0 hml hv
  obtain ⟨rfl, hW, hK, hL⟩ := hv
  have hlocks := B0.notSynchronized
  have hr := B0.returns
  have hC : wX p s m c cX7_ticks _ wsX7_ticks RX7 G := ⟨B0.exec, B0.bytes, findClass_of_methodNamed B0.named, atoms_spec (ws := wsX7_ticks) B0.pre, hK, hL⟩
  have hx := hC.1
  have hb := hC.2.1
  have hts := hC.2.2.2.1
  have hinRX7 : ∀ w ∈ wsX70, w ∈ wsX7_ticks := by decide +kernel
  have hk0 := hts (.fieldLink RX7 7 "RampShaftsModel" "s" "[I") (by decide +kernel)
  have hS : va_S (wA G) s.heap s.heap [] := va_S.rf
  have hl := lv_entry ([.ref (G.2.2.1 12 0)]) (n := 3) (Nat.le_of_ble_eq_true rfl)
  rw [lg_entry_eq]
  generalize (lg_sl ([.ref (G.2.2.1 12 0)]) ++ List.replicate (3 - (lg_sl ([.ref (G.2.2.1 12 0)])).length) Slot.unset).toArray = ls at hl ⊢
  have hl : lv_has ls 3 [(0, .ref (G.2.2.1 12 0))] := hl
  obtain ⟨R, hR⟩ : ∃ R, R = fX7_ticks B := ⟨_, rfl⟩
  rw [← hR]
  unfold fX7_ticks at hR
  refine lv_iconst (v := 0) hx hb dX7_ticks_0 (by decide) ?_
  refine lv_istore_n (lv' := [(1, .int 0), (0, .ref (G.2.2.1 12 0))]) hx hb dX7_ticks_1 rfl hl (by decide) rfl (fun ls hl => ?_)
  refine lv_aload_n hx hb dX7_ticks_2 rfl (lv_at hl 1 rfl) ?_
  refine wr_get hC hinRX7 hW (vM (by decide)) ce_m0 rfl 0 (by decide) hk0 rfl dX7_ticks_3 ?_
  refine lv_iconst (v := 5) hx hb dX7_ticks_6 (by decide) ?_
  refine lv_dup2_11 hx hb dX7_ticks_7 rfl rfl ?_
  refine wr_ald (kA := 0) hC hW (vM (by decide)) ce_m1 rfl (vp_in_iff.mpr (by decide)) dX7_ticks_8 ?_
  refine lv_re (y := B 1 5) ((congrArg (B 1) (show (5 : Int32).toNatClampNeg = 5 by decide))) ?_
  refine lv_iconst (v := 1) hx hb dX7_ticks_9 (by decide) ?_
  refine lv_iadd hx hb dX7_ticks_10 ?_
  refine wr_ast (kA := 0) (Z' := wset Z 12 (bput B 1 (5 : Int32).toNatClampNeg ((B 1 5) + 1))) hC hW hS (vM (by decide)) ce_m1 rfl (vp_in_iff.mpr (by decide)) wset_off pu_m1 dX7_ticks_11 (fun H locs hW hS => ?_)
  have hW : wW G (wset Z 12 (bput B 1 5 ((B 1 5) + 1))) H := hW
  refine lv_aload_n hx hb dX7_ticks_12 rfl (lv_at hl 1 rfl) ?_
  obtain ⟨B_1, eB_1⟩ : ∃ y, y = (bput B 1 5 ((B 1 5) + 1)) := ⟨_, rfl⟩
  rw [← eB_1] at hW
  try rw [← eB_1] at hR
  refine wc_v hC hml (kX7_plansCome l G Z B_1 M (by rw [eB_1, bput_q (by decide)]; exact hI.2.1) hI.2.2.1 M4 (by rw [eB_1]; exact (mI_put5 hI).1) (by rw [eB_1]; exact (mI_put5 hI).2.2.2)) (cwV 0 hts gX7_ticks_X7_plansCome rfl rfl rfl (by decide +kernel) ⟨Nat.le_of_ble_eq_true rfl, Nat.le_of_ble_eq_true rfl⟩) hW hS (vM (by decide)) ce_m0 rfl rfl rfl rfl hl.1 (Nat.le_of_ble_eq_true rfl) dX7_ticks_13 (fun H locs hW hS => ?_)
  obtain ⟨B_2, eB_2⟩ : ∃ y, y = fX7_plansCome B_1 := ⟨_, rfl⟩
  rw [← eB_2] at hW
  try rw [← eB_2] at hR
  obtain ⟨M9, hM9⟩ := plansCome_mI (mI_put5 (v := B 1 5 + 1) hI)
  rw [← eB_1, ← eB_2] at hM9
  have hq9 : (B_2 1 6).toNatClampNeg = M4 := by rw [hM9.1.1, nI_clamp (by have := hM9.1.2.1; omega)]
  unfold gX7_tk at hR
  rw [hq9] at hR
  refine lv_iconst (v := 0) hx hb dX7_ticks_16 (by decide) ?_
  refine lv_istore_n (lv' := [(2, .int 0), (1, .int 0), (0, .ref (G.2.2.1 12 0))]) hx hb dX7_ticks_17 rfl hl (by decide) rfl (fun ls hl => ?_)
  have hlp_3 : ∀ (u : Nat) (k : Nat) (C : wB) (x : Int32), (hk : k + u = M4) → (hT : bI C M4 M9) → R = LX7_tk u k C x → ∀ (H : Heap) (locs : List Loc) (ls : Array Slot), wW G (wset Z 12 C) H → va_S (wA G) s.heap H locs → lv_has ls 3 [(0, .ref (G.2.2.1 12 0)), (1, .int x), (2, .int (nI k))] → W p l e (headSpec wsX7_ticks rX7_ticks).room s m ([.ref (G.2.2.1 12 0)] : List Value).toArray below meth c H locs 0 0 (qI below ([.ref (G.2.2.1 12 0)] : List Value).toArray s G R.2 (wset Z 12 R.1)) (F0 m 18 ls []) := by
    intro u
    induction u with
    | zero =>
      intro k C x hk hT hR H locs ls hW hS hl
      have hk4 : k = M4 := by omega
      have h44 := hT.1.2.1
      simp only [LX7_tk] at hR
      refine lv_iload_n hx hb dX7_ticks_18 rfl (lv_at hl 2 rfl) ?_
      refine lv_aload_n hx hb dX7_ticks_19 rfl (lv_at hl 0 rfl) ?_
      refine wr_get hC hinRX7 hW (vM (by decide)) ce_m0 rfl 0 (by decide) hk0 rfl dX7_ticks_20 ?_
      refine lv_bipush (v := 6) hx hb dX7_ticks_23 (by decide) ?_
      refine wr_ald (kA := 0) hC hW (vM (by decide)) ce_m1 rfl (vp_in_iff.mpr (by decide)) dX7_ticks_25 ?_
      refine lv_re (y := C 1 6) ((congrArg (C 1) (show (6 : Int32).toNatClampNeg = 6 by decide))) ?_
      refine lv_icmp_ge (tgt := 71) hx hb dX7_ticks_26 (by decide) (fun c_4 => ?_) (fun c_4 => ?_)
      · skip
        refine lv_iload_n hx hb dX7_ticks_71 rfl (lv_at hl 1 rfl) ?_
        exact we_i hC hr hlocks (congrArg Prod.snd hR).symm (congrArg (fun u => wset Z 12 u.1) hR).symm hW hS dX7_ticks_72
      · exact absurd (by rw [hT.1.1, nI_leI (by omega) (by omega)]; omega) c_4
    | succ u ih =>
      intro k C x hk hT hR H locs ls hW hS hl
      have h44 := hT.1.2.1
      simp only [LX7_tk] at hR
      refine lv_iload_n hx hb dX7_ticks_18 rfl (lv_at hl 2 rfl) ?_
      refine lv_aload_n hx hb dX7_ticks_19 rfl (lv_at hl 0 rfl) ?_
      refine wr_get hC hinRX7 hW (vM (by decide)) ce_m0 rfl 0 (by decide) hk0 rfl dX7_ticks_20 ?_
      refine lv_bipush (v := 6) hx hb dX7_ticks_23 (by decide) ?_
      refine wr_ald (kA := 0) hC hW (vM (by decide)) ce_m1 rfl (vp_in_iff.mpr (by decide)) dX7_ticks_25 ?_
      refine lv_re (y := C 1 6) ((congrArg (C 1) (show (6 : Int32).toNatClampNeg = 6 by decide))) ?_
      refine lv_icmp_ge (tgt := 71) hx hb dX7_ticks_26 (by decide) (fun c_5 => ?_) (fun c_5 => ?_)
      · exact absurd c_5 (by rw [hT.1.1, nI_leI (by omega) (by omega)]; omega)
      · skip
        refine lv_aload_n hx hb dX7_ticks_29 rfl (lv_at hl 0 rfl) ?_
        refine lv_iload_n hx hb dX7_ticks_30 rfl (lv_at hl 2 rfl) ?_
        refine wc_i hC hml (kX7_rests l G Z C k (by first | assumption | omega)) (cwV 1 hts gX7_ticks_X7_rests rfl rfl rfl (by decide +kernel) ⟨Nat.le_of_ble_eq_true rfl, Nat.le_of_ble_eq_true rfl⟩) hW hS (vM (by decide)) ce_m0 rfl rfl rfl rfl hl.1 (Nat.le_of_ble_eq_true rfl) dX7_ticks_31 (fun H locs hW hS => ?_)
        refine lv_topi (fun x_6 ex_6 => ?_)
        try rw [← ex_6] at hR
        refine lv_if_ne (tgt := 65) hx hb dX7_ticks_34 (by decide) (fun c_7 => ?_) (fun c_7 => ?_)
        · skip
          try rw [if_neg c_7] at hR
          refine lv_iinc (v := nI (k + 1)) (lv' := [(2, .int (nI (k + 1))), (0, .ref (G.2.2.1 12 0)), (1, .int x)]) hx hb dX7_ticks_65 hl (k := 2) rfl (nI_1 _) (by decide) rfl (fun ls hl => ?_)
          refine lv_goto (tgt := 18) hx hb dX7_ticks_68 (by decide) ?_
          exact ih (k + 1) C x (by omega) hT hR _ _ _ hW hS (lv_sub hl [1, 2, 0] rfl)
        · skip
          try rw [if_pos c_7] at hR
          refine lv_aload_n hx hb dX7_ticks_37 rfl (lv_at hl 0 rfl) ?_
          refine wr_get hC hinRX7 hW (vM (by decide)) ce_m0 rfl 0 (by decide) hk0 rfl dX7_ticks_38 ?_
          refine lv_iload_n hx hb dX7_ticks_41 rfl (lv_at hl 2 rfl) ?_
          refine lv_bipush (v := 7) hx hb dX7_ticks_42 (by decide) ?_
          refine wc_s hC hml (kX7_at l G (wset Z 12 C) k 7) (cwS 2 hts gX7_ticks_X7_at rfl rfl rfl (by decide +kernel) ⟨Nat.le_of_ble_eq_true rfl, Nat.le_of_ble_eq_true rfl⟩) hW hS rfl rfl hl.1 (Nat.le_of_ble_eq_true rfl) dX7_ticks_44 (fun H locs hW hS => ?_)
          refine lv_re (y := nI (7 + 14 * k + 7)) rfl ?_
          refine wr_ald (kA := 0) hC hW (vM (by decide)) ce_m1 rfl (vp_in_nI (show (7 + 14 * k + 7) < 100 by omega) (by decide)) dX7_ticks_47 ?_
          refine lv_re (y := C 1 (7 + 14 * k + 7)) ((congrArg (C 1) (nI_clamp (by omega)))) ?_
          refine lv_aload_n hx hb dX7_ticks_48 rfl (lv_at hl 0 rfl) ?_
          refine wr_get hC hinRX7 hW (vM (by decide)) ce_m0 rfl 0 (by decide) hk0 rfl dX7_ticks_49 ?_
          refine lv_iconst (v := 5) hx hb dX7_ticks_52 (by decide) ?_
          refine wr_ald (kA := 0) hC hW (vM (by decide)) ce_m1 rfl (vp_in_iff.mpr (by decide)) dX7_ticks_53 ?_
          refine lv_re (y := C 1 5) ((congrArg (C 1) (show (5 : Int32).toNatClampNeg = 5 by decide))) ?_
          refine lv_icmp_ne (tgt := 65) hx hb dX7_ticks_54 (by decide) (fun c_8 => ?_) (fun c_8 => ?_)
          · skip
            try rw [if_neg c_8] at hR
            refine lv_iinc (v := nI (k + 1)) (lv' := [(2, .int (nI (k + 1))), (0, .ref (G.2.2.1 12 0)), (1, .int x)]) hx hb dX7_ticks_65 hl (k := 2) rfl (nI_1 _) (by decide) rfl (fun ls hl => ?_)
            refine lv_goto (tgt := 18) hx hb dX7_ticks_68 (by decide) ?_
            exact ih (k + 1) C x (by omega) hT hR _ _ _ hW hS (lv_sub hl [1, 2, 0] rfl)
          · skip
            try rw [if_pos c_8] at hR
            refine lv_aload_n hx hb dX7_ticks_57 rfl (lv_at hl 0 rfl) ?_
            refine lv_iload_n hx hb dX7_ticks_58 rfl (lv_at hl 2 rfl) ?_
            refine wc_v hC hml (kX7_steps l G Z C k (by omega) (hT.1.2.2.1 k (by omega)) (hT.1.2.2.2.1 k (by omega)) hT.1.2.2.2.2) (cwV 1 hts gX7_ticks_X7_steps rfl rfl rfl (by decide +kernel) ⟨Nat.le_of_ble_eq_true rfl, Nat.le_of_ble_eq_true rfl⟩) hW hS (vM (by decide)) ce_m0 rfl rfl rfl rfl hl.1 (Nat.le_of_ble_eq_true rfl) dX7_ticks_59 (fun H locs hW hS => ?_)
            obtain ⟨B_9, eB_9⟩ : ∃ y, y = fX7_steps C k := ⟨_, rfl⟩
            rw [← eB_9] at hW
            try rw [← eB_9] at hR
            refine lv_iinc (v := x + 1) (lv' := [(1, .int (x + 1)), (0, .ref (G.2.2.1 12 0)), (2, .int (nI k))]) hx hb dX7_ticks_62 hl (k := 1) rfl (rfl) (by decide) rfl (fun ls hl => ?_)
            refine lv_iinc (v := nI (k + 1)) (lv' := [(2, .int (nI (k + 1))), (1, .int (x + 1)), (0, .ref (G.2.2.1 12 0))]) hx hb dX7_ticks_65 hl (k := 2) rfl (nI_1 _) (by decide) rfl (fun ls hl => ?_)
            refine lv_goto (tgt := 18) hx hb dX7_ticks_68 (by decide) ?_
            exact ih (k + 1) B_9 (x + 1) (by omega) (by rw [eB_9]; exact mI_steps (by have := hT.1.2.1; omega) hT) hR _ _ _ hW hS (lv_sub hl [2, 1, 0] rfl)
  exact hlp_3 M4 0 B_2 0 (Nat.zero_add _) hM9 hR _ _ _ hW hS (lv_sub hl [2, 1, 0] rfl)
theorem tk_mI {M4 M : Nat} : ∀ (u k : Nat) (C : wB) (x : Int32), k + u = M4 → bI C M4 M → bI (LX7_tk u k C x).1 M4 M := by
  intro u
  induction u with
  | zero => exact fun k C x _ h => h
  | succ u ih =>
    intro k C x hk h
    have h44 := h.1.2.1
    simp only [LX7_tk]
    split
    · split
      · exact ih _ _ _ (by omega) (mI_steps (by omega) h)
      · exact ih _ _ _ (by omega) h
    · exact ih _ _ _ (by omega) h
theorem ticks_mI {B : wB} {M4 M : Nat} (h : bI B M4 M) : ∃ M', bI (fX7_ticks B).1 M4 M' := by
  obtain ⟨M9, h9⟩ := plansCome_mI (mI_put5 (v := B 1 5 + 1) h)
  refine ⟨M9, ?_⟩
  unfold fX7_ticks gX7_tk
  rw [h9.1.1, nI_clamp (by have := h9.1.2.1; omega)]
  exact tk_mI _ _ _ _ (Nat.zero_add _) h9

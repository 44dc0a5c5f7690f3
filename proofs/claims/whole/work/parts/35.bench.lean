def stepMax : Nat := 5001
def LX0_due (B : wB) : Nat → Nat → Int32 → Option Nat × Int32
  | 0, _, x => (none, x)
  | u + 1, k, x => if fX0_isDue B (nI k) = 0 then LX0_due B u (k + 1) x else if x = 0 then (some k, x) else LX0_due B u (k + 1) (x + (-1))
def gX0_go (B : wB) (K : Int32 → wB × Int32) (q : Option Nat × Int32) : wB × Int32 := match q.1 with
  | some k => (B, nI k)
  | none => K q.2
def LX0_go (b : Int32) : Nat → wB → Int32 → wB × Int32
  | 0, B, _ => (B, -6)
  | u + 1, B, x => if fX0_nextEvent B - b ≤ 5000 then gX0_go (fX0_arriveAt B (fX0_nextEvent B)) (fun y => LX0_go b u (fX0_makeSteps (fX0_arriveAt B (fX0_nextEvent B))).1 y) (LX0_due (fX0_arriveAt B (fX0_nextEvent B)) 4 0 x) else (B, -6)
def fX0_goToStep (B : wB) (a1 : Int32) : wB × Int32 := LX0_go (B 0 2) stepMax B a1
abbrev rX0_goToStep : Room := { frames := 4, cells := 0, slots := 0, locals := 93 }
set_option maxHeartbeats 4000000 in
set_option maxRecDepth 100000 in
theorem kX0_goToStep (l : Launch) (G : wG) (Z : wZ) (i : Nat) (hi : i < 11) (B : wB) (a1 : Int32)  : mI l yX0_goToStep wsX0_goToStep rX0_goToStep G [.ref (G.2.2.1 i 0), .int a1] (wset Z i B) (fX0_goToStep B a1).2 (wset Z i (fX0_goToStep B a1).1) := by
  refine Met.ofW (cc := cX0_goToStep) (maxL := 7) (ret := (some .int)) (by decide) rfl ?_
  intro p e s m args below meth c s₁ B0 hml hv
  obtain ⟨rfl, hW, hK, hL⟩ := hv
  have hlocks := B0.notSynchronized
  have hr := B0.returns
  have hC : wX p s m c cX0_goToStep _ wsX0_goToStep RX0 G := ⟨B0.exec, B0.bytes, findClass_of_methodNamed B0.named, atoms_spec (ws := wsX0_goToStep) B0.pre, hK, hL⟩
  have hx := hC.1
  have hb := hC.2.1
  have hts := hC.2.2.2.1
  have hinRX0 : ∀ w ∈ wsX00, w ∈ wsX0_goToStep := by decide +kernel
  have hk0 := hts (.fieldLink RX0 49 "RampShafts$Bench" "time" "I") (by decide +kernel)
  have hk1 := hts (.fieldLink RX0 20 "RampShafts$Bench" "shafts" "[LRampShafts$Shaft;") (by decide +kernel)
  have hS : va_S (wA G) s.heap s.heap [] := va_S.rf
  have hl := lv_entry ([.ref (G.2.2.1 i 0), .int a1]) (n := 7) (Nat.le_of_ble_eq_true rfl)
  rw [lg_entry_eq]
  generalize (lg_sl ([.ref (G.2.2.1 i 0), .int a1]) ++ List.replicate (7 - (lg_sl ([.ref (G.2.2.1 i 0), .int a1])).length) Slot.unset).toArray = ls at hl ⊢
  have hl : lv_has ls 7 [(0, .ref (G.2.2.1 i 0)), (1, .int a1)] := hl
  obtain ⟨R, hR⟩ : ∃ R, R = fX0_goToStep B a1 := ⟨_, rfl⟩
  rw [← hR]
  unfold fX0_goToStep at hR
  refine lv_aload_n hx hb dX0_goToStep_0 rfl (lv_at hl 0 rfl) ?_
  refine wr_get hC hinRX0 hW (vB hi (by decide)) (ce_b0 hi) rfl 7 (by decide) hk0 rfl dX0_goToStep_1 ?_
  refine lv_topi (fun x9 ex9 => ?_)
  rw [← ex9] at hR
  refine lv_istore_n (lv' := [(2, .int x9), (0, .ref (G.2.2.1 i 0)), (1, .int a1)]) hx hb dX0_goToStep_4 rfl hl (by decide) rfl (fun ls hl => ?_)
  refine lv_iload_n hx hb dX0_goToStep_5 rfl (lv_at hl 2 rfl) ?_
  refine lv_istore_n (lv' := [(3, .int a1), (2, .int x9), (0, .ref (G.2.2.1 i 0)), (1, .int a1)]) hx hb dX0_goToStep_6 rfl hl (by decide) rfl (fun ls hl => ?_)
  refine lv_iconst (v := 0) hx hb dX0_goToStep_7 (by decide) ?_
  refine lv_istore (lv' := [(4, .int 0), (3, .int a1), (2, .int x9), (0, .ref (G.2.2.1 i 0)), (1, .int a1)]) hx hb dX0_goToStep_8 hl (by decide) rfl (fun ls hl => ?_)
  have hlp_1 : ∀ (u : Nat) (k : Nat) (B : wB) (x : Int32), (hk : k + u = 5001) → R = LX0_go x9 u B x → ∀ (H : Heap) (locs : List Loc) (ls : Array Slot), wW G (wset Z i B) H → va_S (wA G) s.heap H locs → lv_has ls 7 [(0, .ref (G.2.2.1 i 0)), (2, .int x9), (3, .int x), (4, .int (nI k))] → W p l e (headSpec wsX0_goToStep rX0_goToStep).room s m ([.ref (G.2.2.1 i 0), .int a1] : List Value).toArray below meth c H locs 0 0 (qI below ([.ref (G.2.2.1 i 0), .int a1] : List Value).toArray s G R.2 (wset Z i R.1)) (F0 m 10 ls []) := by
    intro u
    induction u with
    | zero =>
      intro k B x hk hR H locs ls hW hS hl
      simp only [LX0_go] at hR
      refine lv_iload hx hb dX0_goToStep_10 (lv_at hl 3 rfl) ?_
      refine lv_sipush (v := 5000) hx hb dX0_goToStep_12 (by decide) ?_
      refine lv_icmp_gt (tgt := 92) hx hb dX0_goToStep_15 (by decide) (fun c_2 => ?_) (fun c_2 => ?_)
      · skip
        refine lv_bipush (v := (-6)) hx hb dX0_goToStep_92 (by decide) ?_
        exact we_i hC hr hlocks (congrArg Prod.snd hR).symm (congrArg (fun u => wset Z i u.1) hR).symm hW hS dX0_goToStep_94
      · exact absurd ((nI_ltI (a := 5000) (by decide) (by omega)).mpr (by omega)) c_2
    | succ t ih =>
      intro k B x hk hR H locs ls hW hS hl
      simp only [LX0_go] at hR
      refine lv_iload hx hb dX0_goToStep_10 (lv_at hl 3 rfl) ?_
      refine lv_sipush (v := 5000) hx hb dX0_goToStep_12 (by decide) ?_
      refine lv_icmp_gt (tgt := 92) hx hb dX0_goToStep_15 (by decide) (fun c_3 => ?_) (fun c_3 => ?_)
      · exact absurd ((nI_ltI (a := 5000) (by decide) (by omega)).mp c_3) (by omega)
      · skip
        refine lv_aload_n hx hb dX0_goToStep_18 rfl (lv_at hl 0 rfl) ?_
        refine wc_i hC hml (kX0_nextEvent l G Z i hi B) (cwV 0 hts gX0_goToStep_X0_nextEvent rfl rfl rfl (by decide +kernel) ⟨Nat.le_of_ble_eq_true rfl, Nat.le_of_ble_eq_true rfl⟩) hW hS (vB hi (by decide)) (ce_b0 hi) rfl rfl rfl rfl hl.1 (Nat.le_of_ble_eq_true rfl) dX0_goToStep_19 (fun H locs hW hS => ?_)
        refine lv_topi (fun x_4 ex_4 => ?_)
        try rw [← ex_4] at hR
        refine lv_istore (lv' := [(5, .int x_4), (0, .ref (G.2.2.1 i 0)), (2, .int x9), (3, .int x), (4, .int (nI k))]) hx hb dX0_goToStep_22 hl (by decide) rfl (fun ls hl => ?_)
        refine lv_iload hx hb dX0_goToStep_24 (lv_at hl 0 rfl) ?_
        refine lv_iload_n hx hb dX0_goToStep_26 rfl (lv_at hl 2 rfl) ?_
        refine lv_isub hx hb dX0_goToStep_27 ?_
        refine lv_sipush (v := 5000) hx hb dX0_goToStep_28 (by decide) ?_
        refine lv_icmp_le (tgt := 37) hx hb dX0_goToStep_31 (by decide) (fun c_5 => ?_) (fun c_5 => ?_)
        · skip
          try rw [if_pos c_5] at hR
          refine lv_aload_n hx hb dX0_goToStep_37 rfl (lv_at hl 1 rfl) ?_
          refine lv_iload hx hb dX0_goToStep_38 (lv_at hl 0 rfl) ?_
          refine wc_v hC hml (kX0_arriveAt l G Z i hi B x_4) (cwV 1 hts gX0_goToStep_X0_arriveAt rfl rfl rfl (by decide +kernel) ⟨Nat.le_of_ble_eq_true rfl, Nat.le_of_ble_eq_true rfl⟩) hW hS (vB hi (by decide)) (ce_b0 hi) rfl rfl rfl rfl hl.1 (Nat.le_of_ble_eq_true rfl) dX0_goToStep_40 (fun H locs hW hS => ?_)
          obtain ⟨B_6, eB_6⟩ : ∃ y, y = fX0_arriveAt B x_4 := ⟨_, rfl⟩
          rw [← eB_6] at hW
          try rw [← eB_6] at hR
          refine lv_iconst (v := 0) hx hb dX0_goToStep_43 (by decide) ?_
          refine lv_istore (lv' := [(6, .int 0), (5, .int x_4), (0, .ref (G.2.2.1 i 0)), (2, .int x9), (3, .int x), (4, .int (nI k))]) hx hb dX0_goToStep_44 hl (by decide) rfl (fun ls hl => ?_)
          have hlp_7 : ∀ (u : Nat) (j : Nat) (y : Int32), (hj : j + u = 4) → R = gX0_go B_6 (fun y => LX0_go x9 t (fX0_makeSteps B_6).1 y) (LX0_due B_6 u j y) → ∀ (H : Heap) (locs : List Loc) (ls : Array Slot), wW G (wset Z i B_6) H → va_S (wA G) s.heap H locs → lv_has ls 7 [(0, .ref (G.2.2.1 i 0)), (2, .int x9), (3, .int y), (4, .int (nI k)), (6, .int (nI j))] → W p l e (headSpec wsX0_goToStep rX0_goToStep).room s m ([.ref (G.2.2.1 i 0), .int a1] : List Value).toArray below meth c H locs 0 0 (qI below ([.ref (G.2.2.1 i 0), .int a1] : List Value).toArray s G R.2 (wset Z i R.1)) (F0 m 46 ls []) := by
            intro u
            induction u with
            | zero =>
              intro j y hj hR H locs ls hW hS hl
              simp only [LX0_due, gX0_go] at hR
              refine lv_iload hx hb dX0_goToStep_46 (lv_at hl 4 rfl) ?_
              refine lv_aload_n hx hb dX0_goToStep_48 rfl (lv_at hl 0 rfl) ?_
              refine wr_get hC hinRX0 hW (vB hi (by decide)) (ce_b0 hi) rfl 1 (by decide) hk1 rfl dX0_goToStep_49 ?_
              refine wr_alen (v := 4) hC hW (vB hi (by decide)) (ce_b2 hi) (ty := .object _) rfl rfl dX0_goToStep_52 ?_
              refine lv_icmp_ge (tgt := 81) hx hb dX0_goToStep_53 (by decide) (fun c_8 => ?_) (fun c_8 => ?_)
              · skip
                refine lv_aload_n hx hb dX0_goToStep_81 rfl (lv_at hl 0 rfl) ?_
                refine wc_i hC hml (kX0_makeSteps l G Z i hi B_6) (cwV 0 hts gX0_goToStep_X0_makeSteps rfl rfl rfl (by decide +kernel) ⟨Nat.le_of_ble_eq_true rfl, Nat.le_of_ble_eq_true rfl⟩) hW hS (vB hi (by decide)) (ce_b0 hi) rfl rfl rfl rfl hl.1 (Nat.le_of_ble_eq_true rfl) dX0_goToStep_82 (fun H locs hW hS => ?_)
                obtain ⟨P_9, eP_9⟩ : ∃ y, y = fX0_makeSteps B_6 := ⟨_, rfl⟩
                rw [← eP_9] at hW ⊢
                try rw [← eP_9] at hR
                refine lv_pop hx hb dX0_goToStep_85 rfl ?_
                refine lv_iinc (v := nI (k + 1)) (lv' := [(4, .int (nI (k + 1))), (0, .ref (G.2.2.1 i 0)), (2, .int x9), (3, .int y), (6, .int (nI j))]) hx hb dX0_goToStep_86 hl (k := 3) rfl (nI_1 _) (by decide) rfl (fun ls hl => ?_)
                refine lv_goto (tgt := 10) hx hb dX0_goToStep_89 (by decide) ?_
                exact ih (k + 1) P_9.1 y (by omega) hR _ _ _ hW hS (lv_sub hl [1, 2, 3, 0] rfl)
              · exact absurd ((nI_leI (a := 4) (by decide) (by omega)).mpr (by omega)) c_8
            | succ u ih =>
              intro j y hj hR H locs ls hW hS hl
              simp only [LX0_due] at hR
              refine lv_iload hx hb dX0_goToStep_46 (lv_at hl 4 rfl) ?_
              refine lv_aload_n hx hb dX0_goToStep_48 rfl (lv_at hl 0 rfl) ?_
              refine wr_get hC hinRX0 hW (vB hi (by decide)) (ce_b0 hi) rfl 1 (by decide) hk1 rfl dX0_goToStep_49 ?_
              refine wr_alen (v := 4) hC hW (vB hi (by decide)) (ce_b2 hi) (ty := .object _) rfl rfl dX0_goToStep_52 ?_
              refine lv_icmp_ge (tgt := 81) hx hb dX0_goToStep_53 (by decide) (fun c_10 => ?_) (fun c_10 => ?_)
              · exact absurd ((nI_leI (a := 4) (by decide) (by omega)).mp c_10) (by omega)
              · skip
                refine lv_aload_n hx hb dX0_goToStep_56 rfl (lv_at hl 0 rfl) ?_
                refine lv_iload hx hb dX0_goToStep_57 (lv_at hl 4 rfl) ?_
                refine wc_i hC hml (kX0_isDue l G Z i hi B_6 (nI j)) (cwV 1 hts gX0_goToStep_X0_isDue rfl rfl rfl (by decide +kernel) ⟨Nat.le_of_ble_eq_true rfl, Nat.le_of_ble_eq_true rfl⟩) hW hS (vB hi (by decide)) (ce_b0 hi) rfl rfl rfl rfl hl.1 (Nat.le_of_ble_eq_true rfl) dX0_goToStep_59 (fun H locs hW hS => ?_)
                refine lv_topi (fun x_11 ex_11 => ?_)
                try rw [← ex_11] at hR
                refine lv_if_eq (tgt := 75) hx hb dX0_goToStep_62 (by decide) (fun c_12 => ?_) (fun c_12 => ?_)
                · skip
                  try rw [if_pos c_12] at hR
                  refine lv_iinc (v := nI (j + 1)) (lv' := [(6, .int (nI (j + 1))), (0, .ref (G.2.2.1 i 0)), (2, .int x9), (3, .int y), (4, .int (nI k))]) hx hb dX0_goToStep_75 hl (k := 4) rfl (nI_1 _) (by decide) rfl (fun ls hl => ?_)
                  refine lv_goto (tgt := 46) hx hb dX0_goToStep_78 (by decide) ?_
                  exact ih (j + 1) y (by omega) hR _ _ _ hW hS (lv_sub hl [1, 2, 3, 4, 0] rfl)
                · skip
                  try rw [if_neg c_12] at hR
                  refine lv_iload_n hx hb dX0_goToStep_65 rfl (lv_at hl 2 rfl) ?_
                  refine lv_if_ne (tgt := 72) hx hb dX0_goToStep_66 (by decide) (fun c_13 => ?_) (fun c_13 => ?_)
                  · skip
                    try rw [if_neg c_13] at hR
                    refine lv_iinc (v := y + (-1)) (lv' := [(3, .int (y + (-1))), (0, .ref (G.2.2.1 i 0)), (2, .int x9), (4, .int (nI k)), (6, .int (nI j))]) hx hb dX0_goToStep_72 hl (k := 2) rfl (rfl) (by decide) rfl (fun ls hl => ?_)
                    refine lv_iinc (v := nI (j + 1)) (lv' := [(6, .int (nI (j + 1))), (3, .int (y + (-1))), (0, .ref (G.2.2.1 i 0)), (2, .int x9), (4, .int (nI k))]) hx hb dX0_goToStep_75 hl (k := 4) rfl (nI_1 _) (by decide) rfl (fun ls hl => ?_)
                    refine lv_goto (tgt := 46) hx hb dX0_goToStep_78 (by decide) ?_
                    exact ih (j + 1) (y + (-1)) (by omega) hR _ _ _ hW hS (lv_sub hl [2, 3, 1, 4, 0] rfl)
                  · skip
                    try rw [if_pos c_13] at hR
                    refine lv_iload hx hb dX0_goToStep_69 (lv_at hl 4 rfl) ?_
                    exact we_i hC hr hlocks (congrArg Prod.snd hR).symm (congrArg (fun u => wset Z i u.1) hR).symm hW hS dX0_goToStep_71
          exact hlp_7 4 0 x rfl hR _ _ _ hW hS (lv_sub hl [2, 3, 4, 5, 0] rfl)
        · skip
          try rw [if_neg c_5] at hR
          refine lv_bipush (v := (-6)) hx hb dX0_goToStep_34 (by decide) ?_
          exact we_i hC hr hlocks (congrArg Prod.snd hR).symm (congrArg (fun u => wset Z i u.1) hR).symm hW hS dX0_goToStep_36
  exact hlp_1 stepMax 0 B a1 (by unfold stepMax; rfl) hR _ _ _ hW hS (lv_sub hl [3, 2, 1, 0] rfl)

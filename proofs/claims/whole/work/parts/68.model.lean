def LX7_wh (B : wB) (g h : Int32) : Nat → Int32 → Int32 → Int32 → Int32 → Int32 × Int32 × Int32
  | 0, _, t, x, w => (x, t, w)
  | u + 1, y, t, x, w => LX7_wh B g h u (fX7_nextLevel y (nI u) h) (if y ≤ t then t else y) (x + fX7_intervalBy B y g) (if w ≤ fX7_intervalBy B y g then w else fX7_intervalBy B y g)
def gX7_wh (a : Int32) (q : Int32 × Int32 × Int32) : Int32 := if a = 0 then q.1 else if a = 1 then q.2.1 else q.2.2
def fX7_whole (B : wB) (N : Nat) (a2 a3 : Int32) : Int32 := gX7_wh a3 (LX7_wh B a2 (fX7_highestBy B a2) N 0 0 0 (fX7_intervalBy B 0 a2))
abbrev rX7_whole : Room := { frames := 1, cells := 0, slots := 0, locals := 23 }
set_option maxHeartbeats 4000000 in
set_option maxRecDepth 100000 in
theorem kX7_whole (l : Launch) (G : wG) (Z : wZ) (B : wB) (N : Nat) (a2 : Int32) (a3 : Int32) (hN : N < 2 ^ 31) (hg : ¬ a2 = 0) : mI l yX7_whole wsX7_whole rX7_whole G [.ref (G.2.2.1 12 0), .int (nI N), .int a2, .int a3] (wset Z 12 B) (fX7_whole B N a2 a3) (wset Z 12 B) := by
  refine Met.ofW (cc := cX7_whole) (maxL := 11) (ret := (some .int)) (by decide) rfl ?_
  intro p e s m args below meth c s₁ B0 hml hv
  obtain ⟨rfl, hW, hK, hL⟩ := hv
  have hlocks := B0.notSynchronized
  have hr := B0.returns
  have hC : wX p s m c cX7_whole _ wsX7_whole RX7 G := ⟨B0.exec, B0.bytes, findClass_of_methodNamed B0.named, atoms_spec (ws := wsX7_whole) B0.pre, hK, hL⟩
  have hx := hC.1
  have hb := hC.2.1
  have hts := hC.2.2.2.1
  have hS : va_S (wA G) s.heap s.heap [] := va_S.rf
  have hl := lv_entry ([.ref (G.2.2.1 12 0), .int (nI N), .int a2, .int a3]) (n := 11) (Nat.le_of_ble_eq_true rfl)
  rw [lg_entry_eq]
  generalize (lg_sl ([.ref (G.2.2.1 12 0), .int (nI N), .int a2, .int a3]) ++ List.replicate (11 - (lg_sl ([.ref (G.2.2.1 12 0), .int (nI N), .int a2, .int a3])).length) Slot.unset).toArray = ls at hl ⊢
  have hl : lv_has ls 11 [(0, .ref (G.2.2.1 12 0)), (1, .int (nI N)), (2, .int a2), (3, .int a3)] := hl
  obtain ⟨R, hR⟩ : ∃ R, R = fX7_whole B N a2 a3 := ⟨_, rfl⟩
  rw [← hR]
  unfold fX7_whole at hR
  refine lv_aload_n hx hb dX7_whole_0 rfl (lv_at hl 0 rfl) ?_
  refine lv_iload_n hx hb dX7_whole_1 rfl (lv_at hl 2 rfl) ?_
  refine wc_i hC hml (kX7_highestBy l G Z B a2 hg) (cwV 1 hts gX7_whole_X7_highestBy rfl rfl rfl (by decide +kernel) ⟨Nat.le_of_ble_eq_true rfl, Nat.le_of_ble_eq_true rfl⟩) hW hS (vM (by decide)) ce_m0 rfl rfl rfl rfl hl.1 (Nat.le_of_ble_eq_true rfl) dX7_whole_2 (fun H locs hW hS => ?_)
  refine lv_topi (fun x_1 ex_1 => ?_)
  try rw [← ex_1] at hR
  refine lv_istore (lv' := [(4, .int x_1), (0, .ref (G.2.2.1 12 0)), (1, .int (nI N)), (2, .int a2), (3, .int a3)]) hx hb dX7_whole_5 hl (by decide) rfl (fun ls hl => ?_)
  refine lv_iconst (v := 0) hx hb dX7_whole_7 (by decide) ?_
  refine lv_istore (lv' := [(5, .int 0), (4, .int x_1), (0, .ref (G.2.2.1 12 0)), (1, .int (nI N)), (2, .int a2), (3, .int a3)]) hx hb dX7_whole_8 hl (by decide) rfl (fun ls hl => ?_)
  refine lv_iconst (v := 0) hx hb dX7_whole_10 (by decide) ?_
  refine lv_istore (lv' := [(6, .int 0), (5, .int 0), (4, .int x_1), (0, .ref (G.2.2.1 12 0)), (1, .int (nI N)), (2, .int a2), (3, .int a3)]) hx hb dX7_whole_11 hl (by decide) rfl (fun ls hl => ?_)
  refine lv_iconst (v := 0) hx hb dX7_whole_13 (by decide) ?_
  refine lv_istore (lv' := [(7, .int 0), (6, .int 0), (5, .int 0), (4, .int x_1), (0, .ref (G.2.2.1 12 0)), (1, .int (nI N)), (2, .int a2), (3, .int a3)]) hx hb dX7_whole_14 hl (by decide) rfl (fun ls hl => ?_)
  refine lv_aload_n hx hb dX7_whole_16 rfl (lv_at hl 4 rfl) ?_
  refine lv_iconst (v := 0) hx hb dX7_whole_17 (by decide) ?_
  refine lv_iload_n hx hb dX7_whole_18 rfl (lv_at hl 6 rfl) ?_
  refine wc_i hC hml (kX7_intervalBy l G Z B 0 a2) (cwV 2 hts gX7_whole_X7_intervalBy rfl rfl rfl (by decide +kernel) ⟨Nat.le_of_ble_eq_true rfl, Nat.le_of_ble_eq_true rfl⟩) hW hS (vM (by decide)) ce_m0 rfl rfl rfl rfl hl.1 (Nat.le_of_ble_eq_true rfl) dX7_whole_19 (fun H locs hW hS => ?_)
  refine lv_topi (fun x_2 ex_2 => ?_)
  try rw [← ex_2] at hR
  refine lv_istore (lv' := [(8, .int x_2), (7, .int 0), (6, .int 0), (5, .int 0), (4, .int x_1), (0, .ref (G.2.2.1 12 0)), (1, .int (nI N)), (2, .int a2), (3, .int a3)]) hx hb dX7_whole_22 hl (by decide) rfl (fun ls hl => ?_)
  refine lv_iload_n hx hb dX7_whole_24 rfl (lv_at hl 6 rfl) ?_
  refine lv_iconst (v := 1) hx hb dX7_whole_25 (by decide) ?_
  refine lv_isub hx hb dX7_whole_26 ?_
  refine lv_re (y := nI N + (-1)) (Int32.sub_eq_add_neg ..) ?_
  refine lv_istore (lv' := [(9, .int (nI N + (-1))), (8, .int x_2), (7, .int 0), (6, .int 0), (5, .int 0), (4, .int x_1), (0, .ref (G.2.2.1 12 0)), (1, .int (nI N)), (2, .int a2), (3, .int a3)]) hx hb dX7_whole_27 hl (by decide) rfl (fun ls hl => ?_)
  have hlp_3 : ∀ (u : Nat) (y : Int32) (t : Int32) (x : Int32) (w : Int32), (hu : u < 2 ^ 31) → R = gX7_wh a3 (LX7_wh B a2 x_1 u y t x w) → ∀ (H : Heap) (locs : List Loc) (ls : Array Slot), wW G (wset Z 12 B) H → va_S (wA G) s.heap H locs → lv_has ls 11 [(0, .ref (G.2.2.1 12 0)), (2, .int a2), (3, .int a3), (4, .int x_1), (5, .int y), (6, .int t), (7, .int x), (8, .int w), (9, .int (nI u + (-1)))] → W p l e (headSpec wsX7_whole rX7_whole).room s m ([.ref (G.2.2.1 12 0), .int (nI N), .int a2, .int a3] : List Value).toArray below meth c H locs 0 0 (qI below ([.ref (G.2.2.1 12 0), .int (nI N), .int a2, .int a3] : List Value).toArray s G R (wset Z 12 B)) (F0 m 29 ls []) := by
    intro u
    induction u with
    | zero =>
      intro y t x w hu hR H locs ls hW hS hl
      simp only [LX7_wh] at hR
      refine lv_iload hx hb dX7_whole_29 (lv_at hl 8 rfl) ?_
      refine lv_if_lt (tgt := 99) hx hb dX7_whole_31 (by decide) (fun c_4 => ?_) (fun c_4 => ?_)
      · skip
        unfold gX7_wh at hR
        simp only at hR
        refine lv_iload_n hx hb dX7_whole_99 rfl (lv_at hl 2 rfl) ?_
        refine lv_if_ne (tgt := 108) hx hb dX7_whole_100 (by decide) (fun c_5 => ?_) (fun c_5 => ?_)
        · skip
          try rw [if_neg c_5] at hR
          refine lv_iload_n hx hb dX7_whole_108 rfl (lv_at hl 2 rfl) ?_
          refine lv_iconst (v := 1) hx hb dX7_whole_109 (by decide) ?_
          refine lv_icmp_ne (tgt := 118) hx hb dX7_whole_110 (by decide) (fun c_6 => ?_) (fun c_6 => ?_)
          · skip
            try rw [if_neg c_6] at hR
            refine lv_iload hx hb dX7_whole_118 (lv_at hl 7 rfl) ?_
            exact we_i hC hr hlocks (v := w) (hR.symm) rfl hW hS dX7_whole_120
          · skip
            try rw [if_pos c_6] at hR
            refine lv_iload hx hb dX7_whole_113 (lv_at hl 5 rfl) ?_
            refine lv_goto (tgt := 120) hx hb dX7_whole_115 (by decide) ?_
            exact we_i hC hr hlocks (v := t) (hR.symm) rfl hW hS dX7_whole_120
        · skip
          try rw [if_pos c_5] at hR
          refine lv_iload hx hb dX7_whole_103 (lv_at hl 6 rfl) ?_
          refine lv_goto (tgt := 120) hx hb dX7_whole_105 (by decide) ?_
          exact we_i hC hr hlocks (v := x) (hR.symm) rfl hW hS dX7_whole_120
      · exact absurd (show (nI 0 + (-1) : Int32) < 0 by decide) c_4
    | succ u ih =>
      intro y t x w hu hR H locs ls hW hS hl
      simp only [LX7_wh] at hR
      rw [pk_m1] at hl
      refine lv_iload hx hb dX7_whole_29 (lv_at hl 8 rfl) ?_
      refine lv_if_lt (tgt := 99) hx hb dX7_whole_31 (by decide) (fun c_7 => ?_) (fun c_7 => ?_)
      · exact absurd c_7 (nI_pos (by omega))
      · skip
        refine lv_aload_n hx hb dX7_whole_34 rfl (lv_at hl 0 rfl) ?_
        refine lv_iload hx hb dX7_whole_35 (lv_at hl 4 rfl) ?_
        refine lv_iload_n hx hb dX7_whole_37 rfl (lv_at hl 1 rfl) ?_
        refine wc_i hC hml (kX7_intervalBy l G Z B y a2) (cwV 2 hts gX7_whole_X7_intervalBy rfl rfl rfl (by decide +kernel) ⟨Nat.le_of_ble_eq_true rfl, Nat.le_of_ble_eq_true rfl⟩) hW hS (vM (by decide)) ce_m0 rfl rfl rfl rfl hl.1 (Nat.le_of_ble_eq_true rfl) dX7_whole_38 (fun H locs hW hS => ?_)
        refine lv_topi (fun x_8 ex_8 => ?_)
        try rw [← ex_8] at hR
        refine lv_istore (lv' := [(10, .int x_8), (0, .ref (G.2.2.1 12 0)), (2, .int a2), (3, .int a3), (4, .int x_1), (5, .int y), (6, .int t), (7, .int x), (8, .int w), (9, .int (nI u))]) hx hb dX7_whole_41 hl (by decide) rfl (fun ls hl => ?_)
        refine lv_iload hx hb dX7_whole_43 (lv_at hl 7 rfl) ?_
        refine lv_iload hx hb dX7_whole_45 (lv_at hl 0 rfl) ?_
        refine lv_iadd hx hb dX7_whole_47 ?_
        refine lv_topi (fun x_9 ex_9 => ?_)
        try rw [← ex_9] at hR
        refine lv_istore (lv' := [(7, .int x_9), (10, .int x_8), (0, .ref (G.2.2.1 12 0)), (2, .int a2), (3, .int a3), (4, .int x_1), (5, .int y), (6, .int t), (8, .int w), (9, .int (nI u))]) hx hb dX7_whole_48 hl (by decide) rfl (fun ls hl => ?_)
        refine lv_iload hx hb dX7_whole_50 (lv_at hl 6 rfl) ?_
        refine lv_iload hx hb dX7_whole_52 (lv_at hl 7 rfl) ?_
        refine lv_icmp_le (tgt := 62) hx hb dX7_whole_54 (by decide) (fun c_10 => ?_) (fun c_10 => ?_)
        · skip
          try rw [if_pos c_10] at hR
          refine lv_iload hx hb dX7_whole_62 (lv_at hl 7 rfl) ?_
          refine lv_istore (lv' := [(6, .int t), (7, .int x_9), (10, .int x_8), (0, .ref (G.2.2.1 12 0)), (2, .int a2), (3, .int a3), (4, .int x_1), (5, .int y), (8, .int w), (9, .int (nI u))]) hx hb dX7_whole_64 hl (by decide) rfl (fun ls hl => ?_)
          refine lv_iload hx hb dX7_whole_66 (lv_at hl 2 rfl) ?_
          refine lv_iload hx hb dX7_whole_68 (lv_at hl 8 rfl) ?_
          refine lv_icmp_ge (tgt := 78) hx hb dX7_whole_70 (by decide) (fun c_11 => ?_) (fun c_11 => ?_)
          · skip
            try rw [if_pos c_11] at hR
            refine lv_iload hx hb dX7_whole_78 (lv_at hl 8 rfl) ?_
            refine lv_istore (lv' := [(8, .int w), (6, .int t), (7, .int x_9), (10, .int x_8), (0, .ref (G.2.2.1 12 0)), (2, .int a2), (3, .int a3), (4, .int x_1), (5, .int y), (9, .int (nI u))]) hx hb dX7_whole_80 hl (by decide) rfl (fun ls hl => ?_)
            refine lv_iload hx hb dX7_whole_82 (lv_at hl 8 rfl) ?_
            refine lv_iload hx hb dX7_whole_84 (lv_at hl 9 rfl) ?_
            refine lv_iload hx hb dX7_whole_86 (lv_at hl 7 rfl) ?_
            refine wc_s hC hml (kX7_nextLevel l G (wset Z 12 B) y (nI u) x_1) (cwS 3 hts gX7_whole_X7_nextLevel rfl rfl rfl (by decide +kernel) ⟨Nat.le_of_ble_eq_true rfl, Nat.le_of_ble_eq_true rfl⟩) hW hS rfl rfl hl.1 (Nat.le_of_ble_eq_true rfl) dX7_whole_88 (fun H locs hW hS => ?_)
            refine lv_topi (fun x_12 ex_12 => ?_)
            try rw [← ex_12] at hR
            refine lv_istore (lv' := [(5, .int x_12), (8, .int w), (6, .int t), (7, .int x_9), (10, .int x_8), (0, .ref (G.2.2.1 12 0)), (2, .int a2), (3, .int a3), (4, .int x_1), (9, .int (nI u))]) hx hb dX7_whole_91 hl (by decide) rfl (fun ls hl => ?_)
            refine lv_iinc (v := (nI u) + (-1)) (lv' := [(9, .int ((nI u) + (-1))), (5, .int x_12), (8, .int w), (6, .int t), (7, .int x_9), (10, .int x_8), (0, .ref (G.2.2.1 12 0)), (2, .int a2), (3, .int a3), (4, .int x_1)]) hx hb dX7_whole_93 hl (k := 9) rfl (rfl) (by decide) rfl (fun ls hl => ?_)
            refine lv_goto (tgt := 29) hx hb dX7_whole_96 (by decide) ?_
            exact ih x_12 t x_9 w (by omega) hR _ _ _ hW hS (lv_sub hl [6, 7, 8, 9, 1, 3, 4, 2, 0] rfl)
          · skip
            try rw [if_neg c_11] at hR
            refine lv_iload hx hb dX7_whole_73 (lv_at hl 2 rfl) ?_
            refine lv_goto (tgt := 80) hx hb dX7_whole_75 (by decide) ?_
            refine lv_istore (lv' := [(8, .int x_8), (6, .int t), (7, .int x_9), (10, .int x_8), (0, .ref (G.2.2.1 12 0)), (2, .int a2), (3, .int a3), (4, .int x_1), (5, .int y), (9, .int (nI u))]) hx hb dX7_whole_80 hl (by decide) rfl (fun ls hl => ?_)
            refine lv_iload hx hb dX7_whole_82 (lv_at hl 8 rfl) ?_
            refine lv_iload hx hb dX7_whole_84 (lv_at hl 9 rfl) ?_
            refine lv_iload hx hb dX7_whole_86 (lv_at hl 7 rfl) ?_
            refine wc_s hC hml (kX7_nextLevel l G (wset Z 12 B) y (nI u) x_1) (cwS 3 hts gX7_whole_X7_nextLevel rfl rfl rfl (by decide +kernel) ⟨Nat.le_of_ble_eq_true rfl, Nat.le_of_ble_eq_true rfl⟩) hW hS rfl rfl hl.1 (Nat.le_of_ble_eq_true rfl) dX7_whole_88 (fun H locs hW hS => ?_)
            refine lv_topi (fun x_13 ex_13 => ?_)
            try rw [← ex_13] at hR
            refine lv_istore (lv' := [(5, .int x_13), (8, .int x_8), (6, .int t), (7, .int x_9), (10, .int x_8), (0, .ref (G.2.2.1 12 0)), (2, .int a2), (3, .int a3), (4, .int x_1), (9, .int (nI u))]) hx hb dX7_whole_91 hl (by decide) rfl (fun ls hl => ?_)
            refine lv_iinc (v := (nI u) + (-1)) (lv' := [(9, .int ((nI u) + (-1))), (5, .int x_13), (8, .int x_8), (6, .int t), (7, .int x_9), (10, .int x_8), (0, .ref (G.2.2.1 12 0)), (2, .int a2), (3, .int a3), (4, .int x_1)]) hx hb dX7_whole_93 hl (k := 9) rfl (rfl) (by decide) rfl (fun ls hl => ?_)
            refine lv_goto (tgt := 29) hx hb dX7_whole_96 (by decide) ?_
            exact ih x_13 t x_9 x_8 (by omega) hR _ _ _ hW hS (lv_sub hl [6, 7, 8, 9, 1, 3, 4, 2, 0] rfl)
        · skip
          try rw [if_neg c_10] at hR
          refine lv_iload hx hb dX7_whole_57 (lv_at hl 6 rfl) ?_
          refine lv_goto (tgt := 64) hx hb dX7_whole_59 (by decide) ?_
          refine lv_istore (lv' := [(6, .int y), (7, .int x_9), (10, .int x_8), (0, .ref (G.2.2.1 12 0)), (2, .int a2), (3, .int a3), (4, .int x_1), (5, .int y), (8, .int w), (9, .int (nI u))]) hx hb dX7_whole_64 hl (by decide) rfl (fun ls hl => ?_)
          refine lv_iload hx hb dX7_whole_66 (lv_at hl 2 rfl) ?_
          refine lv_iload hx hb dX7_whole_68 (lv_at hl 8 rfl) ?_
          refine lv_icmp_ge (tgt := 78) hx hb dX7_whole_70 (by decide) (fun c_14 => ?_) (fun c_14 => ?_)
          · skip
            try rw [if_pos c_14] at hR
            refine lv_iload hx hb dX7_whole_78 (lv_at hl 8 rfl) ?_
            refine lv_istore (lv' := [(8, .int w), (6, .int y), (7, .int x_9), (10, .int x_8), (0, .ref (G.2.2.1 12 0)), (2, .int a2), (3, .int a3), (4, .int x_1), (5, .int y), (9, .int (nI u))]) hx hb dX7_whole_80 hl (by decide) rfl (fun ls hl => ?_)
            refine lv_iload hx hb dX7_whole_82 (lv_at hl 8 rfl) ?_
            refine lv_iload hx hb dX7_whole_84 (lv_at hl 9 rfl) ?_
            refine lv_iload hx hb dX7_whole_86 (lv_at hl 7 rfl) ?_
            refine wc_s hC hml (kX7_nextLevel l G (wset Z 12 B) y (nI u) x_1) (cwS 3 hts gX7_whole_X7_nextLevel rfl rfl rfl (by decide +kernel) ⟨Nat.le_of_ble_eq_true rfl, Nat.le_of_ble_eq_true rfl⟩) hW hS rfl rfl hl.1 (Nat.le_of_ble_eq_true rfl) dX7_whole_88 (fun H locs hW hS => ?_)
            refine lv_topi (fun x_15 ex_15 => ?_)
            try rw [← ex_15] at hR
            refine lv_istore (lv' := [(5, .int x_15), (8, .int w), (6, .int y), (7, .int x_9), (10, .int x_8), (0, .ref (G.2.2.1 12 0)), (2, .int a2), (3, .int a3), (4, .int x_1), (9, .int (nI u))]) hx hb dX7_whole_91 hl (by decide) rfl (fun ls hl => ?_)
            refine lv_iinc (v := (nI u) + (-1)) (lv' := [(9, .int ((nI u) + (-1))), (5, .int x_15), (8, .int w), (6, .int y), (7, .int x_9), (10, .int x_8), (0, .ref (G.2.2.1 12 0)), (2, .int a2), (3, .int a3), (4, .int x_1)]) hx hb dX7_whole_93 hl (k := 9) rfl (rfl) (by decide) rfl (fun ls hl => ?_)
            refine lv_goto (tgt := 29) hx hb dX7_whole_96 (by decide) ?_
            exact ih x_15 y x_9 w (by omega) hR _ _ _ hW hS (lv_sub hl [6, 7, 8, 9, 1, 3, 4, 2, 0] rfl)
          · skip
            try rw [if_neg c_14] at hR
            refine lv_iload hx hb dX7_whole_73 (lv_at hl 2 rfl) ?_
            refine lv_goto (tgt := 80) hx hb dX7_whole_75 (by decide) ?_
            refine lv_istore (lv' := [(8, .int x_8), (6, .int y), (7, .int x_9), (10, .int x_8), (0, .ref (G.2.2.1 12 0)), (2, .int a2), (3, .int a3), (4, .int x_1), (5, .int y), (9, .int (nI u))]) hx hb dX7_whole_80 hl (by decide) rfl (fun ls hl => ?_)
            refine lv_iload hx hb dX7_whole_82 (lv_at hl 8 rfl) ?_
            refine lv_iload hx hb dX7_whole_84 (lv_at hl 9 rfl) ?_
            refine lv_iload hx hb dX7_whole_86 (lv_at hl 7 rfl) ?_
            refine wc_s hC hml (kX7_nextLevel l G (wset Z 12 B) y (nI u) x_1) (cwS 3 hts gX7_whole_X7_nextLevel rfl rfl rfl (by decide +kernel) ⟨Nat.le_of_ble_eq_true rfl, Nat.le_of_ble_eq_true rfl⟩) hW hS rfl rfl hl.1 (Nat.le_of_ble_eq_true rfl) dX7_whole_88 (fun H locs hW hS => ?_)
            refine lv_topi (fun x_16 ex_16 => ?_)
            try rw [← ex_16] at hR
            refine lv_istore (lv' := [(5, .int x_16), (8, .int x_8), (6, .int y), (7, .int x_9), (10, .int x_8), (0, .ref (G.2.2.1 12 0)), (2, .int a2), (3, .int a3), (4, .int x_1), (9, .int (nI u))]) hx hb dX7_whole_91 hl (by decide) rfl (fun ls hl => ?_)
            refine lv_iinc (v := (nI u) + (-1)) (lv' := [(9, .int ((nI u) + (-1))), (5, .int x_16), (8, .int x_8), (6, .int y), (7, .int x_9), (10, .int x_8), (0, .ref (G.2.2.1 12 0)), (2, .int a2), (3, .int a3), (4, .int x_1)]) hx hb dX7_whole_93 hl (k := 9) rfl (rfl) (by decide) rfl (fun ls hl => ?_)
            refine lv_goto (tgt := 29) hx hb dX7_whole_96 (by decide) ?_
            exact ih x_16 y x_9 x_8 (by omega) hR _ _ _ hW hS (lv_sub hl [6, 7, 8, 9, 1, 3, 4, 2, 0] rfl)
  exact hlp_3 N 0 0 0 x_2 hN hR _ _ _ hW hS (lv_sub hl [6, 8, 9, 5, 4, 3, 2, 1, 0] rfl)
def fX7_moveOf (B : wB) (a1 : Int32) (a2 : Int32) : Int32 :=
  let x_1 := fX7_in a1 1 999
  if x_1 = 0 then (-2)
  else let x_3 := fX7_in a2 0 1
  if x_3 = 0 then (-2)
  else let x_5 := fX7_whole B a1.toNatClampNeg (B 1 2) a2
  x_5
abbrev rX7_moveOf : Room := { frames := 2, cells := 0, slots := 0, locals := 53 }
set_option maxHeartbeats 4000000 in
set_option maxRecDepth 100000 in
theorem kX7_moveOf (l : Launch) (G : wG) (Z : wZ) (B : wB) (a1 : Int32) (a2 : Int32) (hg : ¬ B 1 2 = 0) : mI l yX7_moveOf wsX7_moveOf rX7_moveOf G [.ref (G.2.2.1 12 0), .int a1, .int a2] (wset Z 12 B) (fX7_moveOf B a1 a2) (wset Z 12 B) := by
  refine Met.ofW (cc := cX7_moveOf) (maxL := 3) (ret := (some .int)) (by decide) rfl ?_
  intro p e s m args below meth c s₁ B0 hml hv
  obtain ⟨rfl, hW, hK, hL⟩ := hv
  have hlocks := B0.notSynchronized
  have hr := B0.returns
  have hC : wX p s m c cX7_moveOf _ wsX7_moveOf RX7 G := ⟨B0.exec, B0.bytes, findClass_of_methodNamed B0.named, atoms_spec (ws := wsX7_moveOf) B0.pre, hK, hL⟩
  have hx := hC.1
  have hb := hC.2.1
  have hts := hC.2.2.2.1
  have hinRX7 : ∀ w ∈ wsX70, w ∈ wsX7_moveOf := by decide +kernel
  have hk0 := hts (.fieldLink RX7 7 "RampShaftsModel" "s" "[I") (by decide +kernel)
  have hS : va_S (wA G) s.heap s.heap [] := va_S.rf
  have hl := lv_entry ([.ref (G.2.2.1 12 0), .int a1, .int a2]) (n := 3) (Nat.le_of_ble_eq_true rfl)
  rw [lg_entry_eq]
  generalize (lg_sl ([.ref (G.2.2.1 12 0), .int a1, .int a2]) ++ List.replicate (3 - (lg_sl ([.ref (G.2.2.1 12 0), .int a1, .int a2])).length) Slot.unset).toArray = ls at hl ⊢
  have hl : lv_has ls 3 [(0, .ref (G.2.2.1 12 0)), (1, .int a1), (2, .int a2)] := hl
  refine lv_iload_n hx hb dX7_moveOf_0 rfl (lv_at hl 1 rfl) ?_
  refine lv_iconst (v := 1) hx hb dX7_moveOf_1 (by decide) ?_
  refine lv_sipush (v := 999) hx hb dX7_moveOf_2 (by decide) ?_
  refine wc_s hC hml (kX7_in l G (wset Z 12 B) a1 1 999) (cwS 3 hts gX7_moveOf_X7_in rfl rfl rfl (by decide +kernel) ⟨Nat.le_of_ble_eq_true rfl, Nat.le_of_ble_eq_true rfl⟩) hW hS rfl rfl hl.1 (Nat.le_of_ble_eq_true rfl) dX7_moveOf_5 (fun H locs hW hS => ?_)
  refine lv_topi (fun x_1 ex_1 => ?_)
  refine lv_if_eq (tgt := 35) hx hb dX7_moveOf_8 (by decide) (fun c_2 => ?_) (fun c_2 => ?_)
  · skip
    refine lv_bipush (v := (-2)) hx hb dX7_moveOf_35 (by decide) ?_
    have hf : fX7_moveOf B a1 a2 = (-2) := by
      subst ex_1
      exact (if_pos c_2).trans rfl
    exact we_i hC hr hlocks hf.symm rfl hW hS dX7_moveOf_37
  · skip
    refine lv_iload_n hx hb dX7_moveOf_11 rfl (lv_at hl 2 rfl) ?_
    refine lv_iconst (v := 0) hx hb dX7_moveOf_12 (by decide) ?_
    refine lv_iconst (v := 1) hx hb dX7_moveOf_13 (by decide) ?_
    refine wc_s hC hml (kX7_in l G (wset Z 12 B) a2 0 1) (cwS 3 hts gX7_moveOf_X7_in rfl rfl rfl (by decide +kernel) ⟨Nat.le_of_ble_eq_true rfl, Nat.le_of_ble_eq_true rfl⟩) hW hS rfl rfl hl.1 (Nat.le_of_ble_eq_true rfl) dX7_moveOf_14 (fun H locs hW hS => ?_)
    refine lv_topi (fun x_3 ex_3 => ?_)
    refine lv_if_eq (tgt := 35) hx hb dX7_moveOf_17 (by decide) (fun c_4 => ?_) (fun c_4 => ?_)
    · skip
      refine lv_bipush (v := (-2)) hx hb dX7_moveOf_35 (by decide) ?_
      have hf : fX7_moveOf B a1 a2 = (-2) := by
        subst ex_3
        subst ex_1
        exact (if_neg c_2).trans ((if_pos c_4).trans rfl)
      exact we_i hC hr hlocks hf.symm rfl hW hS dX7_moveOf_37
    · skip
      refine lv_aload_n hx hb dX7_moveOf_20 rfl (lv_at hl 0 rfl) ?_
      refine lv_iload_n hx hb dX7_moveOf_21 rfl (lv_at hl 1 rfl) ?_
      have hi9 := in_ok (by rw [← ex_1]; exact c_2)
      have hj9 := tn_of (show 0 ≤ a1.toInt by rw [t1] at hi9; omega)
      refine lv_re (nI_self hj9.1) ?_
      refine lv_aload_n hx hb dX7_moveOf_22 rfl (lv_at hl 0 rfl) ?_
      refine wr_get hC hinRX7 hW (vM (by decide)) ce_m0 rfl 0 (by decide) hk0 rfl dX7_moveOf_23 ?_
      refine lv_iconst (v := 2) hx hb dX7_moveOf_26 (by decide) ?_
      refine wr_ald (kA := 0) hC hW (vM (by decide)) ce_m1 rfl (vp_in_iff.mpr (by decide)) dX7_moveOf_27 ?_
      refine lv_re (y := B 1 2) ((congrArg (B 1) (show (2 : Int32).toNatClampNeg = 2 by decide))) ?_
      refine lv_iload_n hx hb dX7_moveOf_28 rfl (lv_at hl 2 rfl) ?_
      refine wc_i hC hml (kX7_whole l G Z B a1.toNatClampNeg (B 1 2) a2 (toNat_lt _) hg) (cwV 3 hts gX7_moveOf_X7_whole rfl rfl rfl (by decide +kernel) ⟨Nat.le_of_ble_eq_true rfl, Nat.le_of_ble_eq_true rfl⟩) hW hS (vM (by decide)) ce_m0 rfl rfl rfl rfl hl.1 (Nat.le_of_ble_eq_true rfl) dX7_moveOf_29 (fun H locs hW hS => ?_)
      refine lv_topi (fun x_5 ex_5 => ?_)
      refine lv_goto (tgt := 37) hx hb dX7_moveOf_32 (by decide) ?_
      have hf : fX7_moveOf B a1 a2 = x_5 := by
        subst ex_5
        subst ex_3
        subst ex_1
        exact (if_neg c_2).trans ((if_neg c_4).trans rfl)
      exact we_i hC hr hlocks hf.symm rfl hW hS dX7_moveOf_37
def LX7_bg (B : wB) (N : Nat) (a2 : Int32) : Nat → Nat → Int32 → Int32
  | 0, _, x => x
  | u + 1, k, x => LX7_bg B N a2 u (k + 1) (if fX7_whole B N (nI k) 2 < fX7_needs B a2 then x else nI k)
def fX7_bestGain (B : wB) (a1 a2 : Int32) : Int32 := if fX7_in a1 1 999 = 0 then -2 else if fX7_in a2 0 9 = 0 then -2 else LX7_bg B a1.toNatClampNeg a2 40 1 (-6)
abbrev rX7_bestGain : Room := { frames := 2, cells := 0, slots := 0, locals := 53 }
set_option maxHeartbeats 4000000 in
set_option maxRecDepth 100000 in
theorem kX7_bestGain (l : Launch) (G : wG) (Z : wZ) (B : wB) (a1 : Int32) (a2 : Int32)  : mI l yX7_bestGain wsX7_bestGain rX7_bestGain G [.ref (G.2.2.1 12 0), .int a1, .int a2] (wset Z 12 B) (fX7_bestGain B a1 a2) (wset Z 12 B) := by
  refine Met.ofW (cc := cX7_bestGain) (maxL := 5) (ret := (some .int)) (by decide) rfl ?_
  intro p e s m args below meth c s₁ B0 hml hv
  obtain ⟨rfl, hW, hK, hL⟩ := hv
  have hlocks := B0.notSynchronized
  have hr := B0.returns
  have hC : wX p s m c cX7_bestGain _ wsX7_bestGain RX7 G := ⟨B0.exec, B0.bytes, findClass_of_methodNamed B0.named, atoms_spec (ws := wsX7_bestGain) B0.pre, hK, hL⟩
  have hx := hC.1
  have hb := hC.2.1
  have hts := hC.2.2.2.1
  have hS : va_S (wA G) s.heap s.heap [] := va_S.rf
  have hl := lv_entry ([.ref (G.2.2.1 12 0), .int a1, .int a2]) (n := 5) (Nat.le_of_ble_eq_true rfl)
  rw [lg_entry_eq]
  generalize (lg_sl ([.ref (G.2.2.1 12 0), .int a1, .int a2]) ++ List.replicate (5 - (lg_sl ([.ref (G.2.2.1 12 0), .int a1, .int a2])).length) Slot.unset).toArray = ls at hl ⊢
  have hl : lv_has ls 5 [(0, .ref (G.2.2.1 12 0)), (1, .int a1), (2, .int a2)] := hl
  obtain ⟨R, hR⟩ : ∃ R, R = fX7_bestGain B a1 a2 := ⟨_, rfl⟩
  rw [← hR]
  unfold fX7_bestGain at hR
  refine lv_iload_n hx hb dX7_bestGain_0 rfl (lv_at hl 1 rfl) ?_
  refine lv_iconst (v := 1) hx hb dX7_bestGain_1 (by decide) ?_
  refine lv_sipush (v := 999) hx hb dX7_bestGain_2 (by decide) ?_
  refine wc_s hC hml (kX7_in l G (wset Z 12 B) a1 1 999) (cwS 3 hts gX7_bestGain_X7_in rfl rfl rfl (by decide +kernel) ⟨Nat.le_of_ble_eq_true rfl, Nat.le_of_ble_eq_true rfl⟩) hW hS rfl rfl hl.1 (Nat.le_of_ble_eq_true rfl) dX7_bestGain_5 (fun H locs hW hS => ?_)
  refine lv_topi (fun x_1 ex_1 => ?_)
  try rw [← ex_1] at hR
  refine lv_if_eq (tgt := 21) hx hb dX7_bestGain_8 (by decide) (fun c_2 => ?_) (fun c_2 => ?_)
  · skip
    try rw [if_pos c_2] at hR
    refine lv_bipush (v := (-2)) hx hb dX7_bestGain_21 (by decide) ?_
    exact we_i hC hr hlocks (v := (-2)) (hR.symm) rfl hW hS dX7_bestGain_23
  · skip
    try rw [if_neg c_2] at hR
    refine lv_iload_n hx hb dX7_bestGain_11 rfl (lv_at hl 2 rfl) ?_
    refine lv_iconst (v := 0) hx hb dX7_bestGain_12 (by decide) ?_
    refine lv_bipush (v := 9) hx hb dX7_bestGain_13 (by decide) ?_
    refine wc_s hC hml (kX7_in l G (wset Z 12 B) a2 0 9) (cwS 3 hts gX7_bestGain_X7_in rfl rfl rfl (by decide +kernel) ⟨Nat.le_of_ble_eq_true rfl, Nat.le_of_ble_eq_true rfl⟩) hW hS rfl rfl hl.1 (Nat.le_of_ble_eq_true rfl) dX7_bestGain_15 (fun H locs hW hS => ?_)
    refine lv_topi (fun x_3 ex_3 => ?_)
    try rw [← ex_3] at hR
    refine lv_if_ne (tgt := 24) hx hb dX7_bestGain_18 (by decide) (fun c_4 => ?_) (fun c_4 => ?_)
    · skip
      try rw [if_neg c_4] at hR
      have hi9 := in_ok (by rw [← ex_1]; exact c_2)
      have hj9 := tn_of (show 0 ≤ a1.toInt by rw [t1] at hi9; omega)
      have ej9 := nI_self hj9.1
      rw [ej9] at hl
      refine lv_bipush (v := (-6)) hx hb dX7_bestGain_24 (by decide) ?_
      refine lv_istore_n (lv' := [(3, .int (-6)), (0, .ref (G.2.2.1 12 0)), (1, .int (nI a1.toNatClampNeg)), (2, .int a2)]) hx hb dX7_bestGain_26 rfl hl (by decide) rfl (fun ls hl => ?_)
      refine lv_iconst (v := 1) hx hb dX7_bestGain_27 (by decide) ?_
      refine lv_istore (lv' := [(4, .int 1), (3, .int (-6)), (0, .ref (G.2.2.1 12 0)), (1, .int (nI a1.toNatClampNeg)), (2, .int a2)]) hx hb dX7_bestGain_28 hl (by decide) rfl (fun ls hl => ?_)
      have hlp_5 : ∀ (u : Nat) (k : Nat) (x : Int32), (hk : k + u = 41) → (hk1 : 1 ≤ k) → R = LX7_bg B a1.toNatClampNeg a2 u k x → ∀ (H : Heap) (locs : List Loc) (ls : Array Slot), wW G (wset Z 12 B) H → va_S (wA G) s.heap H locs → lv_has ls 5 [(0, .ref (G.2.2.1 12 0)), (1, .int (nI a1.toNatClampNeg)), (2, .int a2), (3, .int x), (4, .int (nI k))] → W p l e (headSpec wsX7_bestGain rX7_bestGain).room s m ([.ref (G.2.2.1 12 0), .int a1, .int a2] : List Value).toArray below meth c H locs 0 0 (qI below ([.ref (G.2.2.1 12 0), .int a1, .int a2] : List Value).toArray s G R (wset Z 12 B)) (F0 m 30 ls []) := by
        intro u
        induction u with
        | zero =>
          intro k x hk hk1 hR H locs ls hW hS hl
          have hk4 : k = 41 := by omega
          simp only [LX7_bg] at hR
          refine lv_iload hx hb dX7_bestGain_30 (lv_at hl 4 rfl) ?_
          refine lv_bipush (v := 40) hx hb dX7_bestGain_32 (by decide) ?_
          refine lv_icmp_gt (tgt := 66) hx hb dX7_bestGain_34 (by decide) (fun c_6 => ?_) (fun c_6 => ?_)
          · skip
            refine lv_iload_n hx hb dX7_bestGain_66 rfl (lv_at hl 3 rfl) ?_
            exact we_i hC hr hlocks (v := x) (hR.symm) rfl hW hS dX7_bestGain_67
          · exact absurd ((nI_ltI (a := 40) (by decide) (by omega)).mpr (by omega)) c_6
        | succ u ih =>
          intro k x hk hk1 hR H locs ls hW hS hl
          simp only [LX7_bg] at hR
          refine lv_iload hx hb dX7_bestGain_30 (lv_at hl 4 rfl) ?_
          refine lv_bipush (v := 40) hx hb dX7_bestGain_32 (by decide) ?_
          refine lv_icmp_gt (tgt := 66) hx hb dX7_bestGain_34 (by decide) (fun c_7 => ?_) (fun c_7 => ?_)
          · exact absurd ((nI_ltI (a := 40) (by decide) (by omega)).mp c_7) (by omega)
          · skip
            refine lv_aload_n hx hb dX7_bestGain_37 rfl (lv_at hl 0 rfl) ?_
            refine lv_iload_n hx hb dX7_bestGain_38 rfl (lv_at hl 1 rfl) ?_
            refine lv_iload hx hb dX7_bestGain_39 (lv_at hl 4 rfl) ?_
            refine lv_iconst (v := 2) hx hb dX7_bestGain_41 (by decide) ?_
            refine wc_i hC hml (kX7_whole l G Z B a1.toNatClampNeg (nI k) 2 (toNat_lt _) (nI_ne0 (by omega) (by omega))) (cwV 3 hts gX7_bestGain_X7_whole rfl rfl rfl (by decide +kernel) ⟨Nat.le_of_ble_eq_true rfl, Nat.le_of_ble_eq_true rfl⟩) hW hS (vM (by decide)) ce_m0 rfl rfl rfl rfl hl.1 (Nat.le_of_ble_eq_true rfl) dX7_bestGain_42 (fun H locs hW hS => ?_)
            refine lv_topi (fun x_8 ex_8 => ?_)
            try rw [← ex_8] at hR
            refine lv_aload_n hx hb dX7_bestGain_45 rfl (lv_at hl 0 rfl) ?_
            refine lv_iload_n hx hb dX7_bestGain_46 rfl (lv_at hl 2 rfl) ?_
            refine wc_i hC hml (kX7_needs l G Z B a2) (cwV 1 hts gX7_bestGain_X7_needs rfl rfl rfl (by decide +kernel) ⟨Nat.le_of_ble_eq_true rfl, Nat.le_of_ble_eq_true rfl⟩) hW hS (vM (by decide)) ce_m0 rfl rfl rfl rfl hl.1 (Nat.le_of_ble_eq_true rfl) dX7_bestGain_47 (fun H locs hW hS => ?_)
            refine lv_topi (fun x_9 ex_9 => ?_)
            try rw [← ex_9] at hR
            refine lv_icmp_lt (tgt := 58) hx hb dX7_bestGain_50 (by decide) (fun c_10 => ?_) (fun c_10 => ?_)
            · skip
              try rw [if_pos c_10] at hR
              refine lv_iload_n hx hb dX7_bestGain_58 rfl (lv_at hl 3 rfl) ?_
              refine lv_istore_n (lv' := [(3, .int x), (0, .ref (G.2.2.1 12 0)), (1, .int (nI a1.toNatClampNeg)), (2, .int a2), (4, .int (nI k))]) hx hb dX7_bestGain_59 rfl hl (by decide) rfl (fun ls hl => ?_)
              refine lv_iinc (v := nI (k + 1)) (lv' := [(4, .int (nI (k + 1))), (3, .int x), (0, .ref (G.2.2.1 12 0)), (1, .int (nI a1.toNatClampNeg)), (2, .int a2)]) hx hb dX7_bestGain_60 hl (k := 4) rfl (nI_1 _) (by decide) rfl (fun ls hl => ?_)
              refine lv_goto (tgt := 30) hx hb dX7_bestGain_63 (by decide) ?_
              exact ih (k + 1) x (by omega) (by omega) hR _ _ _ hW hS (lv_sub hl [2, 3, 4, 1, 0] rfl)
            · skip
              try rw [if_neg c_10] at hR
              refine lv_iload hx hb dX7_bestGain_53 (lv_at hl 4 rfl) ?_
              refine lv_goto (tgt := 59) hx hb dX7_bestGain_55 (by decide) ?_
              refine lv_istore_n (lv' := [(3, .int (nI k)), (0, .ref (G.2.2.1 12 0)), (1, .int (nI a1.toNatClampNeg)), (2, .int a2), (4, .int (nI k))]) hx hb dX7_bestGain_59 rfl hl (by decide) rfl (fun ls hl => ?_)
              refine lv_iinc (v := nI (k + 1)) (lv' := [(4, .int (nI (k + 1))), (3, .int (nI k)), (0, .ref (G.2.2.1 12 0)), (1, .int (nI a1.toNatClampNeg)), (2, .int a2)]) hx hb dX7_bestGain_60 hl (k := 4) rfl (nI_1 _) (by decide) rfl (fun ls hl => ?_)
              refine lv_goto (tgt := 30) hx hb dX7_bestGain_63 (by decide) ?_
              exact ih (k + 1) (nI k) (by omega) (by omega) hR _ _ _ hW hS (lv_sub hl [2, 3, 4, 1, 0] rfl)
      exact hlp_5 40 1 (-6) rfl (Nat.le_refl 1) hR _ _ _ hW hS (lv_sub hl [2, 3, 4, 1, 0] rfl)
    · skip
      try rw [if_pos c_4] at hR
      refine lv_bipush (v := (-2)) hx hb dX7_bestGain_21 (by decide) ?_
      exact we_i hC hr hlocks (v := (-2)) (hR.symm) rfl hW hS dX7_bestGain_23

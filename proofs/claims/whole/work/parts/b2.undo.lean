/-! set, undo, save, restore -/
/-- the state is kept on the history -/
theorem LR_kept {Z Z' : wZ} {D : wB} (hL : LR Z) (hb : RT (Z' 0) (Z' 12 1)) (hm : ∀ i, 1 < i → i < 11 → Z' i = fX1_mark Z i) (h1 : Z' 11 1 = fX1_keepMarked (Z 11) 1) (h4 : Z' 11 4 = Z 11 4) (h6 : Z' 11 6 = Z 11 6) (h7 : Z' 11 7 = Z 11 7)
    (d0 : D 0 0 = Z 12 0 0) (d1 : ∀ q, q < 100 → D 1 q = Z 12 1 q) (d3 : D 3 = Z 12 3) (e0 : Z' 12 0 0 = fX7_records D 0 0) (e01 : Z' 12 0 1 = Z 12 0 1) (e02 : Z' 12 0 2 = Z 12 0 2) (e3 : Z' 12 3 = fX7_records D 3) (e4 : Z' 12 4 = Z 12 4) (e5 : Z' 12 5 = Z 12 5) (e6 : Z' 12 6 = Z 12 6) : LR Z' := by
  obtain ⟨l1, l2, l3, l4, l5⟩ := hL
  have hl3 := l3
  obtain ⟨kept, mark, k1, k2, k3, -⟩ := hl3
  have hmk := mark_eq k3 k2
  refine ⟨hb, e02.trans l2, hR_push l3 l1 (fun i a b => hm i (by omega) b) h1 d0 d1 d3 e0 e3, sR_c l4 ?_ ?_ h4 e4 e5, pR_c l5 h6 h7 e01 e6⟩
  · rw [hm 2 (by decide) (by decide), hmk, ws_o (by omega)]
  · rw [hm 3 (by decide) (by decide), hmk, ws_o (by omega)]
/-- the state is not kept -/
theorem LR_left {Z Z' : wZ} (hL : LR Z) (hb : RT (Z' 0) (Z' 12 1)) (hm : ∀ i, 1 < i → i < 11 → Z' i = fX1_mark Z i) (h1 : Z' 11 1 = Z 11 1) (h4 : Z' 11 4 = Z 11 4) (h6 : Z' 11 6 = Z 11 6) (h7 : Z' 11 7 = Z 11 7)
    (e0 : Z' 12 0 0 = Z 12 0 0) (e01 : Z' 12 0 1 = Z 12 0 1) (e02 : Z' 12 0 2 = Z 12 0 2) (e3 : Z' 12 3 = Z 12 3) (e4 : Z' 12 4 = Z 12 4) (e5 : Z' 12 5 = Z 12 5) (e6 : Z' 12 6 = Z 12 6) : LR Z' := by
  obtain ⟨l1, l2, l3, l4, l5⟩ := hL
  have hl3 := l3
  obtain ⟨kept, mark, k1, k2, k3, -⟩ := hl3
  have hmk := mark_eq k3 k2
  refine ⟨hb, e02.trans l2, hR_c l3 (fun i a b => ?_) h1 e0 e3, sR_c l4 ?_ ?_ h4 e4 e5, pR_c l5 h6 h7 e01 e6⟩
  · rw [hm i (by omega) b, hmk]
    by_cases d : i = 4 + mark
    · exact Or.inr ⟨mark, k3, k2, d⟩
    · exact Or.inl (ws_o d)
  · rw [hm 2 (by decide) (by decide), hmk, ws_o (by omega)]
  · rw [hm 3 (by decide) (by decide), hmk, ws_o (by omega)]
theorem mk_o {Z : wZ} (hL : LR Z) {i : Nat} (h : i < 4 ∨ 11 ≤ i) : fX1_mark Z i = Z i := by
  obtain ⟨kept, mark, k1, k2, k3, -⟩ := hL.2.2.1
  rw [mark_eq k3 k2, ws_o (by omega)]
theorem kp_o {Z : wZ} (hL : LR Z) {j : Nat} (h : j ≠ 1) : fX1_keepMarked (Z 11) j = Z 11 j := by
  obtain ⟨kept, mark, k1, k2, k3, k4, -⟩ := hL.2.2.1
  exact (keep_eq k3 k2 k4 k1).2.2 j h
theorem rc_o {Z : wZ} (hL : LR Z) : (∀ q, q ≠ 0 → fX7_records (Z 12) 0 q = Z 12 0 q) ∧ ∀ j, j ≠ 0 → j ≠ 3 → fX7_records (Z 12) j = Z 12 j := by
  obtain ⟨kept, mark, k1, k2, k3, k4, k5, -⟩ := hL.2.2.1
  have := rec_spec k1 k5
  exact ⟨this.2.1, this.2.2.1⟩
theorem s_set : sT_set LR := by
  intro Z a b hL
  obtain ⟨m, M, T, hB, ⟨hT, hT2⟩, hm⟩ := LR_b hL
  unfold fX6_set fX7_set
  dsimp only
  rw [hm]
  rcases d_set hB a b with ⟨h1, h2⟩ | ⟨h1, h2, h3, h4, h5⟩
  · have hr : (if fX7_in a 0 4 = 0 then (Z 12, -2) else if fX7_in b (fX7_least a) (fX7_most a) = 0 then (Z 12, -2) else (bput (fX7_records (Z 12)) 1 a.toNatClampNeg b, fX7_records (Z 12) 1 a.toNatClampNeg) : wB × Int32) = (Z 12, -2) := by
      by_cases c : fX7_in a 0 4 = 0
      · rw [if_pos c]
      · rcases h1 with h1 | h1
        · exact absurd h1 c
        · rw [if_neg c, if_pos h1]
    rw [hr, h2]
    unfold fX6_recorded fX6_isError
    dsimp only
    rw [if_neg (show ¬ (0 : Int32) ≤ -2 by decide), if_neg i32_10]
    unfold sZ
    dsimp only
    refine ⟨?_, rfl, LR_left hL ?_ (fun i a b => ?_) ?_ ?_ ?_ ?_ ?_ ?_ ?_ ?_ ?_ ?_ ?_⟩
    · rw [ws_o (by decide), mk_o hL (by omega)]
    · rw [ws_h, ws_o (by decide), ws_h]; exact hL.1
    · rw [ws_o (by omega), ws_o (by omega)]
    all_goals first | rw [ws_h] | (rw [ws_o (by decide), ws_o (by decide), mk_o hL (by omega)])
  · rw [if_neg h1, if_neg h2]
    obtain ⟨q1, q2⟩ := rc_o hL
    have hc : (0 : Int32) ≤ (fX3_change (Z 0) a b).2 := by rw [h4, i_le, t0]; exact h3
    unfold fX6_recorded fX6_isError
    dsimp only
    rw [if_pos hc, if_pos rfl]
    have ha : a.toNatClampNeg < 5 := by
      have h6 := in_ok h1
      have e4 : (4 : Int32).toInt = 4 := by decide
      rw [t0, e4] at h6
      have := (tn_of h6.1).2
      omega
    have hRB : RB m M T (fX3_change (Z 0) a b).1 (bput (fX7_records (Z 12)) 1 a.toNatClampNeg b 1) := h5 _ fun q hq => by rw [bp_row, q2 1 (by decide) (by decide)]
    unfold sZ
    dsimp only
    refine ⟨?_, ?_, LR_kept (D := Z 12) hL ?_ (fun i a b => ?_) ?_ ?_ ?_ ?_ rfl (fun _ _ => rfl) rfl ?_ ?_ ?_ ?_ ?_ ?_ ?_⟩
    · rw [ws_o (by decide), ws_o (by decide), mk_o hL (by omega)]
    · rw [q2 1 (by decide) (by decide)]; exact h4
    · rw [ws_h, ws_o (by decide), ws_o (by decide), ws_h]
      exact ⟨⟨m, M, T, hRB⟩, by rw [hRB.2.1.1, nI_ti (by omega)]; omega⟩
    · rw [ws_o (by omega), ws_o (by omega), ws_o (by omega)]
    · rw [ws_o (by decide), ws_h, ws_o (by decide), mk_o hL (by omega)]
    · rw [ws_o (by decide), ws_h, ws_o (by decide), mk_o hL (by omega), kp_o hL (by decide)]
    · rw [ws_o (by decide), ws_h, ws_o (by decide), mk_o hL (by omega), kp_o hL (by decide)]
    · rw [ws_o (by decide), ws_h, ws_o (by decide), mk_o hL (by omega), kp_o hL (by decide)]
    · rw [ws_h, bput_off (by decide)]
    · rw [ws_h, bput_off (by decide), q1 1 (by decide)]
    · rw [ws_h, bput_off (by decide), q1 2 (by decide)]
    · rw [ws_h, bput_off (by decide)]
    · rw [ws_h, bput_off (by decide), q2 4 (by decide) (by decide)]
    · rw [ws_h, bput_off (by decide), q2 5 (by decide) (by decide)]
    · rw [ws_h, bput_off (by decide), q2 6 (by decide) (by decide)]
theorem s_undo : sT_undo LR := by
  intro Z hL
  have hL' := hL
  obtain ⟨l1, l2, ⟨kept, mark, k1, k2, k3, k4, k5, k6⟩, l4, l5⟩ := hL'
  have e7 : (7 : Int32) = nI 7 := rfl
  have hpl : fX1_placeOfLatest (Z 11) = nI ((mark + 6) % 7) := by
    unfold fX1_placeOfLatest
    rw [k3]
    by_cases c : mark = 0
    · subst c; rw [if_pos (by decide)]; rfl
    · obtain ⟨p, rfl⟩ : ∃ p, mark = p + 1 := ⟨mark - 1, by omega⟩
      rw [if_neg (by rw [i_le, nI_ti (by omega), t0]; omega), nI_pred, show (p + 1 + 6) % 7 = p by omega]
  have hm7 := Nat.mod_lt (mark + 6) (show 0 < 7 by decide)
  unfold fX6_undo fX7_undo fX1_dropLatest hX1_latest
  dsimp only
  rw [hpl]
  by_cases c : kept = 0
  · subst c
    rw [if_neg (fun q => q.1 (by rw [k4]; decide)), if_pos (by rw [k5]; rfl)]
    exact ask hL rfl
  · obtain ⟨kk, rfl⟩ : ∃ kk, kept = kk + 1 := ⟨kept - 1, by omega⟩
    rw [if_pos ⟨by rw [k4, i_lt, nI_ti (by omega), t1]; omega, nI_pos (by omega), by rw [e7, nI_ltI (by omega) (by omega)]; omega⟩, if_neg (by rw [k5, i_eq, nI_ti (by omega), t0]; omega), k5, k4, nI_pred, nI_clamp (by omega)]
    have hg : gX7_undo (bput (Z 12) 0 0 (nI kk)) = (rcp (bput (Z 12) 0 0 (nI kk)) 1 0 (fun q => Z 12 3 (100 * kk + q)) 100, nI kk) := by
      unfold gX7_undo
      rw [show bput (Z 12) 0 0 (nI kk) 0 0 = nI kk from bput_h, nI_clamp (by omega), bput_off (j' := 3) (by decide)]
    rw [hg]
    have hb := k6 0 (by omega)
    rw [show mark + 6 - 0 = mark + 6 by omega, show kk + 1 - 1 - 0 = kk by omega] at hb
    have hrow : ∀ q, q < 100 → rcp (bput (Z 12) 0 0 (nI kk)) 1 0 (fun q => Z 12 3 (100 * kk + q)) 100 1 q = Z 12 3 (100 * kk + q) := fun q hq => by rw [rcq_i (Nat.zero_le _) (by omega), Nat.sub_zero]
    have hro : ∀ j, j ≠ 1 → rcp (bput (Z 12) 0 0 (nI kk)) 1 0 (fun q => Z 12 3 (100 * kk + q)) 100 j = bput (Z 12) 0 0 (nI kk) j := fun j hj => rcq_j hj
    generalize rcp (bput (Z 12) 0 0 (nI kk)) 1 0 (fun q => Z 12 3 (100 * kk + q)) 100 = E at *
    refine ⟨?_, ?_, ?_⟩
    · dsimp only; rw [ws_o (by decide), ws_o (by decide)]
    · dsimp only; rw [bput_h]
    · dsimp only
      have z12 : ∀ A B, wset (wset (wset Z 0 A) 11 B) 12 E 12 = E := fun _ _ => ws_h
      refine ⟨?_, ?_, ⟨kk, (mark + 6) % 7, by omega, hm7, ?_, ?_, ?_, fun j hj => ?_⟩, sR_c l4 ?_ ?_ ?_ ?_ ?_, pR_c l5 ?_ ?_ ?_ ?_⟩
      · rw [ws_h, ws_o (by decide), ws_o (by decide), ws_h]; exact RT_s hb hrow
      · rw [ws_h, hro 0 (by decide), bput_q (by decide)]; exact l2
      · rw [ws_o (by decide), ws_h, bput_q (by decide), bput_h]
      · rw [ws_o (by decide), ws_h, bput_h]
      · rw [ws_h, hro 0 (by decide), bput_h]
      · rw [ws_o (by omega), ws_o (by omega), ws_o (by omega), ws_h, hro 3 (by decide), bput_off (by decide)]
        have := k6 (j + 1) (by omega)
        rw [show ((mark + 6) % 7 + 6 - j) % 7 = (mark + 6 - (j + 1)) % 7 by omega, show kk - 1 - j = kk + 1 - 1 - (j + 1) by omega]
        exact this
      · rw [ws_o (by decide), ws_o (by decide), ws_o (by decide)]
      · rw [ws_o (by decide), ws_o (by decide), ws_o (by decide)]
      · rw [ws_o (by decide), ws_h, bput_off (by decide), bput_off (by decide)]
      · rw [ws_h, hro 4 (by decide), bput_off (by decide)]
      · rw [ws_h, hro 5 (by decide), bput_off (by decide)]
      · rw [ws_o (by decide), ws_h, bput_off (by decide), bput_off (by decide)]
      · rw [ws_o (by decide), ws_h, bput_off (by decide), bput_off (by decide)]
      · rw [ws_h, hro 0 (by decide), bput_q (by decide)]
      · rw [ws_h, hro 6 (by decide), bput_off (by decide)]
theorem s_save : sT_save LR := by
  intro Z a hL
  have hL' := hL
  obtain ⟨l1, l2, l3, l4, l5⟩ := hL'
  have e2 : (2 : Int32).toInt = 2 := by decide
  unfold fX6_save fX7_save
  rw [in_in]
  by_cases c1 : a < 0
  · rw [if_pos c1, if_pos c1, if_pos rfl]; exact ask hL rfl
  rw [if_neg c1, if_neg c1]
  by_cases c2 : a < 2
  · have c3 : ¬ (1 : Int32) < a := by rw [i_lt, t1]; rw [i_lt, e2] at c2; omega
    rw [if_pos c2, if_neg c3, if_neg i32_10]
    rw [i_lt, t0] at c1
    rw [i_lt, e2] at c2
    have hs := (tn_of (a := a) (by omega)).2
    unfold gX7_save
    generalize a.toNatClampNeg = s at *
    have hs2 : s < 2 := by omega
    obtain ⟨m, M, T, hB, -⟩ := LR_b hL
    generalize vp_nar .boolean 1 = v
    refine ⟨?_, ?_, ?_⟩
    · dsimp only; rw [ws_o (by decide), ws_o (by omega)]
    · dsimp only; rw [hB.1.2.1, hB.1.1]
    · dsimp only
      have e4 : ∀ q, bput (rcp (Z 12) 4 (100 * s) (Z 12 1) 100) 5 s v 4 q = if 100 * s ≤ q ∧ q < 100 * s + 100 then Z 12 1 (q - 100 * s) else Z 12 4 q := by
        intro q
        rw [bput_off (by decide)]
        by_cases d : 100 * s ≤ q ∧ q < 100 * s + 100
        · rw [if_pos d, rcq_i d.1 d.2]
        · rw [if_neg d, rcq_o (by omega)]
      have eo : ∀ j, j ≠ 4 → j ≠ 5 → bput (rcp (Z 12) 4 (100 * s) (Z 12 1) 100) 5 s v j = Z 12 j := fun j a b => by rw [bput_off b, rcq_j a]
      have e5 : ∀ q, bput (rcp (Z 12) 4 (100 * s) (Z 12 1) 100) 5 s v 5 q = if q = s then v else Z 12 5 q := by
        intro q
        by_cases d : q = s
        · rw [if_pos d, d, bput_h]
        · rw [if_neg d, bput_q d, rcq_j (by decide)]
      generalize bput (rcp (Z 12) 4 (100 * s) (Z 12 1) 100) 5 s v = E at *
      refine ⟨?_, ?_, hR_c l3 (fun i a b => Or.inl ?_) ?_ ?_ ?_, fun i hi => ⟨?_, ?_⟩, pR_c l5 ?_ ?_ ?_ ?_⟩
      · rw [ws_h, eo 1 (by decide) (by decide), ws_o (by decide), ws_o (by decide), ws_o (by omega)]; exact l1
      · rw [ws_h, eo 0 (by decide) (by decide)]; exact l2
      · rw [ws_o (by omega), ws_o (by omega), ws_o (by omega)]
      · rw [ws_o (by decide), ws_h, bput_off (by decide)]
      · rw [ws_h, eo 0 (by decide) (by decide)]
      · rw [ws_h, eo 3 (by decide) (by decide)]
      · rw [ws_o (by decide), ws_h, ws_h, e5]
        by_cases d : i = s
        · rw [if_pos d, d, bput_h]
        · rw [if_neg d, bput_q d]; exact (l4 i hi).1
      · intro hn
        rw [ws_o (by omega), ws_o (by omega), ws_h]
        rw [ws_h, e5] at hn
        by_cases d : i = s
        · rw [d, ws_h]
          exact RT_s l1 fun q hq => by rw [e4, if_pos (by omega), Nat.add_sub_cancel_left]
        · rw [if_neg d] at hn
          rw [ws_o (by omega)]
          exact RT_s ((l4 i hi).2 hn) fun q hq => by rw [e4, if_neg (by omega)]
      · rw [ws_o (by decide), ws_h, bput_off (by decide)]
      · rw [ws_o (by decide), ws_h, bput_off (by decide)]
      · rw [ws_h, eo 0 (by decide) (by decide)]
      · rw [ws_h, eo 6 (by decide) (by decide)]
  · have c3 : (1 : Int32) < a := by rw [i_lt, t1]; rw [i_lt, e2] at c2; omega
    rw [if_neg c2, if_pos c3, if_pos rfl]; exact ask hL rfl
theorem s_restore : sT_restore LR := by
  intro Z a hL
  have hL' := hL
  obtain ⟨l1, l2, l3, l4, l5⟩ := hL'
  have e2 : (2 : Int32).toInt = 2 := by decide
  unfold fX6_restore fX7_restore
  rw [in_in]
  by_cases c1 : a < 0
  · rw [if_pos c1, if_pos c1, if_pos rfl]; exact ask hL rfl
  rw [if_neg c1, if_neg c1]
  by_cases c2 : a < 2
  · have c3 : ¬ (1 : Int32) < a := by rw [i_lt, t1]; rw [i_lt, e2] at c2; omega
    rw [if_pos c2, if_neg c3, if_neg i32_10]
    rw [i_lt, t0] at c1
    rw [i_lt, e2] at c2
    have hs := (tn_of (a := a) (by omega)).2
    generalize a.toNatClampNeg = s at *
    obtain ⟨f1, f2⟩ := l4 s (by omega)
    rw [f1]
    by_cases d : Z 12 5 s = 0
    · rw [if_pos d, if_pos d]; exact ask hL rfl
    rw [if_neg d, if_neg d]
    have hb := f2 d
    obtain ⟨q1, q2⟩ := rc_o hL
    have hm2 : fX1_mark Z (2 + s) = Z (2 + s) := mk_o hL (by omega)
    dsimp only
    rw [hm2]
    unfold gX7_restore
    have hrow : ∀ q, q < 100 → rcp (fX7_records (Z 12)) 1 0 (fun q => fX7_records (Z 12) 4 (100 * s + q)) 100 1 q = Z 12 4 (100 * s + q) := fun q hq => by rw [rcq_i (Nat.zero_le _) (by omega), Nat.sub_zero, q2 4 (by decide) (by decide)]
    have hro : ∀ j, j ≠ 1 → rcp (fX7_records (Z 12)) 1 0 (fun q => fX7_records (Z 12) 4 (100 * s + q)) 100 j = fX7_records (Z 12) j := fun j hj => rcq_j hj
    generalize rcp (fX7_records (Z 12)) 1 0 (fun q => fX7_records (Z 12) 4 (100 * s + q)) 100 = E at *
    have hRT : RT (Z (2 + s)) (E 1) := RT_s hb hrow
    obtain ⟨⟨m, M, T, hB⟩, -⟩ := hRT
    have hm4 := hB.1.2.2
    have hc : (0 : Int32) ≤ Z (2 + s) 0 0 := by rw [hB.1.2.1, i_le, t0, nI_ti (by omega)]; omega
    unfold fX6_recorded fX6_isError
    dsimp only
    rw [if_pos hc, if_pos rfl]
    unfold sZ
    dsimp only
    refine ⟨?_, hB.1.2.1.trans hB.1.1.symm, LR_kept (D := Z 12) hL ?_ (fun i a b => ?_) ?_ ?_ ?_ ?_ rfl (fun _ _ => rfl) rfl ?_ ?_ ?_ ?_ ?_ ?_ ?_⟩
    · rw [ws_o (by decide), ws_o (by decide), mk_o hL (by omega)]
    · rw [ws_h, ws_o (by decide), ws_o (by decide), ws_h]
      exact RT_s hb hrow
    · rw [ws_o (by omega), ws_o (by omega), ws_o (by omega)]
    · rw [ws_o (by decide), ws_h, ws_o (by decide), mk_o hL (by omega)]
    · rw [ws_o (by decide), ws_h, ws_o (by decide), mk_o hL (by omega), kp_o hL (by decide)]
    · rw [ws_o (by decide), ws_h, ws_o (by decide), mk_o hL (by omega), kp_o hL (by decide)]
    · rw [ws_o (by decide), ws_h, ws_o (by decide), mk_o hL (by omega), kp_o hL (by decide)]
    · rw [ws_h, hro 0 (by decide)]
    · rw [ws_h, hro 0 (by decide), q1 1 (by decide)]
    · rw [ws_h, hro 0 (by decide), q1 2 (by decide)]
    · rw [ws_h, hro 3 (by decide)]
    · rw [ws_h, hro 4 (by decide), q2 4 (by decide) (by decide)]
    · rw [ws_h, hro 5 (by decide), q2 5 (by decide) (by decide)]
    · rw [ws_h, hro 6 (by decide), q2 6 (by decide) (by decide)]
  · have c3 : (1 : Int32) < a := by rw [i_lt, t1]; rw [i_lt, e2] at c2; omega
    rw [if_neg c2, if_pos c3, if_pos rfl]; exact ask hL rfl

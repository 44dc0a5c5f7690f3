/-! fault and carryOut -/
theorem ff_eq {L : Nat} : ∀ (u v p : Nat) (B C : wB), st L p B C → 82 ≤ 2 * u + p → 82 ≤ 2 * v + p →
    gB B (LX4_ff u B).1 ∧ fR C (LX7_if v C) ∧ (((LX4_ff u B).2 = -6 ∧ LX7_if v C 0 6 = 0) ∨ ∃ p', p' ≤ 80 ∧ (LX4_ff u B).2 = nI p' ∧ LX7_if v C 0 5 = nI p' ∧ LX7_if v C 0 6 = 1) := by
  intro u
  induction u with
  | zero => intro v p B C h h1 h2; have := h.1.2.2.1; have := h.2.2.2.2; omega
  | succ u ih =>
    intro v p B C h h1 h2
    have hL := h.1.2.2.1
    obtain ⟨v, rfl⟩ : ∃ v', v = v' + 1 := by
      cases v with
      | zero => have := h.2.2.2.2; omega
      | succ v' => exact ⟨v', rfl⟩
    simp only [LX4_ff, LX7_if]
    obtain ⟨o1, o2, o3⟩ := o_order h
    generalize fX4_readOrder B = P at *
    generalize fX7_order C = R at *
    rcases o3 with ⟨k1, ⟨p', k2, k3⟩, -⟩ | ⟨k1, p', k2, k3, k4, k5⟩
    · rw [k1, if_neg i32_10, k3.2.2.2.1, if_pos rfl, k3.2.1, k3.1.1, k3.1.2.1, k3.2.2.1]
      have hpL := k3.2.2.2.2
      by_cases c : p' = L
      · have heq : nI p' = nI L := by rw [c]
        have hle : nI L ≤ nI p' := by rw [nI_leI (by omega) (by omega)]; omega
        rw [if_pos heq, if_pos hle]
        exact ⟨o1, o2, Or.inl ⟨rfl, k3.2.2.2.1⟩⟩
      · have hne : ¬ nI p' = nI L := by rw [i_eq, nI_ti (by omega), nI_ti (by omega)]; omega
        have hlt : ¬ nI L ≤ nI p' := by rw [nI_leI (by omega) (by omega)]; omega
        rw [if_neg hne, if_neg hlt]
        rcases p_sign k3 (a := 59) (by decide) with ⟨d1, d2, d3, d4⟩ | ⟨d1, d2, d3, d4⟩
        · rw [d1, if_neg i32_10, d2.2.2.2.1, if_pos rfl]
          obtain ⟨i1, i2, i3⟩ := ih v (p' + 1) _ _ d2 (by omega) (by omega)
          exact ⟨gB_trans o1 (gB_trans (gB_s d3) i1), fR_trans o2 (fR_trans (fR_C d4) i2), i3⟩
        · rw [d1, if_pos rfl, d3.2, if_neg i32_10, d2]
          exact ⟨o1, fR_trans o2 (fR_C d4), Or.inr ⟨p', by omega, k3.2.1, d3.1, d3.2⟩⟩
    · rw [k1, if_pos rfl, k5.2, if_neg i32_10]
      exact ⟨o1, o2, Or.inr ⟨p', by omega, k4, k5.1, k5.2⟩⟩
/-- the reading begins -/
theorem LR_st {Z : wZ} (hL : LR Z) : ∃ L, st L 0 (fX4_begin (Z 11)) (bput (bput (Z 12) 0 5 0) 0 6 0) := by
  obtain ⟨-, -, -, -, p1, p2, p3⟩ := hL
  have h1 := tn_of (a := Z 12 0 1) p2.1
  have h2 := i_nn (x := Z 12 0 1) p2.1
  refine ⟨(Z 12 0 1).toNatClampNeg, ⟨?_, ?_, by omega, fun q hq => ?_⟩, ?_, ?_, bput_h, Nat.zero_le _⟩
  · unfold fX4_begin; rw [bput_off (by decide), h2]; exact p1
  · rw [bput_q (by decide), bput_q (by decide), h2]
  · unfold fX4_begin
    rw [bput_off (by decide), bput_off (by decide), bput_off (by decide)]
    exact p3 q (by omega)
  · unfold fX4_begin; rw [bput_h]; rfl
  · rw [bput_q (by decide), bput_h]; rfl
theorem LR_p {Z Z' : wZ} (hL : LR Z) (h : ∀ i, i ≠ 11 → i ≠ 12 → Z' i = Z i) (h1 : gB (Z 11) (Z' 11)) (h2 : fR (Z 12) (Z' 12)) : LR Z' := by
  obtain ⟨l1, l2, l3, l4, l5⟩ := hL
  refine ⟨by rw [h 0 (by decide) (by decide), h2.1 1 (by decide)]; exact l1, (h2.2 2 (by decide)).trans l2, hR_c l3 (fun i a b => Or.inl (h i (by omega) (by omega))) (h1 1 (by decide)) (h2.2 0 (by decide)) (h2.1 3 (by decide)), ?_, ?_⟩
  · exact sR_c l4 (h 2 (by decide) (by decide)) (h 3 (by decide) (by decide)) (h1 4 (by decide)) (h2.1 4 (by decide)) (h2.1 5 (by decide))
  · exact pR_c l5 (h1 6 (by decide)) (h1 7 (by decide)) (h2.2 1 (by decide)) (h2.1 6 (by decide))
theorem flt {Z : wZ} (hL : LR Z) : gB (Z 11) (fX4_findFault (Z 11)).1 ∧ fR (Z 12) (LX7_if 81 (bput (bput (Z 12) 0 5 0) 0 6 0)) ∧ (((fX4_findFault (Z 11)).2 = -6 ∧ LX7_if 81 (bput (bput (Z 12) 0 5 0) 0 6 0) 0 6 = 0) ∨ ∃ p', p' ≤ 80 ∧ (fX4_findFault (Z 11)).2 = nI p' ∧ LX7_if 81 (bput (bput (Z 12) 0 5 0) 0 6 0) 0 5 = nI p' ∧ LX7_if 81 (bput (bput (Z 12) 0 5 0) 0 6 0) 0 6 = 1) := by
  obtain ⟨L, h⟩ := LR_st hL
  have h1 := ff_eq 80 81 0 _ _ h (by decide) (by decide)
  unfold fX4_findFault
  refine ⟨gB_trans (fun j hj => ?_) h1.1, fR_trans (fR_trans (fR_b (by decide) (by decide)) (fR_b (by decide) (by decide))) h1.2.1, h1.2.2⟩
  unfold fX4_begin
  exact bput_off hj
theorem s_fault : sT_fault LR := by
  intro Z hL
  obtain ⟨h1, h2, h3⟩ := flt hL
  have hx : (if LX7_if 81 (bput (bput (Z 12) 0 5 0) 0 6 0) 0 6 = 0 then (LX7_if 81 (bput (bput (Z 12) 0 5 0) 0 6 0), -6) else (LX7_if 81 (bput (bput (Z 12) 0 5 0) 0 6 0), LX7_if 81 (bput (bput (Z 12) 0 5 0) 0 6 0) 0 5) : wB × Int32) = fX7_fault (Z 12) := rfl
  rw [← hx]
  clear hx
  unfold fX6_fault
  dsimp only
  generalize LX7_if 81 (bput (bput (Z 12) 0 5 0) 0 6 0) = D at *
  generalize fX4_findFault (Z 11) = P at *
  have hLR : LR (wset (wset Z 11 P.1) 12 D) := LR_p hL (fun i a b => by rw [ws_o b, ws_o a]) (by rw [ws_o (by decide), ws_h]; exact h1) (by rw [ws_h]; exact h2)
  rcases h3 with ⟨k1, k2⟩ | ⟨p', k0, k1, k2, k3⟩
  · rw [if_pos k2]
    exact ⟨by dsimp only; rw [ws_o (by decide)], k1, hLR⟩
  · rw [if_neg (by rw [k3]; exact i32_10)]
    exact ⟨by dsimp only; rw [ws_o (by decide)], k1.trans k2.symm, hLR⟩
/-- one order is carried out -/
theorem does_eq {Y : wZ} {D : wB} (hb : RT (Y 0) (D 1)) (hm : oM (Y 11) D) (hp : D 0 2 = -1) :
    (fX6_carryOutOrder Y).2 = (fX7_does D).2 ∧ RT ((fX6_carryOutOrder Y).1 0) ((fX7_does D).1 1) ∧ (∀ i, i ≠ 0 → (fX6_carryOutOrder Y).1 i = Y i) ∧ ∀ j, j ≠ 1 → (fX7_does D).1 j = D j := by
  obtain ⟨⟨m, M, T, hB⟩, hT⟩ := hb
  have hT2 : (Y 0 0 2).toInt ≤ 99999 := by rw [hB.2.1.2.1, ← hB.2.1.1]; exact hT
  have fin : ∀ (q r : wB × Int32), rO D q r → (q.1 0 2).toInt ≤ 99999 → q.2 = r.2 ∧ RT (wset Y 0 q.1 0) (r.1 1) ∧ (∀ i, i ≠ 0 → wset Y 0 q.1 i = Y i) ∧ ∀ j, j ≠ 1 → r.1 j = D j := by
    intro q r ⟨r1, r2, r3⟩ ht
    refine ⟨r1, ?_, fun i hi => ws_o hi, r3⟩
    rw [ws_h]
    refine ⟨r2, ?_⟩
    obtain ⟨m', M', T', hB'⟩ := r2
    rw [hB'.2.1.1, ← hB'.2.1.2.1]; exact ht
  unfold fX6_carryOutOrder fX7_does
  dsimp only
  rcases hm with ⟨k1, k2, k3⟩ | ⟨k1, k2, k3, k4⟩ | ⟨k1, k2, k3, k4⟩ | ⟨k1, k2, k3⟩ | ⟨k1, k2, k3, k4, k5⟩ | ⟨k1, k2, k3⟩ | ⟨k1, k2, k3⟩
  · rw [k1, k2, k3]
    rw [if_pos (show (104 : Int32) = 104 from rfl)]
    rw [if_neg (show ¬ (104 : Int32) = 108 by decide), if_neg (show ¬ (104 : Int32) = 109 by decide), if_neg (show ¬ (104 : Int32) = 110 by decide), if_neg (show ¬ (104 : Int32) = 111 by decide), if_neg (show ¬ (104 : Int32) = 112 by decide), if_neg (show ¬ (104 : Int32) = 113 by decide), if_neg (show ¬ (104 : Int32) = 114 by decide), if_neg (show ¬ (104 : Int32) = 115 by decide), if_neg (show ¬ (104 : Int32) = 116 by decide)]
    exact fin _ _ (d_home hB (D 0 8)) (by rw [tm_home]; exact hT2)
  · rw [k1, k2, k3, k4]
    rw [if_neg (show ¬ (108 : Int32) = 104 by decide), if_neg (show ¬ (108 : Int32) = 105 by decide), if_neg (show ¬ (108 : Int32) = 106 by decide), if_neg (show ¬ (108 : Int32) = 107 by decide), if_pos (show (108 : Int32) = 108 from rfl)]
    rw [if_pos (show (108 : Int32) = 108 from rfl)]
    exact fin _ _ (d_load hB (D 0 8) (D 0 9)) (by rw [tm_load]; exact hT2)
  · rw [k1, k2, k3, k4]
    rw [if_neg (show ¬ (109 : Int32) = 104 by decide), if_neg (show ¬ (109 : Int32) = 105 by decide), if_neg (show ¬ (109 : Int32) = 106 by decide), if_neg (show ¬ (109 : Int32) = 107 by decide), if_neg (show ¬ (109 : Int32) = 108 by decide), if_pos (show (109 : Int32) = 109 from rfl)]
    rw [if_neg (show ¬ (109 : Int32) = 108 by decide), if_pos (show (109 : Int32) = 109 from rfl)]
    exact fin _ _ (d_move hB (D 0 8) (D 0 9)) (by rw [tm_move]; exact hT2)
  · rw [k1, k2, k3]
    rw [if_neg (show ¬ (110 : Int32) = 104 by decide), if_neg (show ¬ (110 : Int32) = 105 by decide), if_neg (show ¬ (110 : Int32) = 106 by decide), if_neg (show ¬ (110 : Int32) = 107 by decide), if_neg (show ¬ (110 : Int32) = 108 by decide), if_neg (show ¬ (110 : Int32) = 109 by decide), if_pos (show (110 : Int32) = 110 from rfl)]
    rw [if_neg (show ¬ (110 : Int32) = 108 by decide), if_neg (show ¬ (110 : Int32) = 109 by decide), if_pos (show (110 : Int32) = 110 from rfl)]
    exact fin _ _ (d_shaft hB (D 0 8)) (by rw [tm_shaft]; exact hT2)
  · rw [k1, k2, k3, k4, k5]
    rw [if_neg (show ¬ (112 : Int32) = 104 by decide), if_neg (show ¬ (112 : Int32) = 105 by decide), if_neg (show ¬ (112 : Int32) = 106 by decide), if_neg (show ¬ (112 : Int32) = 107 by decide), if_neg (show ¬ (112 : Int32) = 108 by decide), if_neg (show ¬ (112 : Int32) = 109 by decide), if_neg (show ¬ (112 : Int32) = 110 by decide), if_neg (show ¬ (112 : Int32) = 111 by decide), if_pos (show (112 : Int32) = 112 from rfl)]
    rw [if_neg (show ¬ (112 : Int32) = 108 by decide), if_neg (show ¬ (112 : Int32) = 109 by decide), if_neg (show ¬ (112 : Int32) = 110 by decide), if_neg (show ¬ (112 : Int32) = 111 by decide), if_pos (show (112 : Int32) = 112 from rfl)]
    exact fin _ _ (d_plan hB (D 0 8) (D 0 9) (D 0 10)) (by rw [tm_plan]; exact hT2)
  · rw [k1, k2, k3]
    rw [if_neg (show ¬ (115 : Int32) = 104 by decide), if_neg (show ¬ (115 : Int32) = 105 by decide), if_neg (show ¬ (115 : Int32) = 106 by decide), if_neg (show ¬ (115 : Int32) = 107 by decide), if_neg (show ¬ (115 : Int32) = 108 by decide), if_neg (show ¬ (115 : Int32) = 109 by decide), if_neg (show ¬ (115 : Int32) = 110 by decide), if_neg (show ¬ (115 : Int32) = 111 by decide), if_neg (show ¬ (115 : Int32) = 112 by decide), if_neg (show ¬ (115 : Int32) = 113 by decide), if_neg (show ¬ (115 : Int32) = 114 by decide), if_pos (show (115 : Int32) = 115 from rfl)]
    rw [if_neg (show ¬ (115 : Int32) = 108 by decide), if_neg (show ¬ (115 : Int32) = 109 by decide), if_neg (show ¬ (115 : Int32) = 110 by decide), if_neg (show ¬ (115 : Int32) = 111 by decide), if_neg (show ¬ (115 : Int32) = 112 by decide), if_neg (show ¬ (115 : Int32) = 113 by decide), if_neg (show ¬ (115 : Int32) = 114 by decide), if_pos (show (115 : Int32) = 115 from rfl)]
    exact fin _ _ (d_stop hB (D 0 8)) (by rw [tm_stop]; exact hT2)
  · rw [k1, k2, k3]
    rw [if_neg (show ¬ (116 : Int32) = 104 by decide), if_neg (show ¬ (116 : Int32) = 105 by decide), if_neg (show ¬ (116 : Int32) = 106 by decide), if_neg (show ¬ (116 : Int32) = 107 by decide), if_neg (show ¬ (116 : Int32) = 108 by decide), if_neg (show ¬ (116 : Int32) = 109 by decide), if_neg (show ¬ (116 : Int32) = 110 by decide), if_neg (show ¬ (116 : Int32) = 111 by decide), if_neg (show ¬ (116 : Int32) = 112 by decide), if_neg (show ¬ (116 : Int32) = 113 by decide), if_neg (show ¬ (116 : Int32) = 114 by decide), if_neg (show ¬ (116 : Int32) = 115 by decide), if_pos (show (116 : Int32) = 116 from rfl)]
    rw [if_neg (show ¬ (116 : Int32) = 108 by decide), if_neg (show ¬ (116 : Int32) = 109 by decide), if_neg (show ¬ (116 : Int32) = 110 by decide), if_neg (show ¬ (116 : Int32) = 111 by decide), if_neg (show ¬ (116 : Int32) = 112 by decide), if_neg (show ¬ (116 : Int32) = 113 by decide), if_neg (show ¬ (116 : Int32) = 114 by decide), if_neg (show ¬ (116 : Int32) = 115 by decide), if_pos (show (116 : Int32) = 116 from rfl)]
    exact fin _ _ (d_pass hB (by rw [hp]; decide) (D 0 8)) (tm_pass _ hT2)

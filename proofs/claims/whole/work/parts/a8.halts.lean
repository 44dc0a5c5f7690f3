theorem d_home {m M T : Nat} {B C : wB} (h : RB m M T B (C 1)) (a : Int32) : rO C (fX0_bringHome B a) (fX7_homes C a) := by
  unfold fX0_bringHome fX7_homes
  dsimp only
  rcases q_find h a with ⟨h1, h2, h3, h4⟩ | ⟨h1, h2⟩
  · rw [if_pos h1, if_neg h2]
    obtain ⟨hr, hi⟩ := h.2.2.2.2.1 _ h3
    generalize a.toNatClampNeg = n at *
    rcases q_rests hr hi with ⟨e1, e2, e3⟩ | ⟨e1, e2, e3⟩
    · rw [e1, e2]
      simp only [i32_10, if_true, if_false]
      exact rO_self h _
    · rw [e1, e2]
      simp only [i32_10, if_true, if_false]
      refine ⟨by rw [hr.2.2.1, hr.2.2.2.1], ⟨m, M, T, RB_shaft (n := n) h h3 (fun j q hj _ => bput_j hj) (fun q hq => ?_) ?_ ?_⟩, fun j hj => bput_off hj⟩
      · show bput C 1 _ _ 1 q = _
        rw [bp_row, if_neg (by omega)]
      · obtain ⟨r0, r1, r2, r3, r5, r6, r8, r9, r10, r47, rw⟩ := hr
        refine ⟨?_, ?_, ?_, ?_, ?_, ?_, ?_, ?_, ?_, ?_, ?_⟩ <;> dsimp only
        · rw [bp_row, if_neg (by omega), bput_q (by decide)]; exact r0
        · rw [bp_row, if_neg (by omega), bput_q (by decide)]; exact r1
        · rw [bp_row, if_pos rfl, bput_h]; exact r3
        · rw [bp_row, if_neg (by omega), bput_q (by decide)]; exact r3
        · rw [bp_row, if_neg (by omega), bput_q (by decide)]; exact r5
        · rw [bp_row, if_neg (by omega), bput_q (by decide)]; exact r6
        · rw [bp_row, if_neg (by omega), bput_q (by decide)]; exact r8
        · rw [bp_row, if_neg (by omega), bput_q (by decide)]; exact r9
        · rw [bp_row, if_neg (by omega), bput_q (by decide)]; exact r10
        · rw [bp_row, bp_row, bp_row, if_neg (by omega), if_neg (by omega), if_neg (by omega), bput_q (by decide), bput_q (by decide)]; exact r47
        · intro q hq
          rw [bp_row, if_neg (by omega)] at hq
          rw [bp_row, if_neg (by omega), bput_j (by omega)]
          exact rw q hq
      · show iS (bput C 1 _ _ 1) T n
        have hi3 := hi.2.2.2.2.2.2.2.2.1
        unfold iS at hi ⊢
        rw [bp_row, bp_row, bp_row, bp_row, bp_row, bp_row, bp_row, bp_row, bp_row, if_neg (by omega), if_neg (by omega), if_neg (by omega), if_neg (by omega), if_neg (by omega), if_neg (by omega), if_neg (by omega), if_pos rfl, if_neg (by omega)]
        refine ⟨hi.1, hi.2.1, hi.2.2.1, hi.2.2.2.1, hi.2.2.2.2.1, hi.2.2.2.2.2.1, hi.2.2.2.2.2.2.1, hi3, hi3, fun q hq => ?_⟩
        rw [bp_row, if_neg (by omega)]
        exact hi.2.2.2.2.2.2.2.2.2 q hq
  · rw [if_neg h1, if_pos h2]
    exact rO_self h _
theorem d_stop {m M T : Nat} {B C : wB} (h : RB m M T B (C 1)) (a : Int32) : rO C (fX0_halt B a) (fX7_stops C a) := by
  unfold fX0_halt fX7_stops
  dsimp only
  rcases q_find h a with ⟨h1, h2, h3, h4⟩ | ⟨h1, h2⟩
  · rw [if_pos h1, if_neg h2]
    obtain ⟨hr, hi⟩ := h.2.2.2.2.1 _ h3
    generalize a.toNatClampNeg = n at *
    rcases q_rests hr hi with ⟨e1, e2, e3⟩ | ⟨e1, e2, e3⟩
    · rw [e1, e2]
      simp only [i32_10, if_true, if_false]
      have hx : fX5_slowDown n B = bput (bput B (3 + n) 5 (if C 1 (7 + 14 * n + 5) ≤ C 1 (7 + 14 * n + 6) then C 1 (7 + 14 * n + 5) else C 1 (7 + 14 * n + 6))) (3 + n) 10 0 := by
        unfold fX5_slowDown fX5_leftIfHalted
        rw [hr.2.2.2.2.1, hr.2.2.2.2.2.1]
        by_cases c : C 1 (7 + 14 * n + 5) ≤ C 1 (7 + 14 * n + 6)
        · have c2 : ¬ C 1 (7 + 14 * n + 6) < C 1 (7 + 14 * n + 5) := by rw [i_lt]; rw [i_le] at c; omega
          rw [if_pos c, if_neg c2]
        · have c2 : C 1 (7 + 14 * n + 6) < C 1 (7 + 14 * n + 5) := by rw [i_lt]; rw [i_le] at c; omega
          rw [if_neg c, if_pos c2]
      have hy : (if C 1 (7 + 14 * n + 5) ≤ C 1 (7 + 14 * n + 6) then ((bput (bput (bput (bput C 1 (7 + 14 * n + 9) 0) 1 (7 + 14 * n + 10) 0) 1 (7 + 14 * n + 11) 0) 1 (7 + 14 * n + 8) 0), C 1 (7 + 14 * n + 5)) else ((bput (bput (bput (bput (bput C 1 (7 + 14 * n + 9) 0) 1 (7 + 14 * n + 10) 0) 1 (7 + 14 * n + 11) 0) 1 (7 + 14 * n + 8) 0) 1 (7 + 14 * n + 5) (C 1 (7 + 14 * n + 6))), C 1 (7 + 14 * n + 6))) = (bput (bput (bput (bput (bput C 1 (7 + 14 * n + 9) 0) 1 (7 + 14 * n + 10) 0) 1 (7 + 14 * n + 11) 0) 1 (7 + 14 * n + 8) 0) 1 (7 + 14 * n + 5) (if C 1 (7 + 14 * n + 5) ≤ C 1 (7 + 14 * n + 6) then C 1 (7 + 14 * n + 5) else C 1 (7 + 14 * n + 6)), (if C 1 (7 + 14 * n + 5) ≤ C 1 (7 + 14 * n + 6) then C 1 (7 + 14 * n + 5) else C 1 (7 + 14 * n + 6))) := by
        by_cases c : C 1 (7 + 14 * n + 5) ≤ C 1 (7 + 14 * n + 6)
        · rw [if_pos c, if_pos c]
          congr 1
          funext j q
          by_cases d : j = 1 ∧ q = 7 + 14 * n + 5
          · obtain ⟨rfl, rfl⟩ := d
            rw [bput_h, bput_q (by omega), bput_q (by omega), bput_q (by omega), bput_q (by omega)]
          · unfold bput
            rw [if_neg d]
        · rw [if_neg c, if_neg c]
      rw [hx, hy]
      have hl : (if C 1 (7 + 14 * n + 5) ≤ C 1 (7 + 14 * n + 6) then C 1 (7 + 14 * n + 5) else C 1 (7 + 14 * n + 6)).toInt = min (C 1 (7 + 14 * n + 5)).toInt (C 1 (7 + 14 * n + 6)).toInt := by
        by_cases c : C 1 (7 + 14 * n + 5) ≤ C 1 (7 + 14 * n + 6)
        · rw [if_pos c]; rw [i_le] at c; omega
        · rw [if_neg c]; rw [i_le] at c; omega
      generalize (if C 1 (7 + 14 * n + 5) ≤ C 1 (7 + 14 * n + 6) then C 1 (7 + 14 * n + 5) else C 1 (7 + 14 * n + 6)) = v at *
      have hS : ∀ k, (bput (bput (bput (bput (bput C 1 (7 + 14 * n + 9) 0) 1 (7 + 14 * n + 10) 0) 1 (7 + 14 * n + 11) 0) 1 (7 + 14 * n + 8) 0) 1 (7 + 14 * n + 5) v) 1 k = if k = 7 + 14 * n + 5 then v else if k = 7 + 14 * n + 8 ∨ k = 7 + 14 * n + 9 ∨ k = 7 + 14 * n + 10 ∨ k = 7 + 14 * n + 11 then 0 else C 1 k := by
        intro k
        rw [bp_row, bp_row, bp_row, bp_row, bp_row]
        by_cases k1 : k = 7 + 14 * n + 5
        · rw [if_pos k1, if_pos k1]
        · rw [if_neg k1, if_neg k1]
          by_cases k2 : k = 7 + 14 * n + 8
          · rw [if_pos k2, if_pos (by omega)]
          · rw [if_neg k2]
            by_cases k3 : k = 7 + 14 * n + 11
            · rw [if_pos k3, if_pos (by omega)]
            · rw [if_neg k3]
              by_cases k4 : k = 7 + 14 * n + 10
              · rw [if_pos k4, if_pos (by omega)]
              · rw [if_neg k4]
                by_cases k5 : k = 7 + 14 * n + 9
                · rw [if_pos k5, if_pos (by omega)]
                · rw [if_neg k5, if_neg (by omega)]
      have hC : ∀ j, j ≠ 1 → (bput (bput (bput (bput (bput C 1 (7 + 14 * n + 9) 0) 1 (7 + 14 * n + 10) 0) 1 (7 + 14 * n + 11) 0) 1 (7 + 14 * n + 8) 0) 1 (7 + 14 * n + 5) v) j = C j := by
        intro j hj
        rw [bp_off hj, bp_off hj, bp_off hj, bp_off hj, bp_off hj]
      refine ⟨by dsimp only; rw [bput_q (by decide), bput_h], ⟨m, M, T, RB_shaft (n := n) h h3 (fun j q hj _ => by dsimp only; rw [bput_j hj, bput_j hj]) (fun q hq => ?_) ?_ ?_⟩, hC⟩
      · dsimp only
        rw [hS, if_neg (by omega), if_neg (by omega)]
      · obtain ⟨r0, r1, r2, r3, r5, r6, r8, r9, r10, r47, rw⟩ := hr
        refine ⟨?_, ?_, ?_, ?_, ?_, ?_, ?_, ?_, ?_, ?_, ?_⟩ <;> dsimp only
        · rw [hS, if_neg (by omega), if_neg (by omega), bput_q (by decide), bput_q (by decide)]; exact r0
        · rw [hS, if_neg (by omega), if_neg (by omega), bput_q (by decide), bput_q (by decide)]; exact r1
        · rw [hS, if_neg (by omega), if_neg (by omega), bput_q (by decide), bput_q (by decide)]; exact r2
        · rw [hS, if_neg (by omega), if_neg (by omega), bput_q (by decide), bput_q (by decide)]; exact r3
        · rw [hS, if_pos rfl, bput_q (by decide), bput_h]
        · rw [hS, if_neg (by omega), if_neg (by omega), bput_q (by decide), bput_q (by decide)]; exact r6
        · rw [hS, if_neg (by omega), if_neg (by omega), bput_q (by decide), bput_q (by decide)]; exact r8
        · rw [hS, if_neg (by omega), if_neg (by omega), bput_q (by decide), bput_q (by decide)]; exact r9
        · rw [hS, if_neg (by omega), if_pos (by omega), bput_h]
        · intro _
          rw [hS, hS, if_neg (by omega), if_neg (by omega), if_neg (by omega), if_neg (by omega), bput_q (by decide), bput_q (by decide), bput_q (by decide), bput_q (by decide)]
          exact r47 e3
        · intro q hq
          rw [hS, if_neg (by omega), if_pos (by omega), t0] at hq
          omega
      · have hi6 := hi.2.2.1
        have hi5 := hi.2.1
        unfold iS at hi ⊢
        dsimp only
        have hk : ∀ k, (k = 0 ∨ k = 2 ∨ k = 3 ∨ k = 4 ∨ k = 6 ∨ k = 7 ∨ k = 12) → (bput (bput (bput (bput (bput C 1 (7 + 14 * n + 9) 0) 1 (7 + 14 * n + 10) 0) 1 (7 + 14 * n + 11) 0) 1 (7 + 14 * n + 8) 0) 1 (7 + 14 * n + 5) v) 1 (7 + 14 * n + k) = C 1 (7 + 14 * n + k) := fun k hk => by rw [hS, if_neg (by omega), if_neg (by omega)]
        have h5 : (bput (bput (bput (bput (bput C 1 (7 + 14 * n + 9) 0) 1 (7 + 14 * n + 10) 0) 1 (7 + 14 * n + 11) 0) 1 (7 + 14 * n + 8) 0) 1 (7 + 14 * n + 5) v) 1 (7 + 14 * n + 5) = v := by rw [hS, if_pos rfl]
        have h8 : (bput (bput (bput (bput (bput C 1 (7 + 14 * n + 9) 0) 1 (7 + 14 * n + 10) 0) 1 (7 + 14 * n + 11) 0) 1 (7 + 14 * n + 8) 0) 1 (7 + 14 * n + 5) v) 1 (7 + 14 * n + 8) = 0 := by rw [hS, if_neg (by omega), if_pos (by omega)]
        rw [hk 0 (by decide), hk 2 (by decide), hk 3 (by decide), hk 4 (by decide), hk 6 (by decide), hk 7 (by decide), hk 12 (by decide), h5, h8, t0]
        refine ⟨hi.1, by omega, hi.2.2.1, by omega, fun hv => ⟨?_, rfl⟩, fun _ => hi.2.2.2.2.2.1 e3, hi.2.2.2.2.2.2.1, hi.2.2.2.2.2.2.2.1, hi.2.2.2.2.2.2.2.2.1, fun q hq => by omega⟩
        rw [hv, t0] at hl
        rw [i_eq, t0] at e3 ⊢
        omega
    · rw [e1, e2]
      simp only [i32_10, if_true, if_false]
      exact rO_self h _
  · rw [if_neg h1, if_pos h2]
    exact rO_self h _

/-! orders that touch one shaft -/
theorem RB_shaft {m M T n : Nat} {B B' : wB} {S S' : Nat → Int32} (h : RB m M T B S) (hn : n < m) (hB : ∀ j q, j ≠ 3 + n → j ≠ 7 + n → B' j q = B j q) (hS : ∀ q, (q < 7 + 14 * n ∨ 7 + 14 * n + 14 ≤ q) → S' q = S q) (hr : rS B' S' n) (hi : iS S' T n) : RB m M T B' S' := by
  obtain ⟨⟨a1, a2, a3⟩, ⟨b1, b2, b3⟩, ⟨c1, c2, c3⟩, ⟨d1, d2⟩, e, f, g, i⟩ := h
  have hM : plM S' M = plM S M := plM_c fun q h1 h2 => hS q (by omega)
  refine ⟨⟨by rw [hS 6 (by omega)]; exact a1, by rw [hB 0 0 (by omega) (by omega)]; exact a2, a3⟩, ⟨by rw [hS 5 (by omega)]; exact b1, by rw [hB 0 2 (by omega) (by omega)]; exact b2, b3⟩, ⟨by rw [hS 63 (by omega)]; exact c1, by rw [hB 0 1 (by omega) (by omega)]; exact c2, c3⟩, ⟨?_, ?_⟩, fun k hk => ?_, fun k h1 h2 q hq => ?_, ?_, ?_⟩
  · unfold rR
    rw [hB 1 0 (by omega) (by omega), hB 1 1 (by omega) (by omega), hB 1 2 (by omega) (by omega), hB 1 3 (by omega) (by omega), hB 1 4 (by omega) (by omega), hS 0 (by omega), hS 1 (by omega), hS 2 (by omega), hS 3 (by omega), hS 4 (by omega)]
    exact d1
  · unfold iR
    rw [hS 0 (by omega), hS 1 (by omega), hS 2 (by omega), hS 3 (by omega), hS 4 (by omega)]
    exact d2
  · by_cases c : k = n
    · subst c; exact ⟨hr, hi⟩
    · exact ⟨rS_c (e k hk).1 (fun q hq => hB _ _ (by omega) (by omega)) (fun q hq => hB _ _ (by omega) (by omega)) (e k hk).2.2.2.2.1.2 (fun q hq => hS _ (by omega)), iS_c (e k hk).2 (fun q hq => hS _ (by omega))⟩
  · rw [hB _ _ (by omega) (by omega), hS _ (by omega)]
    exact f k h1 h2 q hq
  · rw [hM, ← g]
    exact plC_c fun q hq => ⟨hB _ _ (by omega) (by omega), hB _ _ (by omega) (by omega), hB _ _ (by omega) (by omega)⟩
  · rw [hM]
    exact i
/-- what an order does on both sides: alike again, the same answer; the rest of the reference's group as it was -/
def rO (C : wB) (q r : wB × Int32) : Prop := q.2 = r.2 ∧ RE q.1 (r.1 1) ∧ ∀ j, j ≠ 1 → r.1 j = C j
theorem rO_self {m M T : Nat} {B C : wB} (h : RB m M T B (C 1)) (x : Int32) : rO C (B, x) (C, x) := ⟨rfl, ⟨m, M, T, h⟩, fun _ _ => rfl⟩
theorem bp_off {C : wB} {q : Nat} {v : Int32} {j : Nat} (h : j ≠ 1) : bput C 1 q v j = C j := bput_off h
theorem bp_row (C : wB) (q : Nat) (v : Int32) (k : Nat) : bput C 1 q v 1 k = if k = q then v else C 1 k := by
  unfold bput
  by_cases e : k = q
  · rw [if_pos ⟨rfl, e⟩, if_pos e]
  · rw [if_neg fun h => e h.2, if_neg e]
theorem d_load {m M T : Nat} {B C : wB} (h : RB m M T B (C 1)) (a b : Int32) : rO C (fX0_changeLoad B a b) (fX7_loads C a b) := by
  unfold fX0_changeLoad fX7_loads
  dsimp only
  rcases q_find h a with ⟨h1, h2, h3, h4⟩ | ⟨h1, h2⟩
  · rw [if_pos h1, if_neg h2, in_in]
    obtain ⟨hr, hi⟩ := h.2.2.2.2.1 _ h3
    generalize a.toNatClampNeg = n at *
    by_cases c1 : b < 0
    · simp only [c1, if_true]
      exact rO_self h _
    · by_cases c2 : b ≤ 9
      · have c3 : ¬ (9 : Int32) < b := by rw [i_lt]; rw [i_le] at c2; omega
        simp only [c1, c2, c3, if_true, if_false, i32_10]
        refine ⟨hr.2.1, ⟨m, M, T, RB_shaft (n := n) h h3 (fun j q hj _ => bput_j hj) (fun q hq => ?_) ?_ ?_⟩, fun j hj => bput_off hj⟩
        · show bput C 1 _ _ 1 q = _
          rw [bp_row, if_neg (by omega)]
        · obtain ⟨r0, r1, r2, r3, r5, r6, r8, r9, r10, r47, rw⟩ := hr
          refine ⟨?_, ?_, ?_, ?_, ?_, ?_, ?_, ?_, ?_, ?_, ?_⟩ <;> dsimp only
          · rw [bp_row, if_neg (by omega), bput_q (by decide)]; exact r0
          · rw [bp_row, if_pos rfl, bput_h]
          · rw [bp_row, if_neg (by omega), bput_q (by decide)]; exact r2
          · rw [bp_row, if_neg (by omega), bput_q (by decide)]; exact r3
          · rw [bp_row, if_neg (by omega), bput_q (by decide)]; exact r5
          · rw [bp_row, if_neg (by omega), bput_q (by decide)]; exact r6
          · rw [bp_row, if_neg (by omega), bput_q (by decide)]; exact r8
          · rw [bp_row, if_neg (by omega), bput_q (by decide)]; exact r9
          · rw [bp_row, if_neg (by omega), bput_q (by decide)]; exact r10
          · rw [bp_row, bp_row, bp_row, if_neg (by omega), if_neg (by omega), if_neg (by omega), bput_q (by decide), bput_q (by decide)]; exact r47
          · intro q hq
            rw [bp_row, if_neg (by omega)] at hq
            rw [bp_row, if_neg (by omega), bput_j (by omega)]
            exact rw q hq
        · show iS (bput C 1 _ _ 1) T n
          unfold iS at hi ⊢
          rw [bp_row, bp_row, bp_row, bp_row, bp_row, bp_row, bp_row, bp_row, bp_row, if_neg (by omega), if_neg (by omega), if_neg (by omega), if_neg (by omega), if_neg (by omega), if_neg (by omega), if_neg (by omega), if_neg (by omega), if_neg (by omega)]
          refine ⟨hi.1, hi.2.1, hi.2.2.1, hi.2.2.2.1, hi.2.2.2.2.1, hi.2.2.2.2.2.1, hi.2.2.2.2.2.2.1, hi.2.2.2.2.2.2.2.1, hi.2.2.2.2.2.2.2.2.1, fun q hq => ?_⟩
          rw [bp_row, if_neg (by omega)]
          exact hi.2.2.2.2.2.2.2.2.2 q hq
      · have c3 : (9 : Int32) < b := by rw [i_lt]; rw [i_le] at c2; omega
        simp only [c1, c2, c3, if_true, if_false]
        exact rO_self h _
  · rw [if_neg h1, if_pos h2]
    exact rO_self h _

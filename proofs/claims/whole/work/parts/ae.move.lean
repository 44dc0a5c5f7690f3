theorem d_move {m M T : Nat} {B C : wB} (h : RB m M T B (C 1)) (a b : Int32) : rO C (fX0_moveTo B a b) (fX7_moves C a b) := by
  unfold fX0_moveTo fX7_moves
  dsimp only
  rcases q_find h a with ⟨h1, h2, h3, h4⟩ | ⟨h1, h2⟩
  · rw [if_pos h1, if_neg h2, isPlace_eq]
    obtain ⟨hr, hi⟩ := h.2.2.2.2.1 _ h3
    generalize a.toNatClampNeg = n at *
    by_cases k3 : fX7_isPlace b = 0
    · rw [if_pos k3, if_pos k3]; exact rO_self h _
    rw [if_neg k3, if_neg k3, h.2.1.2.1]
    obtain ⟨c1, c2, c3, c4, c5⟩ := d_comes (d := 1) (e := 0) (by omega) h.2.2.2.1.1 h.2.2.2.1.2 h.2.1.1 h.2.1.2.2 hr (gS_of hi) (place_ok k3)
    have key : rO C (fX5_beginOrWait n B b (nI T), fX5_beginOrWait n B b (nI T) (3 + n) 10) (fX7_comes C n b, fX7_comes C n b 1 (7 + 14 * n + 8)) :=
      ⟨c1.2.2.2.2.2.2.2.2.1, ⟨m, M, T, RB_shaft h h3 c5 c3 c1 (gS_to c2)⟩, c4⟩
    rcases q_rests hr hi with ⟨e1, e2, e3⟩ | ⟨e1, e2, e3⟩
    · have hw := hi.2.2.2.1
      have e3' : (3 : Int32).toInt = 3 := by decide
      have hcw : fX5_canWait n B = if C 1 (7 + 14 * n + 8) = 3 then 0 else 1 := by
        unfold fX5_canWait
        rw [hr.2.2.2.2.2.2.2.2.1, if_neg (by rw [i_lt, t0]; omega)]
        by_cases c : C 1 (7 + 14 * n + 8) = 3
        · rw [if_pos c, if_pos (by rw [c]; decide)]
        · rw [if_neg c, if_neg]
          rw [i_le, e3']
          rw [i_eq, e3'] at c
          omega
      rw [e1, e2, if_neg i32_10, if_pos rfl, hcw]
      by_cases c : C 1 (7 + 14 * n + 8) = 3
      · rw [if_pos c, if_pos rfl, if_pos c]; exact rO_self h _
      · rw [if_neg c, if_neg i32_10, if_neg c]; exact key
    · rw [e1, e2, if_pos rfl, if_neg i32_10]; exact key
  · rw [if_neg h1, if_pos h2]
    exact rO_self h _

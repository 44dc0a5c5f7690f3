/-! what both sides answer alike, the world unchanged -/
theorem i_le {x y : Int32} : x ≤ y ↔ x.toInt ≤ y.toInt := Int32.le_iff_toInt_le
theorem i_lt {x y : Int32} : x < y ↔ x.toInt < y.toInt := Int32.lt_iff_toInt_lt
theorem i_eq {x y : Int32} : x = y ↔ x.toInt = y.toInt := Int32.toInt_inj.symm
theorem i_nn {x : Int32} (h : 0 ≤ x.toInt) : nI x.toNatClampNeg = x := (nI_self (tn_of h).1).symm
theorem nI_ti {n : Nat} (h : n < 2 ^ 31) : (nI n).toInt = (n : Int) := nI_toInt h
theorem q_int {B C : wB} (h : rR B (C 1)) (y : Int32) : fX3_intervalOf B y = fX7_intervalBy C y (C 1 2) := by
  unfold fX3_intervalOf fX7_intervalBy
  rw [h.1, h.2.1, h.2.2.1]
  by_cases h1 : C 1 0 - C 1 2 * y ≤ C 1 1
  · simp only [h1, if_true]
    by_cases h2 : C 1 1 ≤ C 1 0 - C 1 2 * y
    · simp only [h2, if_true]
      rw [i_eq]; rw [i_le] at h1 h2; omega
    · simp only [h2, if_false]
  · simp only [h1, if_false]
    have h2 : C 1 1 ≤ C 1 0 - C 1 2 * y := by rw [i_le] at h1 ⊢; omega
    simp only [h2, if_true]
theorem q_grips {B C : wB} (h : rR B (C 1)) (y a : Int32) : fX3_grips B y a = if fX7_needs C a ≤ fX7_intervalBy C y (C 1 2) then 1 else 0 := by
  unfold fX3_grips fX7_needs
  rw [q_int h, h.2.2.2.1, h.2.2.2.2]
  by_cases h1 : fX7_intervalBy C y (C 1 2) < C 1 3 + C 1 4 * a
  · have h2 : ¬ C 1 3 + C 1 4 * a ≤ fX7_intervalBy C y (C 1 2) := by rw [i_le]; rw [i_lt] at h1; omega
    simp only [h1, h2, if_true, if_false]
  · have h2 : C 1 3 + C 1 4 * a ≤ fX7_intervalBy C y (C 1 2) := by rw [i_le]; rw [i_lt] at h1; omega
    simp only [h1, h2, if_true, if_false]
theorem q_high {B C : wB} (h : rR B (C 1)) (hi : iR (C 1)) : fX3_highestLevel B = fX7_highestBy C (C 1 2) := by
  unfold fX3_highestLevel fX7_highestBy
  rw [h.1, h.2.1, h.2.2.1]
  obtain ⟨s0, s1, s2, -, -⟩ := hi
  have e : (C 1 0 - C 1 1).toInt = (C 1 0).toInt - (C 1 1).toInt := ti_sub (by omega) (by omega)
  have h1g : (1 : Int32) ≤ C 1 2 := by rw [i_le, t1]; omega
  by_cases h1 : C 1 0 ≤ C 1 1
  · have h2 : ¬ (0 : Int32) < C 1 0 - C 1 1 := by rw [i_lt, e, t0]; rw [i_le] at h1; omega
    simp only [h1, h2, if_true, if_false]
  · have h2 : (0 : Int32) < C 1 0 - C 1 1 := by rw [i_lt, e, t0]; rw [i_le] at h1; omega
    simp only [h1, h2, h1g, if_true, if_false]
theorem q_moves {B : wB} {S : Nat → Int32} {T n : Nat} (h : rS B S n) (hi : iS S T n) : fX5_moves n B = if S (7 + 14 * n + 5) = 0 then 0 else 1 := by
  unfold fX5_moves
  rw [h.2.2.2.2.1]
  have h0 := hi.2.1.1
  by_cases e : S (7 + 14 * n + 5) = 0
  · have h2 : S (7 + 14 * n + 5) ≤ 0 := by rw [e]; decide
    simp only [e, if_true]
    rfl
  · have h2 : ¬ S (7 + 14 * n + 5) ≤ 0 := by
      rw [i_le, t0]
      rw [i_eq, t0] at e
      omega
    simp only [e, h2, if_false]
theorem q_find {B C : wB} {m M T : Nat} (h : RB m M T B (C 1)) (a : Int32) : (hX0_find B a ∧ ¬ fX7_isShaft C a = 0 ∧ a.toNatClampNeg < m ∧ a = nI a.toNatClampNeg) ∨ (¬ hX0_find B a ∧ fX7_isShaft C a = 0) := by
  obtain ⟨⟨a1, a2, a3⟩, -⟩ := h
  have em : (nI m).toInt = (m : Int) := nI_ti (by omega)
  have e1 : (nI m - 1).toInt = (m : Int) - 1 := (ti_sub (by rw [em, t1]; omega) (by rw [em, t1]; omega)).trans (by rw [em, t1])
  unfold hX0_find fX7_isShaft fX7_in
  rw [a2, a1]
  have e4 : (4 : Int32).toInt = 4 := by decide
  dsimp only
  by_cases c1 : a < 0
  · right
    rw [if_pos c1]
    exact ⟨fun q => q.1 c1, rfl⟩
  · rw [if_neg c1]
    by_cases c2 : nI m - 1 < a
    · right
      rw [if_pos c2]
      rw [i_lt, e1] at c2
      exact ⟨fun q => q.2.1 (by rw [i_le, em]; omega), rfl⟩
    · left
      rw [if_neg c2]
      rw [i_lt, e1] at c2
      rw [i_lt, t0] at c1
      have h5 := tn_of (a := a) (by omega)
      exact ⟨⟨h5.1, by rw [i_le, em]; omega, by rw [i_lt, e4]; omega⟩, by decide, by omega, nI_self h5.1⟩
theorem q_rests {B C : wB} {T n : Nat} (h : rS B (C 1) n) (hi : iS (C 1) T n) : (fX7_rests C n = 0 ∧ fX5_moves n B = 1 ∧ ¬ C 1 (7 + 14 * n + 5) = 0) ∨ (fX7_rests C n = 1 ∧ fX5_moves n B = 0 ∧ C 1 (7 + 14 * n + 5) = 0) := by
  rw [q_moves h hi]
  unfold fX7_rests
  by_cases e : C 1 (7 + 14 * n + 5) = 0
  · right; rw [if_pos e, if_pos e]; exact ⟨rfl, rfl, e⟩
  · left; rw [if_neg e, if_neg e]; exact ⟨rfl, rfl, e⟩
theorem i32_10 : ¬ (1 : Int32) = 0 := by decide
theorem a_interval {B C : wB} {m M T : Nat} (h : RB m M T B (C 1)) (a : Int32) : (if a < 0 then (-2) else if a ≤ 99 then (let x_3 := fX3_intervalOf B a; x_3) else (-2) : Int32) = fX7_interval C a := by
  unfold fX7_interval fX7_in
  dsimp only
  rw [q_int h.2.2.2.1.1]
  by_cases c1 : a < 0
  · simp only [c1, if_true]
  · by_cases c2 : a ≤ 99
    · have c3 : ¬ (99 : Int32) < a := by rw [i_lt]; rw [i_le] at c2; omega
      simp only [c1, c2, c3, if_true, if_false, i32_10]
    · have c3 : (99 : Int32) < a := by rw [i_lt]; rw [i_le] at c2; omega
      simp only [c1, c2, c3, if_true, if_false]
theorem a_of {Z : wZ} {m M T : Nat} (h : RB m M T (Z 0) (Z 12 1)) (a b : Int32) : fX6_of Z a b = fX7_of (Z 12) a b := by
  unfold fX6_of fX7_of
  dsimp only
  rcases q_find h a with ⟨h1, h2, h3, h4⟩ | ⟨h1, h2⟩
  · rw [if_pos h1, if_neg h2]
    obtain ⟨hr, hi⟩ := h.2.2.2.2.1 _ h3
    generalize a.toNatClampNeg = n at *
    have hr' := hr
    obtain ⟨r0, r1, r2, r3, r5, r6, r8, r9, r10, r47, rw⟩ := hr'
    unfold fX5_saysAfter fX7_says
    rw [r0, r1, r2, r3, r5, r6, r8, r9, r10, h.2.1.1, h.2.1.2.1]
    rcases q_rests hr hi with ⟨e1, e2, e3⟩ | ⟨e1, e2, e3⟩
    · rw [e1, e2, (r47 e3).1, (r47 e3).2]
      simp only [i32_10, if_true, if_false]
    · rw [e1, e2, e3, (hi.2.2.2.2.1 e3).1]
      simp only [i32_10, if_true, if_false, Int32.mul_zero]
  · rw [if_neg h1, if_pos h2]
theorem a_stopsAt {Z : wZ} {m M T : Nat} (h : RB m M T (Z 0) (Z 12 1)) (a : Int32) : fX6_stopsAt Z a = fX7_stopsAt (Z 12) a := by
  unfold fX6_stopsAt fX7_stopsAt
  dsimp only
  rcases q_find h a with ⟨h1, h2, h3, h4⟩ | ⟨h1, h2⟩
  · rw [if_pos h1, if_neg h2]
    obtain ⟨hr, hi⟩ := h.2.2.2.2.1 _ h3
    generalize a.toNatClampNeg = n at *
    have hr' := hr
    obtain ⟨r0, r1, r2, r3, r5, r6, r8, r9, r10, r47, rw⟩ := hr'
    unfold fX5_leftIfHalted fX5_saysAfter fX7_says
    rw [r0, r2, r5, r6]
    rcases q_rests hr hi with ⟨e1, e2, e3⟩ | ⟨e1, e2, e3⟩
    · rw [e1, (r47 e3).1]
      simp only [if_true]
      by_cases c : Z 12 1 (7 + 14 * n + 5) ≤ Z 12 1 (7 + 14 * n + 6)
      · have c2 : ¬ Z 12 1 (7 + 14 * n + 6) < Z 12 1 (7 + 14 * n + 5) := by rw [i_lt]; rw [i_le] at c; omega
        simp only [c, c2, if_true, if_false]
      · have c2 : Z 12 1 (7 + 14 * n + 6) < Z 12 1 (7 + 14 * n + 5) := by rw [i_lt]; rw [i_le] at c; omega
        simp only [c, c2, if_true, if_false]
    · rw [e1, e3, (hi.2.2.2.2.1 e3).1]
      simp only [i32_10, if_true, if_false, Int32.mul_zero, ite_self]
  · rw [if_neg h1, if_pos h2]
theorem a_waiting {Z : wZ} {m M T : Nat} (h : RB m M T (Z 0) (Z 12 1)) (a b : Int32) : fX6_waiting Z a b = fX7_waiting (Z 12) a b := by
  unfold fX6_waiting fX7_waiting
  dsimp only
  rcases q_find h a with ⟨h1, h2, h3, h4⟩ | ⟨h1, h2⟩
  · rw [if_pos h1, if_neg h2]
    obtain ⟨hr, hi⟩ := h.2.2.2.2.1 _ h3
    generalize a.toNatClampNeg = n at *
    obtain ⟨r0, r1, r2, r3, r5, r6, r8, r9, r10, r47, rw⟩ := hr
    rw [r10]
    unfold fX7_in
    have hw := hi.2.2.2.1
    have e1 : (Z 12 1 (7 + 14 * n + 8) - 1).toInt = (Z 12 1 (7 + 14 * n + 8)).toInt - 1 := (ti_sub (by rw [t1]; omega) (by rw [t1]; omega)).trans (by rw [t1])
    by_cases c1 : b < 0
    · simp only [c1, if_true]
    · by_cases c2 : Z 12 1 (7 + 14 * n + 8) ≤ b
      · have c3 : Z 12 1 (7 + 14 * n + 8) - 1 < b := by rw [i_lt, e1]; rw [i_le] at c2; omega
        simp only [c1, c2, c3, if_true, if_false]
      · have c3 : ¬ Z 12 1 (7 + 14 * n + 8) - 1 < b := by rw [i_lt, e1]; rw [i_le] at c2; omega
        have e3 : (3 : Int32).toInt = 3 := by decide
        have c4 : b < 3 := by rw [i_lt, e3]; rw [i_le] at c2; omega
        simp only [c1, c2, c3, c4, if_true, if_false, i32_10]
        have h5 := tn_of (a := b) (by rw [i_lt, t0] at c1; omega)
        rw [rw b.toNatClampNeg (by rw [i_le] at c2; omega)]
  · rw [if_neg h1, if_pos h2]

/-! a move from rest: its ticks, its highest level, the gain that bears *-/
theorem q_intg {B C : wB} {g : Int32} (h0 : B 1 0 = C 1 0) (h1 : B 1 1 = C 1 1) (h2 : B 1 2 = g) (y : Int32) : fX3_intervalOf B y = fX7_intervalBy C y g := by
  unfold fX3_intervalOf fX7_intervalBy
  rw [h0, h1, h2]
  by_cases h1 : C 1 0 - g * y ≤ C 1 1
  · simp only [h1, if_true]
    by_cases h2 : C 1 1 ≤ C 1 0 - g * y
    · simp only [h2, if_true]
      rw [i_eq]; rw [i_le] at h1 h2; omega
    · simp only [h2, if_false]
  · simp only [h1, if_false]
    have h2 : C 1 1 ≤ C 1 0 - g * y := by rw [i_le] at h1 ⊢; omega
    simp only [h2, if_true]
theorem q_highg {B C : wB} {g : Int32} (h0 : B 1 0 = C 1 0) (h1 : B 1 1 = C 1 1) (h2 : B 1 2 = g) (hi : iR (C 1)) (hg : 1 ≤ g.toInt) : fX3_highestLevel B = fX7_highestBy C g := by
  unfold fX3_highestLevel fX7_highestBy
  rw [h0, h1, h2]
  obtain ⟨s0, s1, s2, -, -⟩ := hi
  have e : (C 1 0 - C 1 1).toInt = (C 1 0).toInt - (C 1 1).toInt := ti_sub (by omega) (by omega)
  have h1g : (1 : Int32) ≤ g := by rw [i_le, t1]; omega
  by_cases h1 : C 1 0 ≤ C 1 1
  · have h2 : ¬ (0 : Int32) < C 1 0 - C 1 1 := by rw [i_lt, e, t0]; rw [i_le] at h1; omega
    simp only [h1, h2, if_true, if_false]
  · have h2 : (0 : Int32) < C 1 0 - C 1 1 := by rw [i_lt, e, t0]; rw [i_le] at h1; omega
    simp only [h1, h2, h1g, if_true, if_false]
theorem i_div {x y : Int32} (hx : 0 ≤ x.toInt) (hy : 1 ≤ y.toInt) : (x / y).toInt = x.toInt / y.toInt := by
  rw [Int32.toInt_div, Int.tdiv_eq_ediv_of_nonneg hx]
  have h1 : 0 ≤ x.toInt / y.toInt := Int.ediv_nonneg hx (by omega)
  have h2 : x.toInt / y.toInt ≤ x.toInt := Int.ediv_le_self _ hx
  have h3 := Int32.toInt_lt x
  exact Int.bmod_eq_of_le (by omega) (by omega)
theorem h_range {C : wB} {g : Int32} (hi : iR (C 1)) (hg : 1 ≤ g.toInt) (hg2 : g.toInt ≤ 40) : 0 ≤ (fX7_highestBy C g).toInt ∧ (fX7_highestBy C g).toInt ≤ 198 := by
  unfold fX7_highestBy
  obtain ⟨s0, s1, s2, -, -⟩ := hi
  have e : (C 1 0 - C 1 1).toInt = (C 1 0).toInt - (C 1 1).toInt := ti_sub (by omega) (by omega)
  dsimp only
  by_cases h2 : (0 : Int32) < C 1 0 - C 1 1
  · rw [if_pos h2]
    rw [i_lt, e, t0] at h2
    have e2 : (C 1 0 - C 1 1 + g).toInt = (C 1 0).toInt - (C 1 1).toInt + g.toInt := (ti_add (by rw [e]; omega) (by rw [e]; omega)).trans (by rw [e])
    have e3 : (C 1 0 - C 1 1 + g - 1).toInt = (C 1 0).toInt - (C 1 1).toInt + g.toInt - 1 := (ti_sub (by rw [e2, t1]; omega) (by rw [e2, t1]; omega)).trans (by rw [e2, t1])
    rw [i_div (by rw [e3]; omega) hg, e3]
    constructor
    · exact Int.ediv_nonneg (by omega) (by omega)
    · have h5 : ((C 1 0).toInt - (C 1 1).toInt + g.toInt - 1) / g.toInt < 199 := by
        apply Int.ediv_lt_of_lt_mul (by omega)
        have : 199 * 1 ≤ 199 * g.toInt := by omega
        omega
      omega
  · rw [if_neg h2, t0]; omega
theorem q_level {B : wB} {y z h : Int32} (hh : fX3_highestLevel B = h) (hy : 0 ≤ y.toInt ∧ y.toInt ≤ 200) (hh2 : 0 ≤ h.toInt ∧ h.toInt ≤ 198) : fX3_levelAfter B y z = fX7_nextLevel y z h := by
  unfold fX3_levelAfter fX7_nextLevel
  rw [hh]
  have e1 : (y + 1).toInt = y.toInt + 1 := (ti_add (by rw [t1]; omega) (by rw [t1]; omega)).trans (by rw [t1])
  have e2 : (y - 1).toInt = y.toInt - 1 := (ti_sub (by rw [t1]; omega) (by rw [t1]; omega)).trans (by rw [t1])
  by_cases c : y < z
  · simp only [c, if_true]
    by_cases d : h ≤ y
    · have d2 : h < y + 1 := by rw [i_lt, e1]; rw [i_le] at d; omega
      simp only [d, d2, if_true]
    · have d2 : ¬ h < y + 1 := by rw [i_lt, e1]; rw [i_le] at d; omega
      simp only [d, d2, if_false]
  · simp only [c, if_false]
    by_cases d : y ≤ 0
    · have d2 : y - 1 < 0 := by rw [i_lt, e2, t0]; rw [i_le, t0] at d; omega
      simp only [d, d2, if_true]
    · have d2 : ¬ y - 1 < 0 := by rw [i_lt, e2, t0]; rw [i_le, t0] at d; omega
      simp only [d, d2, if_false]
theorem lev_range {y z h : Int32} (hy : 0 ≤ y.toInt ∧ y.toInt ≤ 200) (hh2 : 0 ≤ h.toInt ∧ h.toInt ≤ 198) : 0 ≤ (fX7_nextLevel y z h).toInt ∧ (fX7_nextLevel y z h).toInt ≤ 200 ∧ ((fX7_nextLevel y z h).toInt = if y.toInt < z.toInt then (if h.toInt ≤ y.toInt then h.toInt else y.toInt + 1) else (if y.toInt ≤ 0 then 0 else y.toInt - 1)) := by
  unfold fX7_nextLevel
  have e1 : (y + 1).toInt = y.toInt + 1 := (ti_add (by rw [t1]; omega) (by rw [t1]; omega)).trans (by rw [t1])
  have e2 : (y - 1).toInt = y.toInt - 1 := (ti_sub (by rw [t1]; omega) (by rw [t1]; omega)).trans (by rw [t1])
  by_cases c : y < z
  · rw [if_pos c, if_pos (i_lt.mp c)]
    by_cases d : h ≤ y
    · rw [if_pos d, if_pos (i_le.mp d)]; rw [i_le] at d; omega
    · rw [if_neg d, if_neg (fun q => d (i_le.mpr q)), e1]; rw [i_le] at d; omega
  · rw [if_neg c, if_neg (fun q => c (i_lt.mpr q))]
    by_cases d : y ≤ 0
    · rw [if_pos d, if_pos (by rw [i_le, t0] at d; exact d), t0]; omega
    · rw [if_neg d, if_neg (fun q => d (by rw [i_le, t0]; exact q)), e2]; rw [i_le, t0] at d; omega
/-- the ticks -/
theorem e_tk {B C : wB} (hr : rR B (C 1)) (hi : iR (C 1)) : ∀ (u : Nat) (x y t w : Int32), 0 ≤ y.toInt ∧ y.toInt ≤ 200 → LX3_tk B u x y = (LX7_wh C (C 1 2) (fX7_highestBy C (C 1 2)) u y t x w).1 := by
  have hh := h_range hi hi.2.2.1.1 hi.2.2.1.2
  have hq := q_high hr hi
  intro u
  induction u with
  | zero => intro x y t w hy; rfl
  | succ u ih =>
    intro x y t w hy
    simp only [LX3_tk, LX7_wh]
    rw [q_int hr, q_level hq hy hh]
    exact ih _ _ _ _ ⟨(lev_range hy hh).1, (lev_range hy hh).2.1⟩
/-- the highest level reached -/
theorem e_peak {C : wB} {g h : Int32} (hh : 0 ≤ h.toInt ∧ h.toInt ≤ 198) : ∀ (u : Nat) (y t x w : Int32), u < 2 ^ 20 → 0 ≤ y.toInt → y.toInt ≤ h.toInt → 0 ≤ t.toInt → 1 ≤ u → (LX7_wh C g h u y t x w).2.1.toInt = max t.toInt (max y.toInt (min h.toInt ((y.toInt + u) / 2))) := by
  intro u
  induction u with
  | zero => intro y t x w _ _ _ _ h; omega
  | succ u ih =>
    intro y t x w hu h1 h2 h3 _
    simp only [LX7_wh]
    have hl := lev_range (y := y) (z := nI u) (h := h) ⟨h1, by omega⟩ hh
    rw [nI_ti (show u < 2 ^ 31 by omega)] at hl
    have ht : (if y ≤ t then t else y : Int32).toInt = max t.toInt y.toInt := by
      by_cases c : y ≤ t
      · rw [if_pos c]; rw [i_le] at c; omega
      · rw [if_neg c]; rw [i_le] at c; omega
    by_cases hu0 : u = 0
    · subst hu0
      simp only [LX7_wh]
      rw [ht]
      omega
    · have hn : (fX7_nextLevel y (nI u) h).toInt ≤ h.toInt := by
        rw [hl.2.2]
        split <;> split <;> omega
      rw [ih _ _ _ _ (by omega) hl.1 hn (by rw [ht]; omega) (by omega), ht]
      have h9 := hl.2.2
      generalize (fX7_nextLevel y (nI u) h).toInt = y2 at *
      split at h9 <;> split at h9 <;> omega
theorem q_peak {B : wB} {a : Int32} {h : Int32} (hh : fX3_highestLevel B = h) (ha : 1 ≤ a.toInt ∧ a.toInt ≤ 999) : (fX3_peakOf B a).toInt = min h.toInt (a.toInt / 2) := by
  unfold fX3_peakOf
  rw [hh]
  have e2 : (2 : Int32).toInt = 2 := by decide
  have e : (a / 2).toInt = a.toInt / 2 := (i_div (by omega) (by rw [e2]; omega)).trans (by rw [e2])
  dsimp only
  by_cases c : a / 2 < h
  · rw [if_pos c, e]; rw [i_lt, e] at c; omega
  · rw [if_neg c]; rw [i_lt, e] at c; omega
theorem in_in {a b c : Int32} : fX7_in a b c = if a < b then 0 else if c < a then 0 else 1 := rfl
theorem a_moveOf {Z : wZ} {m M T : Nat} (h : RB m M T (Z 0) (Z 12 1)) (a b : Int32) : fX6_moveOf Z a b = fX7_moveOf (Z 12) a b := by
  unfold fX6_moveOf fX7_moveOf
  obtain ⟨hr, hi⟩ := h.2.2.2.1
  dsimp only
  rw [in_in, in_in]
  by_cases c1 : a < 1
  · simp only [c1, if_true]
  · by_cases c2 : 999 < a
    · simp only [c1, c2, if_true, if_false]
    · by_cases c3 : b < 0
      · simp only [c1, c2, c3, if_true, if_false, i32_10]
      · by_cases c4 : b ≤ 1
        · have c5 : ¬ (1 : Int32) < b := by rw [i_lt]; rw [i_le] at c4; omega
          simp only [c1, c2, c3, c4, c5, if_true, if_false, i32_10]
          have e9 : (999 : Int32).toInt = 999 := by decide
          rw [i_lt, t1] at c1
          rw [i_lt, e9] at c2
          have hN := (tn_of (a := a) (by omega)).2
          have hh := h_range hi hi.2.2.1.1 hi.2.2.1.2
          unfold fX7_whole gX7_wh fX3_ticksOf
          by_cases c6 : b = 0
          · rw [if_pos c6, if_pos c6]
            exact e_tk hr hi _ _ _ _ _ (by rw [t0]; omega)
          · have c7 : b = 1 := by
              rw [i_eq, t1]
              rw [i_eq, t0] at c6
              rw [i_le, t1] at c4
              rw [i_lt, t0] at c3
              omega
            subst c7
            rw [if_neg c6, if_neg c6, if_pos rfl, i_eq, q_peak (q_high hr hi) (by omega), e_peak hh _ _ _ _ _ (by omega) (by rw [t0]; omega) (by rw [t0]; omega) (by rw [t0]; omega) (by omega), t0]
            omega
        · have c5 : (1 : Int32) < b := by rw [i_lt]; rw [i_le] at c4; omega
          simp only [c1, c2, c3, c4, c5, if_true, if_false, i32_10]

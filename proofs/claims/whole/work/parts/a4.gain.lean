/-! bestGain -/
theorem i_mul {x y : Int32} (h1 : -2147483648 ≤ x.toInt * y.toInt) (h2 : x.toInt * y.toInt < 2147483648) : (x * y).toInt = x.toInt * y.toInt := by
  rw [Int32.toInt_mul]
  exact Int.bmod_eq_of_le (by omega) (by omega)
theorem mul_range {a b A B : Int} (h1 : 0 ≤ a) (h2 : a ≤ A) (h3 : 0 ≤ b) (h4 : b ≤ B) : 0 ≤ a * b ∧ a * b ≤ A * B :=
  ⟨Int.mul_nonneg h1 h3, Int.mul_le_mul h2 h4 h3 (by omega)⟩
theorem int_ti {C : wB} {g y : Int32} (hi : iR (C 1)) (hg : 1 ≤ g.toInt ∧ g.toInt ≤ 40) (hy : 0 ≤ y.toInt ∧ y.toInt ≤ 200) : (fX7_intervalBy C y g).toInt = max (C 1 1).toInt ((C 1 0).toInt - g.toInt * y.toInt) := by
  unfold fX7_intervalBy
  obtain ⟨s0, s1, s2, -, -⟩ := hi
  have hm := mul_range (show 0 ≤ g.toInt by omega) hg.2 hy.1 hy.2
  have e1 : (g * y).toInt = g.toInt * y.toInt := i_mul (by omega) (by omega)
  have e2 : (C 1 0 - g * y).toInt = (C 1 0).toInt - g.toInt * y.toInt := (ti_sub (by rw [e1]; omega) (by rw [e1]; omega)).trans (by rw [e1])
  dsimp only
  by_cases c : C 1 1 ≤ C 1 0 - g * y
  · rw [if_pos c, e2]; rw [i_le, e2] at c; omega
  · rw [if_neg c]; rw [i_le, e2] at c; omega
theorem int_mono {C : wB} {g y t : Int32} (hi : iR (C 1)) (hg : 1 ≤ g.toInt ∧ g.toInt ≤ 40) (hy : 0 ≤ y.toInt ∧ y.toInt ≤ 200) (ht : 0 ≤ t.toInt ∧ t.toInt ≤ 200) (h : y.toInt ≤ t.toInt) : (fX7_intervalBy C t g).toInt ≤ (fX7_intervalBy C y g).toInt := by
  rw [int_ti hi hg hy, int_ti hi hg ht]
  have h9 : g.toInt * y.toInt ≤ g.toInt * t.toInt := Int.mul_le_mul_of_nonneg_left h (by omega)
  omega
theorem e_min {C : wB} {g h : Int32} (hi : iR (C 1)) (hg : 1 ≤ g.toInt ∧ g.toInt ≤ 40) (hh : 0 ≤ h.toInt ∧ h.toInt ≤ 198) : ∀ (u : Nat) (y t x w : Int32), (0 ≤ y.toInt ∧ y.toInt ≤ 200) → (0 ≤ t.toInt ∧ t.toInt ≤ 200) → w = fX7_intervalBy C t g → (LX7_wh C g h u y t x w).2.2 = fX7_intervalBy C (LX7_wh C g h u y t x w).2.1 g := by
  intro u
  induction u with
  | zero => intro y t x w _ _ hw; exact hw
  | succ u ih =>
    intro y t x w hy ht hw
    simp only [LX7_wh]
    refine ih _ _ _ _ ⟨(lev_range hy hh).1, (lev_range hy hh).2.1⟩ ?_ ?_
    · by_cases c : y ≤ t
      · rw [if_pos c]; exact ht
      · rw [if_neg c]; exact hy
    · subst hw
      by_cases c : y ≤ t
      · rw [if_pos c, if_pos (i_le.mpr (int_mono hi hg hy ht (i_le.mp c)))]
      · have h9 := int_mono (C := C) hi hg ht hy (by rw [i_le] at c; omega)
        rw [if_neg c]
        by_cases d : fX7_intervalBy C t g ≤ fX7_intervalBy C y g
        · rw [if_pos d, i_eq]; rw [i_le] at d; omega
        · rw [if_neg d]
theorem g_notg {B C : wB} {g : Int32} (h0 : B 1 0 = C 1 0) (h1 : B 1 1 = C 1 1) (h2 : B 1 2 = g) (h3 : B 1 3 = C 1 3) (h4 : B 1 4 = C 1 4) (y a : Int32) : fX3_grips B y a = 0 ↔ fX7_intervalBy C y g < fX7_needs C a := by
  unfold fX3_grips fX7_needs
  rw [q_intg h0 h1 h2, h3, h4]
  dsimp only
  by_cases e : fX7_intervalBy C y g < C 1 3 + C 1 4 * a
  · rw [if_pos e]; exact ⟨fun _ => e, fun _ => rfl⟩
  · rw [if_neg e]; exact ⟨fun q => absurd q i32_10, fun q => absurd q e⟩
/-- the greatest gain up to u that bears -/
def bgG (C : wB) (N : Nat) (b : Int32) : Nat → Int32
  | 0 => -6
  | u + 1 => if fX7_whole C N (nI (u + 1)) 2 < fX7_needs C b then bgG C N b u else nI (u + 1)
theorem bg_m (C : wB) (N : Nat) (b : Int32) : ∀ u k : Nat, LX7_bg C N b u (k + 1) (bgG C N b k) = bgG C N b (k + u) := by
  intro u
  induction u with
  | zero => intro k; rfl
  | succ u ih =>
    intro k
    simp only [LX7_bg]
    have := ih (k + 1)
    simp only [bgG] at this
    rw [this, show k + (u + 1) = k + 1 + u by omega]
theorem bg_w {B C : wB} {g a b : Int32} (h0 : B 1 0 = C 1 0) (h1 : B 1 1 = C 1 1) (h2 : B 1 2 = g) (h3 : B 1 3 = C 1 3) (h4 : B 1 4 = C 1 4) (hi : iR (C 1)) (hg : 1 ≤ g.toInt ∧ g.toInt ≤ 40) (ha : 1 ≤ a.toInt ∧ a.toInt ≤ 999) : fX3_grips B (fX3_peakOf B a) b = 0 ↔ fX7_whole C a.toNatClampNeg g 2 < fX7_needs C b := by
  rw [g_notg h0 h1 h2 h3 h4]
  have hh := h_range hi hg.1 hg.2
  have hN := (tn_of (a := a) (by omega)).2
  have z0 : (0 : Int32).toInt = 0 := t0
  have e : fX7_whole C a.toNatClampNeg g 2 = fX7_intervalBy C (fX3_peakOf B a) g := by
    unfold fX7_whole gX7_wh
    rw [if_neg (by decide), if_neg (by decide), e_min hi hg hh _ _ _ _ _ (by rw [t0]; omega) (by rw [t0]; omega) rfl]
    congr 1
    rw [i_eq, q_peak (q_highg h0 h1 h2 hi hg.1) ha, e_peak hh _ _ _ _ _ (by omega) (by rw [t0]; omega) (by rw [t0]; omega) (by rw [t0]; omega) (by omega), t0]
    omega
  rw [e]
theorem bg_c {C : wB} {a b : Int32} (hi : iR (C 1)) (ha : 1 ≤ a.toInt ∧ a.toInt ≤ 999) : ∀ (u : Nat) (B : wB), u ≤ 40 → B 1 0 = C 1 0 → B 1 1 = C 1 1 → B 1 3 = C 1 3 → B 1 4 = C 1 4 → (LX6_bg a b u B).2 = bgG C a.toNatClampNeg b u := by
  intro u
  induction u with
  | zero => intro B _ _ _ _ _; rfl
  | succ u ih =>
    intro B hu h0 h1 h3 h4
    simp only [LX6_bg, bgG]
    have k0 : (bput B 1 2 (nI (u + 1))) 1 0 = C 1 0 := (bput_q (by decide)).trans h0
    have k1 : (bput B 1 2 (nI (u + 1))) 1 1 = C 1 1 := (bput_q (by decide)).trans h1
    have k3 : (bput B 1 2 (nI (u + 1))) 1 3 = C 1 3 := (bput_q (by decide)).trans h3
    have k4 : (bput B 1 2 (nI (u + 1))) 1 4 = C 1 4 := (bput_q (by decide)).trans h4
    have hw := bg_w (b := b) k0 k1 bput_h k3 k4 hi (by rw [nI_ti (by omega)]; omega) ha
    by_cases c : fX7_whole C a.toNatClampNeg (nI (u + 1)) 2 < fX7_needs C b
    · rw [if_pos c, if_pos (hw.mpr c)]
      exact ih _ (by omega) k0 k1 k3 k4
    · rw [if_neg c, if_neg (fun q => c (hw.mp q))]
theorem tk3_0 {B C : wB} : fX3_take B C 1 0 = C 1 0 := by simp [fX3_take, bput]
theorem tk3_1 {B C : wB} : fX3_take B C 1 1 = C 1 1 := by simp [fX3_take, bput]
theorem tk3_2 {B C : wB} : fX3_take B C 1 2 = C 1 2 := by simp [fX3_take, bput]
theorem tk3_3 {B C : wB} : fX3_take B C 1 3 = C 1 3 := by simp [fX3_take, bput]
theorem tk3_4 {B C : wB} : fX3_take B C 1 4 = C 1 4 := by simp [fX3_take, bput]
theorem a_bestGain {Z : wZ} {m M T : Nat} (h : RB m M T (Z 0) (Z 12 1)) (a b : Int32) : (fX6_bestGain Z a b).2 = fX7_bestGain (Z 12) a b ∧ ∀ i, i ≠ 1 → (fX6_bestGain Z a b).1 i = Z i := by
  unfold fX6_bestGain fX7_bestGain gX6_bg
  obtain ⟨hr, hi⟩ := h.2.2.2.1
  rw [in_in, in_in]
  by_cases c1 : a < 1
  · simp only [c1, if_true]
    exact ⟨trivial, fun _ _ => trivial⟩
  · by_cases c2 : 999 < a
    · simp only [c1, c2, if_true, if_false]
      exact ⟨trivial, fun _ _ => trivial⟩
    · by_cases c3 : b < 0
      · simp only [c1, c2, c3, if_true, if_false, i32_10]
        exact ⟨trivial, fun _ _ => trivial⟩
      · by_cases c4 : b ≤ 9
        · have c5 : ¬ (9 : Int32) < b := by rw [i_lt]; rw [i_le] at c4; omega
          simp only [c1, c2, c3, c4, c5, if_true, if_false, i32_10]
          have e9 : (999 : Int32).toInt = 999 := by decide
          rw [i_lt, t1] at c1
          rw [i_lt, e9] at c2
          refine ⟨?_, fun i hi => wset_ne _ _ hi⟩
          have h1 := bg_m (Z 12) a.toNatClampNeg b 40 0
          exact (bg_c (C := Z 12) (a := a) (b := b) hi (by omega) 40 (fX3_take (Z 1) (Z 0)) (Nat.le_refl _) (tk3_0.trans hr.1) (tk3_1.trans hr.2.1) (tk3_3.trans hr.2.2.2.1) (tk3_4.trans hr.2.2.2.2)).trans ((congrArg (bgG (Z 12) a.toNatClampNeg b) (show 40 = 0 + 40 from rfl)).trans h1.symm)
        · have c5 : (9 : Int32) < b := by rw [i_lt]; rw [i_le] at c4; omega
          simp only [c1, c2, c3, c4, c5, if_true, if_false, i32_10]
          exact ⟨trivial, fun _ _ => trivial⟩

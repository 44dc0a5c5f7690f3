/-! a step, on both sides -/
/-- behind the counts: what is left, and what comes then -/
def cSt (B1 : wB) (n : Nat) (t : Int32) (y z : Int32) : wB :=
  if fX5_moves n B1 = 0 then bput B1 (3 + n) 6 0 else bput (bput B1 (3 + n) 6 (fX3_levelAfter B1 y z)) (3 + n) 7 (t + fX3_intervalOf (bput B1 (3 + n) 6 (fX3_levelAfter B1 y z)) (fX3_levelAfter B1 y z))
def mSt (D : wB) (n : Nat) (t y z g : Int32) : wB :=
  if fX7_rests D n = 0 then bput (bput D 1 (7 + 14 * n + 6) (fX7_nextLevel y z (fX7_highestBy D g))) 1 (7 + 14 * n + 7) (t + fX7_intervalBy (bput D 1 (7 + 14 * n + 6) (fX7_nextLevel y z (fX7_highestBy D g))) (fX7_nextLevel y z (fX7_highestBy D g)) g) else LX7_sw n 3 (bput D 1 (7 + 14 * n + 6) 0)
/-- what a step does to the reference's own counts: the shaft and the loss of the step that is looked for -/
def mG0 (C : wB) (n : Nat) (b : Int32) : wB :=
  if C 0 2 = 0 then bput (bput (bput C 0 3 (nI n)) 0 4 b) 0 2 (C 0 2 - (if 0 ≤ C 0 2 then 1 else 0)) else bput C 0 2 (C 0 2 - (if 0 ≤ C 0 2 then 1 else 0))
def mCt (C D : wB) (n : Nat) (x a b : Int32) : wB :=
  bput (bput (bput (bput D 1 (7 + 14 * n + 2) (C 1 (7 + 14 * n + 2) + x)) 1 (7 + 14 * n + 3) (C 1 (7 + 14 * n + 3) + a)) 1 (7 + 14 * n + 12) (C 1 (7 + 14 * n + 12) + 1)) 1 (7 + 14 * n + 13) (C 1 (7 + 14 * n + 13) + b) 
def mLf (C D : wB) (n : Nat) : wB := bput D 1 (7 + 14 * n + 5) (C 1 (7 + 14 * n + 5) - 1)
theorem st_m (C : wB) (n : Nat) : fX7_steps C n = if fX7_needs C (C 1 (7 + 14 * n + 1)) ≤ fX7_intervalBy C (C 1 (7 + 14 * n + 6)) (C 1 2)
    then mSt (mLf C (mCt C (mG0 C n 0) n (C 1 (7 + 14 * n + 4) * C 1 (7 + 14 * n + 0)) (C 1 (7 + 14 * n + 4) * C 1 (7 + 14 * n + 0)) 0) n) n (C 1 5) (C 1 (7 + 14 * n + 6)) (C 1 (7 + 14 * n + 5) - 1) (C 1 2)
    else mSt (mLf C (mCt C (mG0 C n 1) n (C 1 (7 + 14 * n + 4) * C 1 (7 + 14 * n + 0)) 0 1) n) n (C 1 5) (C 1 (7 + 14 * n + 6)) (C 1 (7 + 14 * n + 5) - 1) (C 1 2) := by
  unfold fX7_steps
  dsimp only
  by_cases c2 : C 0 2 = 0
  · by_cases c3 : 0 ≤ C 0 2
    · have e : ∀ b, mG0 C n b = bput (bput (bput C 0 3 (nI n)) 0 4 b) 0 2 (C 0 2 - 1) := fun b => by unfold mG0; rw [if_pos c2, if_pos c3]
      rw [e, e]
      by_cases c1 : fX7_needs C (C 1 (7 + 14 * n + 1)) ≤ fX7_intervalBy C (C 1 (7 + 14 * n + 6)) (C 1 2)
      · rw [if_pos c1, if_pos c1, if_pos c2, if_pos c3]; rfl
      · rw [if_neg c1, if_neg c1, if_pos c2, if_pos c3]; rfl
    · have e : ∀ b, mG0 C n b = bput (bput (bput C 0 3 (nI n)) 0 4 b) 0 2 (C 0 2 - 0) := fun b => by unfold mG0; rw [if_pos c2, if_neg c3]
      rw [e, e]
      by_cases c1 : fX7_needs C (C 1 (7 + 14 * n + 1)) ≤ fX7_intervalBy C (C 1 (7 + 14 * n + 6)) (C 1 2)
      · rw [if_pos c1, if_pos c1, if_pos c2, if_neg c3]; rfl
      · rw [if_neg c1, if_neg c1, if_pos c2, if_neg c3]; rfl
  · by_cases c3 : 0 ≤ C 0 2
    · have e : ∀ b, mG0 C n b = bput C 0 2 (C 0 2 - 1) := fun b => by unfold mG0; rw [if_neg c2, if_pos c3]
      rw [e, e]
      by_cases c1 : fX7_needs C (C 1 (7 + 14 * n + 1)) ≤ fX7_intervalBy C (C 1 (7 + 14 * n + 6)) (C 1 2)
      · rw [if_pos c1, if_pos c1, if_neg c2, if_pos c3]; rfl
      · rw [if_neg c1, if_neg c1, if_neg c2, if_pos c3]; rfl
    · have e : ∀ b, mG0 C n b = bput C 0 2 (C 0 2 - 0) := fun b => by unfold mG0; rw [if_neg c2, if_neg c3]
      rw [e, e]
      by_cases c1 : fX7_needs C (C 1 (7 + 14 * n + 1)) ≤ fX7_intervalBy C (C 1 (7 + 14 * n + 6)) (C 1 2)
      · rw [if_pos c1, if_pos c1, if_neg c2, if_neg c3]; rfl
      · rw [if_neg c1, if_neg c1, if_neg c2, if_neg c3]; rfl
def cCt (B : wB) (n : Nat) (x a b : Int32) : wB :=
  bput (bput (bput (bput (bput B (3 + n) 2 (B (3 + n) 2 + x)) (3 + n) 8 (B (3 + n) 8 + 1)) (3 + n) 3 (B (3 + n) 3 + a)) (3 + n) 9 (B (3 + n) 9 + b)) (3 + n) 5 (B (3 + n) 5 - 1)
theorem gr_c {B B' : wB} (h : ∀ q, B' 1 q = B 1 q) (y a : Int32) : fX3_grips B' y a = fX3_grips B y a := by
  unfold fX3_grips fX3_intervalOf
  rw [h, h, h, h, h]
theorem st_c (B : wB) (n : Nat) (t : Int32) : fX5_makeStep n B t = if fX3_grips B (B (3 + n) 6) (B (3 + n) 1) = 0
    then cSt (cCt B n (B (3 + n) 4 * B (3 + n) 0) 0 1) n t (B (3 + n) 6) (B (3 + n) 5 - 1)
    else cSt (cCt B n (B (3 + n) 4 * B (3 + n) 0) (B (3 + n) 4 * B (3 + n) 0) 0) n t (B (3 + n) 6) (B (3 + n) 5 - 1) := by
  unfold fX5_makeStep
  dsimp only
  rw [gr_c (B := B) fun q => by rw [bput_j (by omega), bput_j (by omega)]]
  by_cases c : fX3_grips B (B (3 + n) 6) (B (3 + n) 1) = 0
  · rw [if_pos c, if_pos c]
    have e : cCt B n (B (3 + n) 4 * B (3 + n) 0) 0 1 = bput (bput (bput (bput B (3 + n) 2 (B (3 + n) 2 + B (3 + n) 4 * B (3 + n) 0)) (3 + n) 8 (B (3 + n) 8 + 1)) (3 + n) 9 (B (3 + n) 9 + 1)) (3 + n) 5 (B (3 + n) 5 - 1) := by
      unfold cCt
      congr 2
      rw [Int32.add_zero]
      funext j q
      unfold bput
      by_cases d : j = 3 + n ∧ q = 3
      · rw [if_pos d, if_neg (by omega), if_neg (by omega), d.1, d.2]
      · rw [if_neg d]
    rw [e]
    rfl
  · rw [if_neg c, if_neg c]
    have e : cCt B n (B (3 + n) 4 * B (3 + n) 0) (B (3 + n) 4 * B (3 + n) 0) 0 = bput (bput (bput (bput B (3 + n) 2 (B (3 + n) 2 + B (3 + n) 4 * B (3 + n) 0)) (3 + n) 8 (B (3 + n) 8 + 1)) (3 + n) 3 (B (3 + n) 3 + B (3 + n) 4 * B (3 + n) 0)) (3 + n) 5 (B (3 + n) 5 - 1) := by
      unfold cCt
      congr 1
      rw [Int32.add_zero]
      funext j q
      unfold bput
      by_cases d : j = 3 + n ∧ q = 9
      · rw [if_pos d, if_neg (by omega), if_neg (by omega), if_neg (by omega), d.1, d.2]
      · rw [if_neg d]
    rw [e]
    rfl
/-- behind the counts: both sides go on alike -/
theorem d_stp {B C B1 D : wB} {T n : Nat} {x a b : Int32} (hT : T ≤ 125000) (hR : rR B (C 1)) (hi : iR (C 1)) (hT5 : C 1 5 = nI T) (hr : rS B (C 1) n) (hg : gS (C 1) T 0 1 n) (hl : ¬ C 1 (7 + 14 * n + 5) = 0)
    (hx : x.toInt ≤ 4 ∧ -4 ≤ x.toInt) (ha : a.toInt ≤ 4 ∧ -4 ≤ a.toInt)
    (hB1 : B1 = cCt B n x a b) (hD1 : D 1 = mLf C (mCt C C n x a b) n 1) :
    rS (cSW n (nI T) 3 (cSt B1 n (nI T) (B (3 + n) 6) (B (3 + n) 5 - 1))) (mSt D n (C 1 5) (C 1 (7 + 14 * n + 6)) (C 1 (7 + 14 * n + 5) - 1) (C 1 2) 1) n ∧ iS (mSt D n (C 1 5) (C 1 (7 + 14 * n + 6)) (C 1 (7 + 14 * n + 5) - 1) (C 1 2) 1) T n ∧
    (∀ k, k < 7 + 14 * n ∨ 7 + 14 * n + 14 ≤ k → mSt D n (C 1 5) (C 1 (7 + 14 * n + 6)) (C 1 (7 + 14 * n + 5) - 1) (C 1 2) 1 k = C 1 k) ∧
    (∀ j, j ≠ 1 → mSt D n (C 1 5) (C 1 (7 + 14 * n + 6)) (C 1 (7 + 14 * n + 5) - 1) (C 1 2) j = D j) ∧
    ∀ j q, j ≠ 3 + n → j ≠ 7 + n → cSW n (nI T) 3 (cSt B1 n (nI T) (B (3 + n) 6) (B (3 + n) 5 - 1)) j q = B j q := by
  have hk : ∀ k, k ≠ 7 + 14 * n + 2 → k ≠ 7 + 14 * n + 3 → k ≠ 7 + 14 * n + 12 → k ≠ 7 + 14 * n + 13 → k ≠ 7 + 14 * n + 5 → D 1 k = C 1 k := by
    intro k q1 q2 q3 q4 q5
    rw [hD1]; unfold mLf mCt
    rw [bp_row, if_neg q5, bp_row, if_neg q4, bp_row, if_neg q3, bp_row, if_neg q2, bp_row, if_neg q1]
  have h2 : D 1 (7 + 14 * n + 2) = C 1 (7 + 14 * n + 2) + x := by
    rw [hD1]; unfold mLf mCt
    rw [bp_row, if_neg (by omega), bp_row, if_neg (by omega), bp_row, if_neg (by omega), bp_row, if_neg (by omega), bp_row, if_pos rfl]
  have h3 : D 1 (7 + 14 * n + 3) = C 1 (7 + 14 * n + 3) + a := by
    rw [hD1]; unfold mLf mCt
    rw [bp_row, if_neg (by omega), bp_row, if_neg (by omega), bp_row, if_neg (by omega), bp_row, if_pos rfl]
  have h12 : D 1 (7 + 14 * n + 12) = C 1 (7 + 14 * n + 12) + 1 := by
    rw [hD1]; unfold mLf mCt
    rw [bp_row, if_neg (by omega), bp_row, if_neg (by omega), bp_row, if_pos rfl]
  have h13 : D 1 (7 + 14 * n + 13) = C 1 (7 + 14 * n + 13) + b := by
    rw [hD1]; unfold mLf mCt
    rw [bp_row, if_neg (by omega), bp_row, if_pos rfl]
  have h5 : D 1 (7 + 14 * n + 5) = C 1 (7 + 14 * n + 5) - 1 := by
    rw [hD1]; unfold mLf mCt
    rw [bp_row, if_pos rfl]
  have bo : ∀ j q, j ≠ 3 + n → B1 j q = B j q := by
    intro j q hj
    rw [hB1]; unfold cCt
    rw [bput_j hj, bput_j hj, bput_j hj, bput_j hj, bput_j hj]
  have bk : ∀ q, q ≠ 2 → q ≠ 8 → q ≠ 3 → q ≠ 9 → q ≠ 5 → B1 (3 + n) q = B (3 + n) q := by
    intro q q1 q2 q3 q4 q5
    rw [hB1]; unfold cCt
    rw [bput_q q5, bput_q q4, bput_q q3, bput_q q2, bput_q q1]
  have b2 : B1 (3 + n) 2 = B (3 + n) 2 + x := by
    rw [hB1]; unfold cCt
    rw [bput_q (by decide), bput_q (by decide), bput_q (by decide), bput_q (by decide), bput_h]
  have b8 : B1 (3 + n) 8 = B (3 + n) 8 + 1 := by
    rw [hB1]; unfold cCt
    rw [bput_q (by decide), bput_q (by decide), bput_q (by decide), bput_h]
  have b3 : B1 (3 + n) 3 = B (3 + n) 3 + a := by
    rw [hB1]; unfold cCt
    rw [bput_q (by decide), bput_q (by decide), bput_h]
  have b9 : B1 (3 + n) 9 = B (3 + n) 9 + b := by
    rw [hB1]; unfold cCt
    rw [bput_q (by decide), bput_h]
  have b5 : B1 (3 + n) 5 = B (3 + n) 5 - 1 := by
    rw [hB1]; unfold cCt
    rw [bput_h]
  clear hB1 hD1
  obtain ⟨r0, r1, r2, r3, r5, r6, r8, r9, r10, r47, rw'⟩ := hr
  obtain ⟨r4, r7⟩ := r47 hl
  obtain ⟨hj, g6, g12, -, g47⟩ := hg
  obtain ⟨g4, g7⟩ := g47 hl
  unfold jS at hj
  obtain ⟨j0, j5, j8, j12, j2, j3, jw⟩ := hj
  have e5 : (C 1 (7 + 14 * n + 5) - 1).toInt = (C 1 (7 + 14 * n + 5)).toInt - 1 := (ti_sub (by rw [t1]; omega) (by rw [t1]; omega)).trans (by rw [t1])
  have l5 : 1 ≤ (C 1 (7 + 14 * n + 5)).toInt := by rw [i_eq, t0] at hl; omega
  have e12 : (C 1 (7 + 14 * n + 12) + 1).toInt = (C 1 (7 + 14 * n + 12)).toInt + 1 := (ti_add (by rw [t1]; omega) (by rw [t1]; omega)).trans (by rw [t1])
  have e2 : (C 1 (7 + 14 * n + 2) + x).toInt = (C 1 (7 + 14 * n + 2)).toInt + x.toInt := ti_add (by omega) (by omega)
  have e3 : (C 1 (7 + 14 * n + 3) + a).toInt = (C 1 (7 + 14 * n + 3)).toInt + a.toInt := ti_add (by omega) (by omega)
  have hRD : rR B1 (D 1) := rR_c2 hR (fun q => bo 1 q (by omega)) fun q hq => hk q (by omega) (by omega) (by omega) (by omega) (by omega)
  have hiD : iR (D 1) := iR_c hi fun q hq => hk q (by omega) (by omega) (by omega) (by omega) (by omega)
  have hD2 : D 1 2 = C 1 2 := hk 2 (by omega) (by omega) (by omega) (by omega) (by omega)
  have hD5 : D 1 5 = nI T := (hk 5 (by omega) (by omega) (by omega) (by omega) (by omega)).trans hT5
  rw [hT5, ← hD2]
  -- what holds whatever level and next are
  have main : ∀ (v6 : Int32) (E : Nat → Int32) (K : wB), (∀ k, k ≠ 7 + 14 * n + 6 → k ≠ 7 + 14 * n + 7 → E k = D 1 k) → E (7 + 14 * n + 6) = v6 → (∀ q, q ≠ 6 → q ≠ 7 → K (3 + n) q = B1 (3 + n) q) → K (3 + n) 6 = v6 → (∀ j q, j ≠ 3 + n → K j q = B1 j q) → (¬ D 1 (7 + 14 * n + 5) = 0 → K (3 + n) 7 = E (7 + 14 * n + 7)) → rS K E n ∧ jS E T n := by
    intro v6 E K hE hE6 hK hK6 hKo hK7
    refine ⟨⟨?_, ?_, ?_, ?_, ?_, ?_, ?_, ?_, ?_, ?_, ?_⟩, ⟨?_, ?_, ?_, ?_, ?_, ?_, ?_⟩⟩
    · rw [hK 0 (by decide) (by decide), bk 0 (by decide) (by decide) (by decide) (by decide) (by decide), hE _ (by omega) (by omega), hk _ (by omega) (by omega) (by omega) (by omega) (by omega)]; exact r0
    · rw [hK 1 (by decide) (by decide), bk 1 (by decide) (by decide) (by decide) (by decide) (by decide), hE _ (by omega) (by omega), hk _ (by omega) (by omega) (by omega) (by omega) (by omega)]; exact r1
    · rw [hK 2 (by decide) (by decide), b2, hE _ (by omega) (by omega), h2, r2]
    · rw [hK 3 (by decide) (by decide), b3, hE _ (by omega) (by omega), h3, r3]
    · rw [hK 5 (by decide) (by decide), b5, hE _ (by omega) (by omega), h5, r5]
    · rw [hK6, hE6]
    · rw [hK 8 (by decide) (by decide), b8, hE _ (by omega) (by omega), h12, r8]
    · rw [hK 9 (by decide) (by decide), b9, hE _ (by omega) (by omega), h13, r9]
    · rw [hK 10 (by decide) (by decide), bk 10 (by decide) (by decide) (by decide) (by decide) (by decide), hE _ (by omega) (by omega), hk _ (by omega) (by omega) (by omega) (by omega) (by omega)]; exact r10
    · intro q
      rw [hE (7 + 14 * n + 5) (by omega) (by omega)] at q
      refine ⟨?_, hK7 q⟩
      rw [hK 4 (by decide) (by decide), bk 4 (by decide) (by decide) (by decide) (by decide) (by decide), hE _ (by omega) (by omega), hk _ (by omega) (by omega) (by omega) (by omega) (by omega)]; exact r4
    · intro q hq
      rw [hE (7 + 14 * n + 8) (by omega) (by omega), hk (7 + 14 * n + 8) (by omega) (by omega) (by omega) (by omega) (by omega)] at hq
      rw [hKo _ _ (by omega), bo _ _ (by omega), hE _ (by omega) (by omega), hk _ (by omega) (by omega) (by omega) (by omega) (by omega)]
      exact rw' q hq
    · rw [hE _ (by omega) (by omega), hk _ (by omega) (by omega) (by omega) (by omega) (by omega)]; exact j0
    · rw [hE _ (by omega) (by omega), h5, e5]; omega
    · rw [hE _ (by omega) (by omega), hk _ (by omega) (by omega) (by omega) (by omega) (by omega)]; exact j8
    · rw [hE _ (by omega) (by omega), h12, e12]; omega
    · rw [hE _ (by omega) (by omega), hE _ (by omega) (by omega), h12, e12, h2, e2]; omega
    · rw [hE _ (by omega) (by omega), hE _ (by omega) (by omega), h12, e12, h3, e3]; omega
    · intro q hq
      rw [hE (7 + 14 * n + 8) (by omega) (by omega), hk (7 + 14 * n + 8) (by omega) (by omega) (by omega) (by omega) (by omega)] at hq
      rw [hE _ (by omega) (by omega), hk _ (by omega) (by omega) (by omega) (by omega) (by omega)]
      exact jw q hq
  have hmv : fX5_moves n B1 = if D 1 (7 + 14 * n + 5) = 0 then 0 else 1 := by
    unfold fX5_moves
    rw [b5, r5, h5]
    by_cases c : C 1 (7 + 14 * n + 5) - 1 = 0
    · rw [if_pos c, c, if_pos (by decide)]
    · rw [if_neg c, if_neg]
      rw [i_le, t0, e5]
      rw [i_eq, t0, e5] at c
      omega
  unfold cSt mSt fX7_rests
  rw [hmv]
  by_cases c : D 1 (7 + 14 * n + 5) = 0
  · rw [if_pos c, if_pos c, if_pos rfl, if_neg i32_10]
    generalize hE : bput D 1 (7 + 14 * n + 6) 0 = E
    generalize hK : bput B1 (3 + n) 6 0 = K
    have eE : ∀ k, k ≠ 7 + 14 * n + 6 → E 1 k = D 1 k := fun k q => by rw [← hE, bp_row, if_neg q]
    have eE6 : E 1 (7 + 14 * n + 6) = 0 := by rw [← hE, bp_row, if_pos rfl]
    have eEo : ∀ j, j ≠ 1 → E j = D j := fun j q => by rw [← hE, bp_off q]
    have eK : ∀ q, q ≠ 6 → K (3 + n) q = B1 (3 + n) q := fun q h => by rw [← hK, bput_q h]
    have eK6 : K (3 + n) 6 = 0 := by rw [← hK, bput_h]
    have eKo : ∀ j q, j ≠ 3 + n → K j q = B1 j q := fun j q h => by rw [← hK, bput_j h]
    obtain ⟨m1, m2⟩ := main 0 (E 1) K (fun k q1 _ => eE k q1) eE6 (fun q h _ => eK q h) eK6 eKo (fun q => absurd c q)
    have hRE : rR K (E 1) := rR_c2 hRD (fun q => eKo 1 q (by omega)) fun q hq => eE q (by omega)
    have hiE : iR (E 1) := iR_c hiD fun q hq => eE q (by omega)
    have c' : E 1 (7 + 14 * n + 5) = 0 := (eE _ (by omega)).trans c
    obtain ⟨s1, s2, s3, s4, s5⟩ := d_sw hT 3 K E hRE hiE ((eE 5 (by omega)).trans hD5) m1 ⟨m2, by rw [eE6, t0]; omega, fun _ => eE6, fun q => absurd c' q⟩ (by rw [eE _ (by omega), hk _ (by omega) (by omega) (by omega) (by omega) (by omega)]; exact j8.2)
    refine ⟨s1, s2, fun k hk' => ?_, fun j hj => ?_, fun j q q1 q2 => ?_⟩
    · rw [s3 k hk', eE k (by omega), hk k (by omega) (by omega) (by omega) (by omega) (by omega)]
    · rw [s4 j hj, eEo j hj]
    · rw [s5 j q q1 q2, eKo j q q1, bo j q q1]
  · rw [if_neg c, if_neg c, if_neg i32_10, if_pos rfl]
    have hh := h_range hiD hiD.2.2.1.1 hiD.2.2.1.2
    have hq := q_high hRD hiD
    rw [r6, r5, q_level (B := B1) (h := fX7_highestBy D (D 1 2)) hq g6 hh]
    have hlv := lev_range (y := C 1 (7 + 14 * n + 6)) (z := C 1 (7 + 14 * n + 5) - 1) g6 hh
    generalize fX7_nextLevel (C 1 (7 + 14 * n + 6)) (C 1 (7 + 14 * n + 5) - 1) (fX7_highestBy D (D 1 2)) = L at *
    have hint := int_ti hiD hiD.2.2.1 (y := L) ⟨hlv.1, hlv.2.1⟩
    have hmr := mul_range (show 0 ≤ (D 1 2).toInt by have := hiD.2.2.1.1; omega) hiD.2.2.1.2 hlv.1 hlv.2.1
    rw [intBy_c (C := D) (by rw [bp_row, if_neg (by omega)]) (by rw [bp_row, if_neg (by omega)]), q_int (C := D) (rR_c hRD fun q => by rw [bput_j (by omega)])]
    have hir := hiD
    unfold iR at hir
    have eT : (nI T).toInt = (T : Int) := nI_ti (by omega)
    have en : (nI T + fX7_intervalBy D L (D 1 2)).toInt = T + (fX7_intervalBy D L (D 1 2)).toInt := (ti_add (by rw [eT]; omega) (by rw [eT]; omega)).trans (by rw [eT])
    generalize hN : nI T + fX7_intervalBy D L (D 1 2) = N at *
    generalize hE : bput (bput D 1 (7 + 14 * n + 6) L) 1 (7 + 14 * n + 7) N = E
    generalize hK : bput (bput B1 (3 + n) 6 L) (3 + n) 7 N = K
    have eE : ∀ k, k ≠ 7 + 14 * n + 6 → k ≠ 7 + 14 * n + 7 → E 1 k = D 1 k := fun k q1 q2 => by rw [← hE, bp_row, if_neg q2, bp_row, if_neg q1]
    have eE6 : E 1 (7 + 14 * n + 6) = L := by rw [← hE, bp_row, if_neg (by omega), bp_row, if_pos rfl]
    have eE7 : E 1 (7 + 14 * n + 7) = N := by rw [← hE, bp_row, if_pos rfl]
    have eEo : ∀ j, j ≠ 1 → E j = D j := fun j q => by rw [← hE, bp_off q, bp_off q]
    have eK : ∀ q, q ≠ 6 → q ≠ 7 → K (3 + n) q = B1 (3 + n) q := fun q h1 h2 => by rw [← hK, bput_q h2, bput_q h1]
    have eK6 : K (3 + n) 6 = L := by rw [← hK, bput_q (by decide), bput_h]
    have eK7 : K (3 + n) 7 = N := by rw [← hK, bput_h]
    have eKo : ∀ j q, j ≠ 3 + n → K j q = B1 j q := fun j q h => by rw [← hK, bput_j h, bput_j h]
    obtain ⟨m1, m2⟩ := main L (E 1) K eE eE6 eK eK6 eKo (fun _ => by rw [eK7, eE7])
    have c' : ¬ E 1 (7 + 14 * n + 5) = 0 := by rw [eE _ (by omega) (by omega)]; exact c
    have hsw : cSW n (nI T) 3 K = K := by
      have hm : fX5_moves n K = 1 := by
        have : fX5_moves n K = fX5_moves n B1 := by unfold fX5_moves; rw [eK 5 (by decide) (by decide)]
        rw [this, hmv, if_neg c]
      simp only [cSW]
      by_cases d : K (3 + n) 10 ≤ 0
      · rw [if_pos d]
      · rw [if_neg d, hm, if_neg i32_10]
    rw [hsw]
    have q4 : E 1 (7 + 14 * n + 4) = C 1 (7 + 14 * n + 4) := by rw [eE _ (by omega) (by omega), hk _ (by omega) (by omega) (by omega) (by omega) (by omega)]
    refine ⟨m1, ?_, fun k hk' => ?_, eEo, fun j q q1 q2 => ?_⟩
    · refine ⟨m2.1, m2.2.1, ?_, m2.2.2.1, fun q => absurd q c', fun _ => ⟨?_, ?_⟩, m2.2.2.2.1, m2.2.2.2.2.1, m2.2.2.2.2.2.1, m2.2.2.2.2.2.2⟩
      · rw [eE6]; exact ⟨hlv.1, hlv.2.1⟩
      · rw [q4]; exact g4
      · rw [eE7, en]; omega
    · rw [eE k (by omega) (by omega), hk k (by omega) (by omega) (by omega) (by omega) (by omega)]
    · rw [eKo j q q1, bo j q q1]
/-- a step of a shaft that is due -/
theorem d_step {B C : wB} {T n : Nat} (hT : T ≤ 125000) (hR : rR B (C 1)) (hi : iR (C 1)) (hT5 : C 1 5 = nI T) (hr : rS B (C 1) n) (hg : gS (C 1) T 0 1 n) (hl : ¬ C 1 (7 + 14 * n + 5) = 0) :
    rS (fX5_beginWaiting n (fX5_makeStep n B (nI T)) (nI T)) (fX7_steps C n 1) n ∧ iS (fX7_steps C n 1) T n ∧ (∀ k, k < 7 + 14 * n ∨ 7 + 14 * n + 14 ≤ k → fX7_steps C n 1 k = C 1 k) ∧
    (∀ j, j ≠ 1 → fX7_steps C n j = mG0 C n (if fX3_grips B (B (3 + n) 6) (B (3 + n) 1) = 0 then 1 else 0) j) ∧
    ∀ j q, j ≠ 3 + n → j ≠ 7 + n → fX5_beginWaiting n (fX5_makeStep n B (nI T)) (nI T) j q = B j q := by
  have h46 : (B (3 + n) 4 * B (3 + n) 0) = C 1 (7 + 14 * n + 4) * C 1 (7 + 14 * n + 0) := by rw [(hr.2.2.2.2.2.2.2.2.2.1 hl).1, hr.1]
  have hx : (C 1 (7 + 14 * n + 4) * C 1 (7 + 14 * n + 0)).toInt ≤ 4 ∧ -4 ≤ (C 1 (7 + 14 * n + 4) * C 1 (7 + 14 * n + 0)).toInt := by
    have h0 := hg.1.1
    have em : (-1 : Int32).toInt = -1 := by decide
    rcases (hg.2.2.2.2 hl).1 with e | e
    · rw [e, Int32.one_mul]; omega
    · rw [e]
      have := i_mul (x := -1) (y := C 1 (7 + 14 * n + 0)) (by rw [em]; omega) (by rw [em]; omega)
      rw [this, em]; omega
  have m0 : ∀ b, mG0 C n b 1 = C 1 := by
    intro b
    unfold mG0
    by_cases c : C 0 2 = 0
    · rw [if_pos c, bput_off (by decide), bput_off (by decide), bput_off (by decide)]
    · rw [if_neg c, bput_off (by decide)]
  have mc : ∀ b x a d, mLf C (mCt C (mG0 C n b) n x a d) n 1 = mLf C (mCt C C n x a d) n 1 := by
    intro b x a d
    funext k
    unfold mLf mCt
    rw [bp_row, bp_row, bp_row, bp_row, bp_row, bp_row, bp_row, bp_row, bp_row, bp_row, m0]
  have mo : ∀ b x a d j, j ≠ 1 → mLf C (mCt C (mG0 C n b) n x a d) n j = mG0 C n b j := by
    intro b x a d j hj
    unfold mLf mCt
    rw [bp_off hj, bp_off hj, bp_off hj, bp_off hj, bp_off hj]
  have hgr := q_grips hR (B (3 + n) 6) (B (3 + n) 1)
  rw [cSW_eq, st_m, st_c, hgr, hr.2.2.2.2.2.1, hr.2.1, h46]
  have s6 : B (3 + n) 6 = C 1 (7 + 14 * n + 6) := hr.2.2.2.2.2.1
  by_cases c : fX7_needs C (C 1 (7 + 14 * n + 1)) ≤ fX7_intervalBy C (C 1 (7 + 14 * n + 6)) (C 1 2)
  · rw [if_pos c, if_pos c, if_neg i32_10, if_neg i32_10]
    have h := d_stp hT hR hi hT5 hr hg hl hx hx rfl (mc 0 _ _ 0)
    rw [s6] at h
    refine ⟨h.1, h.2.1, h.2.2.1, fun j hj => ?_, h.2.2.2.2⟩
    rw [h.2.2.2.1 j hj, mo _ _ _ _ j hj]
  · rw [if_neg c, if_neg c, if_pos rfl, if_pos rfl]
    have h := d_stp hT hR hi hT5 hr hg hl hx (by rw [t0]; omega) rfl (mc 1 _ _ 1)
    rw [s6] at h
    refine ⟨h.1, h.2.1, h.2.2.1, fun j hj => ?_, h.2.2.2.2⟩
    rw [h.2.2.2.1 j hj, mo _ _ _ _ j hj]

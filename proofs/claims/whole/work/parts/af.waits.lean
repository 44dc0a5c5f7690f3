/-! orders that waited begin -/
def cSh (n : Nat) (B : wB) : wB := bput (bput (bput B (7 + n) 0 (B (7 + n) 1)) (7 + n) 1 (B (7 + n) 2)) (3 + n) 10 (B (3 + n) 10 - 1)
def cSW (n : Nat) (t : Int32) : Nat → wB → wB
  | 0, B => B
  | u + 1, B => if B (3 + n) 10 ≤ 0 then B else if fX5_moves n B = 0 then cSW n t u (fX5_begin n (cSh n B) (B (7 + n) 0) t) else B
theorem cSW_eq (n : Nat) (B : wB) (t : Int32) : fX5_beginWaiting n B t = cSW n t 3 B := rfl
/-- gS in the midst of the orders that waited: the shaft may rest while some wait -/
def hS (S : Nat → Int32) (T : Nat) (n : Nat) : Prop :=
  jS S T n ∧ (0 ≤ (S (7 + 14 * n + 6)).toInt ∧ (S (7 + 14 * n + 6)).toInt ≤ 200) ∧ (S (7 + 14 * n + 5) = 0 → S (7 + 14 * n + 6) = 0) ∧
  (¬ S (7 + 14 * n + 5) = 0 → (S (7 + 14 * n + 4) = 1 ∨ S (7 + 14 * n + 4) = -1) ∧ (T : Int) < (S (7 + 14 * n + 7)).toInt ∧ (S (7 + 14 * n + 7)).toInt ≤ T + 200)
theorem hS_to {S : Nat → Int32} {T n : Nat} (h : hS S T n) (hw : S (7 + 14 * n + 5) = 0 → S (7 + 14 * n + 8) = 0) : iS S T n :=
  ⟨h.1.1, h.1.2.1, h.2.1, h.1.2.2.1, fun q => ⟨h.2.2.1 q, hw q⟩, h.2.2.2, h.1.2.2.2.1, h.1.2.2.2.2.1, h.1.2.2.2.2.2.1, h.1.2.2.2.2.2.2⟩
theorem d_first {B C : wB} {T n : Nat} (hr : rS B (C 1) n) (hj : jS (C 1) T n) (hw : 1 ≤ (C 1 (7 + 14 * n + 8)).toInt) (h5 : C 1 (7 + 14 * n + 5) = 0) :
    rS (cSh n B) ((fX7_takesFirst C n).1 1) n ∧ jS ((fX7_takesFirst C n).1 1) T n ∧ ((fX7_takesFirst C n).1 1 (7 + 14 * n + 8)).toInt = (C 1 (7 + 14 * n + 8)).toInt - 1 ∧ B (7 + n) 0 = (fX7_takesFirst C n).2 ∧ ((fX7_takesFirst C n).2.toInt ≤ 9999 ∧ -9999 ≤ (fX7_takesFirst C n).2.toInt) ∧
    (∀ k, k < 7 + 14 * n + 8 ∨ 7 + 14 * n + 12 ≤ k → (fX7_takesFirst C n).1 1 k = C 1 k) ∧ (∀ j, j ≠ 1 → (fX7_takesFirst C n).1 j = C j) ∧ ∀ j q, j ≠ 3 + n → j ≠ 7 + n → cSh n B j q = B j q := by
  unfold fX7_takesFirst cSh
  dsimp only
  obtain ⟨r0, r1, r2, r3, r5, r6, r8, r9, r10, r47, rw'⟩ := hr
  have hj' := hj
  unfold jS at hj'
  have e1 : (C 1 (7 + 14 * n + 8) - 1).toInt = (C 1 (7 + 14 * n + 8)).toInt - 1 := (ti_sub (by rw [t1]; omega) (by rw [t1]; omega)).trans (by rw [t1])
  rw [r10]
  generalize hX : C 1 (7 + 14 * n + 8) - 1 = X at *
  generalize hD : bput (bput (bput (bput C 1 (7 + 14 * n + 9) (C 1 (7 + 14 * n + 10))) 1 (7 + 14 * n + 10) (C 1 (7 + 14 * n + 11))) 1 (7 + 14 * n + 11) 0) 1 (7 + 14 * n + 8) X = D
  have hk : ∀ k, k < 7 + 14 * n + 8 ∨ 7 + 14 * n + 12 ≤ k → D 1 k = C 1 k := fun k q => by rw [← hD, bp_row, if_neg (by omega), bp_row, if_neg (by omega), bp_row, if_neg (by omega), bp_row, if_neg (by omega)]
  have d8 : D 1 (7 + 14 * n + 8) = X := by rw [← hD, bp_row, if_pos rfl]
  have d9 : ∀ q, q < 2 → D 1 (7 + 14 * n + (9 + q)) = C 1 (7 + 14 * n + (9 + (q + 1))) := by
    intro q hq
    rcases (show q = 0 ∨ q = 1 by omega) with rfl | rfl
    · rw [← hD, bp_row, if_neg (by omega), bp_row, if_neg (by omega), bp_row, if_neg (by omega), bp_row, if_pos rfl]
    · rw [← hD, bp_row, if_neg (by omega), bp_row, if_neg (by omega), bp_row, if_pos rfl]
  have ho : ∀ j, j ≠ 1 → D j = C j := fun j hj => by rw [← hD, bp_off hj, bp_off hj, bp_off hj, bp_off hj]
  have hB : ∀ q, q ≠ 10 → bput (bput (bput B (7 + n) 0 (B (7 + n) 1)) (7 + n) 1 (B (7 + n) 2)) (3 + n) 10 X (3 + n) q = B (3 + n) q := fun q hq => by rw [bput_q hq, bput_j (by omega), bput_j (by omega)]
  have hW : ∀ q, q < 2 → bput (bput (bput B (7 + n) 0 (B (7 + n) 1)) (7 + n) 1 (B (7 + n) 2)) (3 + n) 10 X (7 + n) q = B (7 + n) (q + 1) := by
    intro q hq
    rw [bput_j (by omega)]
    rcases (show q = 0 ∨ q = 1 by omega) with rfl | rfl
    · rw [bput_q (by decide), bput_h]
    · rw [bput_h]
  refine ⟨⟨?_, ?_, ?_, ?_, ?_, ?_, ?_, ?_, ?_, ?_, ?_⟩, ?_, by rw [d8, e1], rw' 0 (by omega), hj'.2.2.2.2.2.2 0 (by omega), hk, ho, fun j q h1 h2 => by rw [bput_j h1, bput_j h2, bput_j h2]⟩
  · rw [hk _ (by omega), hB _ (by decide)]; exact r0
  · rw [hk _ (by omega), hB _ (by decide)]; exact r1
  · rw [hk _ (by omega), hB _ (by decide)]; exact r2
  · rw [hk _ (by omega), hB _ (by decide)]; exact r3
  · rw [hk _ (by omega), hB _ (by decide)]; exact r5
  · rw [hk _ (by omega), hB _ (by decide)]; exact r6
  · rw [hk _ (by omega), hB _ (by decide)]; exact r8
  · rw [hk _ (by omega), hB _ (by decide)]; exact r9
  · rw [d8, bput_h]
  · rw [hk _ (by omega), h5]; exact fun q => absurd rfl q
  · intro q hq
    rw [d8, e1] at hq
    rw [d9 q (by omega), hW q (by omega)]
    exact rw' (q + 1) (by omega)
  · unfold jS
    rw [hk (7 + 14 * n + 0) (by omega), hk (7 + 14 * n + 5) (by omega), hk (7 + 14 * n + 12) (by omega), hk (7 + 14 * n + 2) (by omega), hk (7 + 14 * n + 3) (by omega), d8, e1]
    refine ⟨hj'.1, hj'.2.1, by omega, hj'.2.2.2.1, hj'.2.2.2.2.1, hj'.2.2.2.2.2.1, fun q hq => ?_⟩
    rw [d9 q (by omega)]
    exact hj'.2.2.2.2.2.2 (q + 1) (by omega)

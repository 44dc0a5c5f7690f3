/-! a new shaft -/
def nsC (C : wB) (m : Nat) (a : Int32) : wB := bput (bput (bput (bput (bput (bput (bput (bput (bput (bput (bput (bput (bput (bput (bput (bput C 1 (7 + 14 * m + 0) 0) 1 (7 + 14 * m + 1) 0) 1 (7 + 14 * m + 2) 0) 1 (7 + 14 * m + 3) 0) 1 (7 + 14 * m + 4) 0) 1 (7 + 14 * m + 5) 0) 1 (7 + 14 * m + 6) 0) 1 (7 + 14 * m + 7) 0) 1 (7 + 14 * m + 8) 0) 1 (7 + 14 * m + 9) 0) 1 (7 + 14 * m + 10) 0) 1 (7 + 14 * m + 11) 0) 1 (7 + 14 * m + 12) 0) 1 (7 + 14 * m + 13) 0) 1 (7 + 14 * m + 0) a) 1 6 (nI m + 1)
theorem ns_in (C : wB) (m : Nat) (a : Int32) (w : Nat) (hw : w < 14) : nsC C m a 1 (7 + 14 * m + w) = if w = 0 then a else 0 := by
  unfold nsC
  rcases (show w = 0 ∨ w = 1 ∨ w = 2 ∨ w = 3 ∨ w = 4 ∨ w = 5 ∨ w = 6 ∨ w = 7 ∨ w = 8 ∨ w = 9 ∨ w = 10 ∨ w = 11 ∨ w = 12 ∨ w = 13 by omega) with rfl | rfl | rfl | rfl | rfl | rfl | rfl | rfl | rfl | rfl | rfl | rfl | rfl | rfl <;> (rw [bp_row, bp_row, bp_row, bp_row, bp_row, bp_row, bp_row, bp_row, bp_row, bp_row, bp_row, bp_row, bp_row, bp_row, bp_row, bp_row]; repeat (first | rw [if_neg (by omega)] | rw [if_pos (by omega)]))
theorem ns_out (C : wB) (m : Nat) (a : Int32) (k : Nat) (hk : k < 7 + 14 * m ∨ 7 + 14 * m + 14 ≤ k) (h6 : k ≠ 6) : nsC C m a 1 k = C 1 k := by
  unfold nsC
  rw [bp_row, bp_row, bp_row, bp_row, bp_row, bp_row, bp_row, bp_row, bp_row, bp_row, bp_row, bp_row, bp_row, bp_row, bp_row, bp_row]
  repeat rw [if_neg (by omega)]
theorem ns_6 (C : wB) (m : Nat) (a : Int32) : nsC C m a 1 6 = nI m + 1 := by
  unfold nsC
  rw [bp_row, if_pos rfl]
theorem ns_oth (C : wB) (m : Nat) (a : Int32) (j : Nat) (hj : j ≠ 1) : nsC C m a j = C j := by
  unfold nsC
  rw [bp_off hj, bp_off hj, bp_off hj, bp_off hj, bp_off hj, bp_off hj, bp_off hj, bp_off hj, bp_off hj, bp_off hj, bp_off hj, bp_off hj, bp_off hj, bp_off hj, bp_off hj, bp_off hj]
theorem nI_m1 {m : Nat} (h : m < 1000) : nI m + 1 = nI (m + 1) := nI_1 m
theorem RB_new {m M T : Nat} {B C : wB} (h : RB m M T B (C 1)) (hm : m < 4) {a : Int32} (ha : a = 1 ∨ a = 2 ∨ a = 4) : RB (m + 1) M T (bput (bput B (3 + m) 0 a) 0 0 (nI m + 1)) (nsC C m a 1) := by
  obtain ⟨⟨a1, a2, a3⟩, ⟨b1, b2, b3⟩, ⟨c1, c2, c3⟩, ⟨d1, d2⟩, e, f, g, i⟩ := h
  have hB : ∀ j q, j ≠ 0 → j ≠ 3 + m → bput (bput B (3 + m) 0 a) 0 0 (nI m + 1) j q = B j q := fun j q h1 h2 => by rw [bput_j h1, bput_j h2]
  have hM : plM (nsC C m a 1) M = plM (C 1) M := plM_c fun q h1 h2 => ns_out C m a q (by omega) (by omega)
  have hz : ∀ q, q < 11 → B (3 + m) q = 0 := fun q hq => (f m (Nat.le_refl _) hm q hq).1
  have hn : ∀ q, q < 11 → bput (bput B (3 + m) 0 a) 0 0 (nI m + 1) (3 + m) q = if q = 0 then a else 0 := by
    intro q hq
    rw [bput_j (by omega)]
    unfold bput
    by_cases d : q = 0
    · rw [if_pos ⟨rfl, d⟩, if_pos d]
    · rw [if_neg (fun x => d x.2), if_neg d]; exact hz q hq
  refine ⟨⟨by rw [ns_6, nI_1], by rw [bput_h, nI_1], by omega⟩, ⟨by rw [ns_out C m a 5 (by omega) (by omega)]; exact b1, by rw [bput_q (by decide), bput_j (by omega)]; exact b2, b3⟩, ⟨by rw [ns_out C m a 63 (by omega) (by omega)]; exact c1, by rw [bput_q (by decide), bput_j (by omega)]; exact c2, c3⟩, ⟨?_, ?_⟩, fun n hnm => ?_, fun n h1 h2 q hq => ?_, ?_, fun x hx => ?_⟩
  · unfold rR
    rw [hB 1 0 (by omega) (by omega), hB 1 1 (by omega) (by omega), hB 1 2 (by omega) (by omega), hB 1 3 (by omega) (by omega), hB 1 4 (by omega) (by omega), ns_out C m a 0 (by omega) (by omega), ns_out C m a 1 (by omega) (by omega), ns_out C m a 2 (by omega) (by omega), ns_out C m a 3 (by omega) (by omega), ns_out C m a 4 (by omega) (by omega)]
    exact d1
  · unfold iR
    rw [ns_out C m a 0 (by omega) (by omega), ns_out C m a 1 (by omega) (by omega), ns_out C m a 2 (by omega) (by omega), ns_out C m a 3 (by omega) (by omega), ns_out C m a 4 (by omega) (by omega)]
    exact d2
  · by_cases c : n = m
    · subst c
      have s := fun w hw => ns_in C n a w hw
      constructor
      · unfold rS
        rw [s 0 (by decide), s 1 (by decide), s 2 (by decide), s 3 (by decide), s 5 (by decide), s 6 (by decide), s 12 (by decide), s 13 (by decide), s 8 (by decide), hn 0 (by decide), hn 1 (by decide), hn 2 (by decide), hn 3 (by decide), hn 5 (by decide), hn 6 (by decide), hn 8 (by decide), hn 9 (by decide), hn 10 (by decide)]
        refine ⟨rfl, rfl, rfl, rfl, rfl, rfl, rfl, rfl, rfl, fun x => absurd rfl x, fun q hq => ?_⟩
        rw [if_neg (by decide), t0] at hq
        omega
      · unfold iS
        rw [s 0 (by decide), s 2 (by decide), s 3 (by decide), s 5 (by decide), s 6 (by decide), s 12 (by decide), s 8 (by decide)]
        simp only [if_true, if_false, Nat.reduceEqDiff, reduceIte, t0]
        have ha4 : 1 ≤ a.toInt ∧ a.toInt ≤ 4 := by rcases ha with rfl | rfl | rfl <;> decide
        refine ⟨ha4, by omega, by omega, by omega, fun _ => ⟨trivial, trivial⟩, fun x => absurd trivial x, by omega, by omega, by omega, fun q hq => by omega⟩
    · exact ⟨rS_c (e n (by omega)).1 (fun q hq => hB _ _ (by omega) (by omega)) (fun q hq => hB _ _ (by omega) (by omega)) (e n (by omega)).2.2.2.2.1.2 (fun q hq => ns_out C m a _ (by omega) (by omega)), iS_c (e n (by omega)).2 (fun q hq => ns_out C m a _ (by omega) (by omega))⟩
  · rw [hB _ _ (by omega) (by omega), ns_out C m a _ (by omega) (by omega)]
    exact f n (by omega) h2 q hq
  · rw [hM, ← g]
    exact plC_c fun q hq => ⟨hB _ _ (by omega) (by omega), hB _ _ (by omega) (by omega), hB _ _ (by omega) (by omega)⟩
  · rw [hM] at hx
    obtain ⟨x1, ⟨j, hj, x2⟩, x3⟩ := i x hx
    exact ⟨x1, ⟨j, by omega, x2⟩, x3⟩
theorem d_shaft {m M T : Nat} {B C : wB} (h : RB m M T B (C 1)) (a : Int32) : rO C (fX0_addShaft B a) (fX7_addsShaft C a) := by
  have hm4 := h.1.2.2
  have e4 : (4 : Int32) = nI 4 := rfl
  have key : (a = 1 ∨ a = 2 ∨ a = 4) → rO C (if B 0 0 < 0 then (B, (-4)) else if B 0 0 < 4 then ((bput (bput B (3 + (B 0 0).toNatClampNeg) 0 a) 0 0 ((B 0 0) + 1)), ((B 0 0) + 1) - 1) else (B, (-4))) (if C 1 6 = 4 then (C, (-4)) else (nsC C m a, (C 1 6 + 1) - 1)) := by
    intro ha
    rw [h.1.1, h.1.2.1, nI_clamp (show m < 2 ^ 31 by omega), if_neg (nI_pos (show m < 2 ^ 31 by omega))]
    by_cases c : m = 4
    · subst c
      rw [if_neg (by decide), if_pos (by decide)]
      exact rO_self h _
    · rw [if_pos (by rw [e4, nI_ltI (by omega) (by omega)]; omega), if_neg (fun x => by
        rw [i_eq, nI_ti (by omega), e4, nI_ti (by omega)] at x
        omega)]
      exact ⟨rfl, ⟨m + 1, M, T, RB_new h (by omega) ha⟩, fun j hj => ns_oth C m a j hj⟩
  unfold fX0_addShaft fX7_addsShaft
  by_cases c1 : a = 1
  · have k := key (Or.inl c1)
    rw [if_pos c1, if_pos c1]
    unfold nsC at k
    rw [h.1.1] at k ⊢
    rw [nI_clamp (show m < 2 ^ 31 by omega)]
    exact k
  · by_cases c2 : a = 2
    · have k := key (Or.inr (Or.inl c2))
      rw [if_neg c1, if_neg c1, if_pos c2, if_pos c2]
      unfold nsC at k
      rw [h.1.1] at k ⊢
      rw [nI_clamp (show m < 2 ^ 31 by omega)]
      exact k
    · by_cases c3 : a = 4
      · have k := key (Or.inr (Or.inr c3))
        rw [if_neg c1, if_neg c1, if_neg c2, if_neg c2, if_pos c3, if_pos c3]
        unfold nsC at k
        rw [h.1.1] at k ⊢
        rw [nI_clamp (show m < 2 ^ 31 by omega)]
        exact k
      · rw [if_neg c1, if_neg c1, if_neg c2, if_neg c2, if_neg c3, if_neg c3]
        exact rO_self h _

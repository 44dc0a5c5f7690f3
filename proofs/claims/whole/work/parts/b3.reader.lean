/-! THE TEXT: the reader of the class and the one of the reference, at the place p of a text of L signs -/
/-- the signs from 33 to 126 are as a char has them -/
def tX (L : Nat) (B C : wB) : Prop := B 6 0 = nI L ∧ C 0 1 = nI L ∧ L ≤ 80 ∧ ∀ q, q < L → B 7 q = C 6 q ∧ 33 ≤ (C 6 q).toInt ∧ (C 6 q).toInt ≤ 126
def st (L p : Nat) (B C : wB) : Prop := tX L B C ∧ B 5 0 = nI p ∧ C 0 5 = nI p ∧ C 0 6 = 0 ∧ p ≤ L
def wr (p : Nat) (C : wB) : Prop := C 0 5 = nI p ∧ C 0 6 = 1
def fB (B B' : wB) : Prop := ∀ j q, ¬ (j = 5 ∧ q = 0) → B' j q = B j q
def fC (C C' : wB) : Prop := ∀ j q, ¬ (j = 0 ∧ (q = 5 ∨ q = 6)) → C' j q = C j q
theorem fB_refl (B : wB) : fB B B := fun _ _ _ => rfl
theorem fC_refl (C : wB) : fC C C := fun _ _ _ => rfl
theorem fB_trans {B B' B'' : wB} (h : fB B B') (h' : fB B' B'') : fB B B'' := fun j q hq => (h' j q hq).trans (h j q hq)
theorem fC_trans {C C' C'' : wB} (h : fC C C') (h' : fC C' C'') : fC C C'' := fun j q hq => (h' j q hq).trans (h j q hq)
theorem tX_c {L : Nat} {B B' C C' : wB} (h : tX L B C) (hB : ∀ j, j = 6 ∨ j = 7 → B' j = B j) (h1 : C' 0 1 = C 0 1) (h6 : C' 6 = C 6) : tX L B' C' := by
  unfold tX at h ⊢
  rw [hB 6 (Or.inl rfl), hB 7 (Or.inr rfl), h1, h6]
  exact h
/-- a char of such a number is the number -/
theorem nar_id {v : Int32} (h : 0 ≤ v.toInt ∧ v.toInt ≤ 126) : vp_nar .char v = v := by
  obtain ⟨j, hj, rfl⟩ : ∃ j : Nat, j ≤ 126 ∧ v = nI j := ⟨v.toNatClampNeg, by have := (tn_of h.1).2; omega, (i_nn h.1).symm⟩
  have hall : ∀ j : Fin 127, vp_nar .char (nI j.1) = nI j.1 := by decide
  exact hall ⟨j, by omega⟩
/-- the sign at the place -/
theorem sg_eq {L p : Nat} {B C : wB} (h : st L p B C) : fX2_signAt B (B 5 0) = fX7_next C ∧ ((p < L ∧ 33 ≤ (fX7_next C).toInt ∧ (fX7_next C).toInt ≤ 126) ∨ (p = L ∧ fX7_next C = 0)) := by
  obtain ⟨⟨h1, h2, h3, h4⟩, h5, h6, h7, h8⟩ := h
  have e80 : (80 : Int32) = nI 80 := rfl
  unfold fX2_signAt fX7_next
  rw [h5, h1, h2, h6, nI_clamp (by omega), if_neg (nI_pos (show p < 2 ^ 31 by omega))]
  by_cases c : L ≤ p
  · rw [if_pos ((nI_leI (by omega) (by omega)).mpr c), if_pos ((nI_leI (by omega) (by omega)).mpr c)]
    exact ⟨rfl, Or.inr ⟨by omega, rfl⟩⟩
  · rw [if_neg (fun q => c ((nI_leI (by omega) (by omega)).mp q)), if_neg (fun q => c ((nI_leI (by omega) (by omega)).mp q)), if_pos (by rw [e80, nI_ltI (by omega) (by omega)]; omega)]
    obtain ⟨k1, k2, k3⟩ := h4 p (by omega)
    rw [k1, nar_id ⟨by omega, k3⟩]
    exact ⟨rfl, Or.inl ⟨by omega, k2, k3⟩⟩
theorem nx_f {C C' : wB} {p : Nat} (h : C' 0 5 = C 0 5) (h1 : C' 0 1 = C 0 1) (h6 : C' 6 = C 6) : fX7_next C' = fX7_next C := by
  unfold fX7_next
  rw [h, h1, h6]
theorem t48 : (48 : Int32).toInt = 48 := by decide
theorem t57 : (57 : Int32).toInt = 57 := by decide
/-- one place on -/
theorem st_on {L p : Nat} {B C B' C' : wB} (h : st L p B C) (hp : p < L) (hB : B' = bput B 5 0 (B 5 0 + 1)) (hC : C' 0 5 = C 0 5 + 1) (hC6 : C' 0 6 = 0) (hf : fC C C') : st L (p + 1) B' C' ∧ fB B B' := by
  obtain ⟨h1, h5, h6, h7, h8⟩ := h
  subst hB
  refine ⟨⟨tX_c h1 (fun j hj => bput_off (by omega)) (hf 0 1 (by omega)) (by funext q; exact hf 6 q (by omega)), by rw [bput_h, h5, nI_1], by rw [hC, h6, nI_1], hC6, by omega⟩, fun j q hq => if_neg hq⟩
theorem w_fail {p : Nat} {C : wB} (h : C 0 5 = nI p) : wr p (bput (bput C 0 6 1) 0 5 (C 0 5 + 0)) ∧ fC C (bput (bput C 0 6 1) 0 5 (C 0 5 + 0)) :=
  ⟨⟨by rw [bput_h, Int32.add_zero]; exact h, by rw [bput_q (by decide), bput_h]⟩, fun j q hq => by rw [show ∀ D v, bput D 0 5 v j q = D j q from fun D v => if_neg (by omega)]; exact if_neg (by omega)⟩
theorem p_digit {L p : Nat} {B C : wB} (h : st L p B C) :
    ((fX4_takeDigit B).2 = (fX7_digit C).2 ∧ (0 ≤ (fX7_digit C).2.toInt ∧ (fX7_digit C).2.toInt ≤ 9) ∧ st L (p + 1) (fX4_takeDigit B).1 (fX7_digit C).1 ∧ fB B (fX4_takeDigit B).1 ∧ fC C (fX7_digit C).1) ∨
    ((fX4_takeDigit B).2 = -1 ∧ (fX4_takeDigit B).1 = B ∧ wr p (fX7_digit C).1 ∧ fC C (fX7_digit C).1) := by
  obtain ⟨e, hs⟩ := sg_eq h
  have hC5 := h.2.2.1
  unfold fX4_takeDigit fX7_digit
  dsimp only
  rw [e, h.2.2.2.1, if_pos rfl, in_in]
  generalize hx : fX7_next C = x at *
  by_cases c1 : x < 48
  · rw [if_pos c1, if_pos c1, if_pos rfl]
    exact Or.inr ⟨rfl, rfl, (w_fail hC5).1, (w_fail hC5).2⟩
  rw [if_neg c1, if_neg c1]
  by_cases c2 : 57 < x
  · rw [if_pos c2, if_neg (by rw [i_lt, t57] at c2; rw [i_le, t57]; omega), if_pos rfl]
    exact Or.inr ⟨rfl, rfl, (w_fail hC5).1, (w_fail hC5).2⟩
  rw [if_neg c2, if_pos (by rw [i_lt, t57] at c2; rw [i_le, t57]; omega), if_neg i32_10]
  rw [i_lt, t48] at c1
  rw [i_lt, t57] at c2
  have hpL : p < L := by
    rcases hs with ⟨k, -⟩ | ⟨-, k⟩
    · exact k
    · rw [k, t0] at c1; omega
  have hf : fC C (bput (bput C 0 6 0) 0 5 (C 0 5 + 1)) := fun j q hq => by rw [show ∀ D v, bput D 0 5 v j q = D j q from fun D v => if_neg (by omega)]; exact if_neg (by omega)
  have e1 : (x - 48).toInt = x.toInt - 48 := (ti_sub (by rw [t48]; omega) (by rw [t48]; omega)).trans (by rw [t48])
  obtain ⟨k1, k2⟩ := st_on (B' := bput B 5 0 (B 5 0 + 1)) h hpL rfl bput_h (by rw [bput_q (by decide), bput_h]) hf
  exact Or.inl ⟨rfl, by dsimp only; rw [e1]; omega, k1, k2, hf⟩
theorem p_sign {L p : Nat} {B C : wB} (h : st L p B C) {a : Int32} (ha : 0 < a.toInt) :
    ((fX4_skip B a).2 = 1 ∧ st L (p + 1) (fX4_skip B a).1 (fX7_sign C a) ∧ fB B (fX4_skip B a).1 ∧ fC C (fX7_sign C a)) ∨
    ((fX4_skip B a).2 = 0 ∧ (fX4_skip B a).1 = B ∧ wr p (fX7_sign C a) ∧ fC C (fX7_sign C a)) := by
  obtain ⟨e, hs⟩ := sg_eq h
  have hC5 := h.2.2.1
  unfold fX4_skip fX7_sign
  dsimp only
  rw [e, h.2.2.2.1, if_pos rfl]
  generalize hx : fX7_next C = x at *
  by_cases c : x = a
  · rw [if_pos c, if_pos c]
    have hpL : p < L := by
      rcases hs with ⟨k, -⟩ | ⟨-, k⟩
      · exact k
      · rw [← c, k, t0] at ha; omega
    have hf : fC C (bput (bput C 0 6 0) 0 5 (C 0 5 + 1)) := fun j q hq => by rw [show ∀ D v, bput D 0 5 v j q = D j q from fun D v => if_neg (by omega)]; exact if_neg (by omega)
    obtain ⟨k1, k2⟩ := st_on (B' := bput B 5 0 (B 5 0 + 1)) h hpL rfl bput_h (by rw [bput_q (by decide), bput_h]) hf
    exact Or.inl ⟨rfl, k1, k2, hf⟩
  · rw [if_neg c, if_neg c]
    exact Or.inr ⟨rfl, rfl, (w_fail hC5).1, (w_fail hC5).2⟩
/-! what is wrong stays wrong -/
theorem w_digit {p : Nat} {C : wB} (h : wr p C) : wr p (fX7_digit C).1 ∧ fC C (fX7_digit C).1 := by
  unfold fX7_digit
  dsimp only
  rw [h.2, if_neg i32_10]
  exact w_fail h.1
theorem w_sign {p : Nat} {C : wB} (h : wr p C) (a : Int32) : wr p (fX7_sign C a) ∧ fC C (fX7_sign C a) := by
  unfold fX7_sign
  dsimp only
  rw [h.2, if_neg i32_10]
  exact w_fail h.1
theorem w_number {p : Nat} {C : wB} (h : wr p C) : wr p (fX7_number C).1 ∧ fC C (fX7_number C).1 := by
  obtain ⟨k1, k2⟩ := w_digit h
  unfold fX7_number
  dsimp only
  rw [k1.2, if_neg i32_10]
  exact ⟨k1, k2⟩
theorem w_place {p : Nat} {C : wB} (h : wr p C) : wr p (fX7_place C).1 ∧ fC C (fX7_place C).1 := by
  have hf : fC C (bput C 0 5 (C 0 5 + 0)) := fun j q hq => if_neg (by omega)
  have hw : wr p (bput C 0 5 (C 0 5 + 0)) := ⟨by rw [bput_h, Int32.add_zero]; exact h.1, by rw [bput_q (by decide)]; exact h.2⟩
  obtain ⟨k1, k2⟩ := w_number hw
  unfold fX7_place
  dsimp only
  rw [h.2, if_neg i32_10]
  exact ⟨k1, fC_trans hf k2⟩
theorem i_step {v x : Int32} (hv : 1 ≤ v.toInt ∧ v.toInt ≤ 999) (hx : 48 ≤ x.toInt ∧ x.toInt ≤ 57) : v * 10 + (x - 48) = 10 * v + x - 48 ∧ 1 ≤ (10 * v + x - 48).toInt ∧ (10 * v + x - 48).toInt ≤ 10 * v.toInt + 9 := by
  have e10 : (10 : Int32).toInt = 10 := by decide
  have a1 : (v * 10).toInt = v.toInt * 10 := (i_mul (by rw [e10]; omega) (by rw [e10]; omega)).trans (by rw [e10])
  have a2 : (10 * v).toInt = 10 * v.toInt := (i_mul (by rw [e10]; omega) (by rw [e10]; omega)).trans (by rw [e10])
  have a3 : (x - 48).toInt = x.toInt - 48 := (ti_sub (by rw [t48]; omega) (by rw [t48]; omega)).trans (by rw [t48])
  have a4 : (v * 10 + (x - 48)).toInt = v.toInt * 10 + (x.toInt - 48) := (ti_add (by rw [a1, a3]; omega) (by rw [a1, a3]; omega)).trans (by rw [a1, a3])
  have a5 : (10 * v + x).toInt = 10 * v.toInt + x.toInt := (ti_add (by rw [a2]; omega) (by rw [a2]; omega)).trans (by rw [a2])
  have a6 : (10 * v + x - 48).toInt = 10 * v.toInt + x.toInt - 48 := (ti_sub (by rw [a5, t48]; omega) (by rw [a5, t48]; omega)).trans (by rw [a5, t48])
  refine ⟨by rw [i_eq, a4, a6]; omega, by rw [a6]; omega, by rw [a6]; omega⟩
/-- a further digit of a number -/
theorem p_more {L p : Nat} {B C : wB} (h : st L p B C) :
    (¬ fX7_in (fX7_next C) 48 57 = 0 ∧ (fX4_takeDigit B).2 = fX7_next C - 48 ∧ (48 ≤ (fX7_next C).toInt ∧ (fX7_next C).toInt ≤ 57) ∧ 0 ≤ (fX4_takeDigit B).2 ∧ st L (p + 1) (fX4_takeDigit B).1 (bput C 0 5 (C 0 5 + 1)) ∧ fB B (fX4_takeDigit B).1) ∨
    (fX7_in (fX7_next C) 48 57 = 0 ∧ (fX4_takeDigit B).2 = -1 ∧ (fX4_takeDigit B).1 = B) := by
  obtain ⟨e, hs⟩ := sg_eq h
  unfold fX4_takeDigit
  dsimp only
  rw [e, in_in]
  generalize hx : fX7_next C = x at *
  by_cases c1 : x < 48
  · rw [if_pos c1, if_pos c1]
    exact Or.inr ⟨rfl, rfl, rfl⟩
  rw [if_neg c1, if_neg c1]
  by_cases c2 : 57 < x
  · rw [if_pos c2, if_neg (by rw [i_lt, t57] at c2; rw [i_le, t57]; omega)]
    exact Or.inr ⟨rfl, rfl, rfl⟩
  rw [if_neg c2, if_pos (by rw [i_lt, t57] at c2; rw [i_le, t57]; omega)]
  rw [i_lt, t48] at c1
  rw [i_lt, t57] at c2
  have hpL : p < L := by
    rcases hs with ⟨k, -⟩ | ⟨-, k⟩
    · exact k
    · rw [k, t0] at c1; omega
  have e1 : (x - 48).toInt = x.toInt - 48 := (ti_sub (by rw [t48]; omega) (by rw [t48]; omega)).trans (by rw [t48])
  obtain ⟨k1, k2⟩ := st_on (B' := bput B 5 0 (B 5 0 + 1)) (C' := bput C 0 5 (C 0 5 + 1)) h hpL rfl bput_h (by rw [bput_q (by decide)]; exact h.2.2.2.1) (fun j q hq => if_neg (by omega))
  exact Or.inl ⟨i32_10, rfl, by omega, by dsimp only; rw [i_le, t0, e1]; omega, k1, k2⟩
theorem p_number {L p : Nat} {B C : wB} (h : st L p B C) :
    ((fX4_takeNumber B).2 = (fX7_number C).2 ∧ (0 ≤ (fX7_number C).2.toInt ∧ (fX7_number C).2.toInt ≤ 9999) ∧ (∃ p', p < p' ∧ st L p' (fX4_takeNumber B).1 (fX7_number C).1) ∧ fB B (fX4_takeNumber B).1 ∧ fC C (fX7_number C).1) ∨
    ((fX4_takeNumber B).2 = -1 ∧ (fX4_takeNumber B).1 = B ∧ wr p (fX7_number C).1 ∧ fC C (fX7_number C).1) := by
  have f5 : ∀ D v, fC D (bput D 0 5 v) := fun D v j q hq => if_neg (by omega)
  unfold fX4_takeNumber fX7_number
  dsimp only
  rcases p_digit h with ⟨a1, a2, a3, a4, a5⟩ | ⟨a1, a2, a3, a4⟩
  · rw [a1, a3.2.2.2.1, if_pos rfl]
    generalize (fX4_takeDigit B).1 = B1 at *
    generalize (fX7_digit C).1 = C1 at *
    generalize (fX7_digit C).2 = v at *
    by_cases c1 : v ≤ 0
    · have c1' : ¬ (1 : Int32) ≤ v := by rw [i_le, t1]; rw [i_le, t0] at c1; omega
      rw [if_pos c1, if_neg c1']
      exact Or.inl ⟨rfl, ⟨a2.1, by dsimp only; omega⟩, ⟨p + 1, by omega, a3⟩, a4, a5⟩
    have c1' : (1 : Int32) ≤ v := by rw [i_le, t1]; rw [i_le, t0] at c1; omega
    rw [if_neg c1, if_pos c1']
    rw [i_le, t1] at c1'
    rcases p_more a3 with ⟨b1, b2, b3, b4, b5, b6⟩ | ⟨b1, b2, b3⟩
    · rw [if_neg b1, if_pos b4, b2]
      generalize fX7_next C1 = x at *
      generalize (fX4_takeDigit B1).1 = B2 at *
      obtain ⟨g1, g2, g3⟩ := i_step (v := v) (x := x) ⟨c1', by omega⟩ b3
      rw [g1]
      generalize 10 * v + x - 48 = v2 at *
      rw [if_neg (show ¬ v2 ≤ 0 by rw [i_le, t0]; omega)]
      have a6 := fC_trans a5 (f5 C1 (C1 0 5 + 1))
      have hq : C1 0 5 + 1 + 1 = bput C1 0 5 (C1 0 5 + 1) 0 5 + 1 := by rw [bput_h]
      rw [hq]
      generalize bput C1 0 5 (C1 0 5 + 1) = C2 at *
      rcases p_more b5 with ⟨d1, d2, d3, d4, d5, d6⟩ | ⟨d1, d2, d3⟩
      · rw [if_neg d1, if_pos d4, d2]
        generalize fX7_next C2 = x2 at *
        generalize (fX4_takeDigit B2).1 = B3 at *
        obtain ⟨k1, k2, k3⟩ := i_step (v := v2) (x := x2) ⟨g2, by omega⟩ d3
        rw [k1]
        generalize 10 * v2 + x2 - 48 = v3 at *
        rw [if_neg (show ¬ v3 ≤ 0 by rw [i_le, t0]; omega)]
        have a7 := fC_trans a6 (f5 C2 (C2 0 5 + 1))
        have hq : C2 0 5 + 1 + 1 = bput C2 0 5 (C2 0 5 + 1) 0 5 + 1 := by rw [bput_h]
        rw [hq]
        generalize bput C2 0 5 (C2 0 5 + 1) = C3 at *
        rcases p_more d5 with ⟨l1, l2, l3, l4, l5, l6⟩ | ⟨l1, l2, l3⟩
        · rw [if_neg l1, if_pos l4, l2]
          generalize fX7_next C3 = x3 at *
          obtain ⟨n1, n2, n3⟩ := i_step (v := v3) (x := x3) ⟨k2, by omega⟩ l3
          rw [n1]
          generalize 10 * v3 + x3 - 48 = v4 at *
          rw [if_neg (show ¬ v4 ≤ 0 by rw [i_le, t0]; omega)]
          exact Or.inl ⟨rfl, ⟨by dsimp only; omega, by dsimp only; omega⟩, ⟨p + 1 + 1 + 1 + 1, by omega, l5⟩, fB_trans a4 (fB_trans b6 (fB_trans d6 l6)), fC_trans a7 (f5 C3 _)⟩
        · rw [if_pos l1, l2, if_neg (show ¬ (0 : Int32) ≤ -1 by decide), l3]
          exact Or.inl ⟨rfl, ⟨by dsimp only; omega, by dsimp only; omega⟩, ⟨p + 1 + 1 + 1, by omega, d5⟩, fB_trans a4 (fB_trans b6 d6), a7⟩
      · rw [if_pos d1, d2, if_neg (show ¬ (0 : Int32) ≤ -1 by decide), d3]
        exact Or.inl ⟨rfl, ⟨by dsimp only; omega, by dsimp only; omega⟩, ⟨p + 1 + 1, by omega, b5⟩, fB_trans a4 b6, a6⟩
    · rw [if_pos b1, b2, if_neg (show ¬ (0 : Int32) ≤ -1 by decide), b3]
      exact Or.inl ⟨rfl, ⟨by dsimp only; omega, by dsimp only; omega⟩, ⟨p + 1, by omega, a3⟩, a4, a5⟩
  · rw [a1, a3.2, if_neg i32_10, if_neg (show ¬ (1 : Int32) ≤ -1 by decide), a2]
    exact Or.inr ⟨rfl, rfl, a3, a4⟩

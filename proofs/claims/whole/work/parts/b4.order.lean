/-! an order of a text -/
def fBq (k : Nat) (B B' : wB) : Prop := ∀ j q, ¬ (j = 5 ∧ (q = 0 ∨ q = k)) → B' j q = B j q
def fR (C C' : wB) : Prop := (∀ j, j ≠ 0 → C' j = C j) ∧ ∀ q, q < 5 ∨ 10 < q → C' 0 q = C 0 q
def gB (B B' : wB) : Prop := ∀ j, j ≠ 5 → B' j = B j
/-- read up to a sign that can't stand there -/
def nO (L p : Nat) (B C : wB) : Prop := ∃ p', p ≤ p' ∧ p' ≤ L ∧ B 5 0 = nI p' ∧ wr p' C
theorem fR_C {C C' : wB} (h : fC C C') : fR C C' := ⟨fun j hj => by funext q; exact h j q (by omega), fun q hq => h 0 q (by omega)⟩
theorem fR_refl (C : wB) : fR C C := ⟨fun _ _ => rfl, fun _ _ => rfl⟩
theorem fR_trans {C D E : wB} (h : fR C D) (h' : fR D E) : fR C E := ⟨fun j hj => (h'.1 j hj).trans (h.1 j hj), fun q hq => (h'.2 q hq).trans (h.2 q hq)⟩
theorem fR_b {C : wB} {q : Nat} {v : Int32} (h : 5 ≤ q) (h2 : q ≤ 10) : fR C (bput C 0 q v) := ⟨fun j hj => bput_off hj, fun q' hq => bput_q (by omega)⟩
theorem gB_f {B B' : wB} {k : Nat} (h : fBq k B B') : gB B B' := fun j hj => by funext q; exact h j q (by omega)
theorem gB_s {B B' : wB} (h : fB B B') : gB B B' := fun j hj => by funext q; exact h j q (by omega)
theorem gB_trans {B D E : wB} (h : gB B D) (h' : gB D E) : gB B E := fun j hj => (h' j hj).trans (h j hj)
theorem wr_b {C : wB} {p q : Nat} {v : Int32} (h : wr p C) (h5 : q ≠ 5) (h6 : q ≠ 6) : wr p (bput C 0 q v) := ⟨by rw [bput_q (by omega)]; exact h.1, by rw [bput_q (by omega)]; exact h.2⟩
theorem st_r {L p q : Nat} {B C : wB} {v : Int32} (h : st L p B C) (hq : 7 ≤ q) : st L p B (bput C 0 q v) :=
  ⟨tX_c h.1 (fun _ _ => rfl) (bput_q (by omega)) (bput_off (by decide)), h.2.1, by rw [bput_q (by omega)]; exact h.2.2.1, by rw [bput_q (by omega)]; exact h.2.2.2.1, h.2.2.2.2⟩
theorem st_b {L p q : Nat} {B C : wB} {v : Int32} (h : st L p B C) (hq : q ≠ 0) : st L p (bput B 5 q v) C :=
  ⟨tX_c h.1 (fun j hj => bput_off (by omega)) rfl rfl, by rw [bput_q (by omega)]; exact h.2.1, h.2.2⟩
/-- one piece of an order -/
def rP (L p k : Nat) (B C : wB) (P R : wB × Int32) : Prop :=
  (fBq k B P.1 ∧ fC C R.1) ∧ ((P.2 = 1 ∧ P.1 5 k = R.2 ∧ ∃ p', p < p' ∧ st L p' P.1 R.1) ∨ (P.2 = 0 ∧ nO L p P.1 R.1))
theorem fq_of {B D : wB} {k : Nat} {v : Int32} (h : fB B D) : fBq k B (bput D 5 k v) := fun j q hq => by
  rw [show bput D 5 k v j q = D j q from if_neg (by omega)]
  exact h j q (by omega)
theorem neg1_lt : (-1 : Int32) < 0 := by decide
theorem r_digit {L p : Nat} {B C : wB} (h : st L p B C) : rP L p 3 B C (fX4_readDigit B) (fX7_digit C) := by
  have hp := h.2.2.2.2
  unfold fX4_readDigit
  dsimp only
  rcases p_digit h with ⟨a1, a2, a3, a4, a5⟩ | ⟨a1, a2, a3, a4⟩
  · rw [a1, if_neg (show ¬ (fX7_digit C).2 < 0 by rw [i_lt, t0]; omega)]
    exact ⟨⟨fq_of a4, a5⟩, Or.inl ⟨rfl, by dsimp only; rw [bput_h], p + 1, by omega, st_b a3 (by decide)⟩⟩
  · rw [a1, if_pos neg1_lt, a2]
    exact ⟨⟨fq_of (fB_refl B), a4⟩, Or.inr ⟨rfl, p, Nat.le_refl _, hp, by dsimp only; rw [bput_q (by decide)]; exact h.2.1, a3⟩⟩
theorem r_load {L p : Nat} {B C : wB} (h : st L p B C) : rP L p 4 B C (fX4_readLoad B) (fX7_digit C) := by
  have hp := h.2.2.2.2
  unfold fX4_readLoad
  dsimp only
  rcases p_digit h with ⟨a1, a2, a3, a4, a5⟩ | ⟨a1, a2, a3, a4⟩
  · rw [a1, if_neg (show ¬ (fX7_digit C).2 < 0 by rw [i_lt, t0]; omega)]
    exact ⟨⟨fq_of a4, a5⟩, Or.inl ⟨rfl, by dsimp only; rw [bput_h], p + 1, by omega, st_b a3 (by decide)⟩⟩
  · rw [a1, if_pos neg1_lt, a2]
    exact ⟨⟨fq_of (fB_refl B), a4⟩, Or.inr ⟨rfl, p, Nat.le_refl _, hp, by dsimp only; rw [bput_q (by decide)]; exact h.2.1, a3⟩⟩
theorem r_number {L p : Nat} {B C : wB} (h : st L p B C) : rP L p 2 B C (fX4_readNumber B) (fX7_number C) := by
  have hp := h.2.2.2.2
  unfold fX4_readNumber
  dsimp only
  rcases p_number h with ⟨a1, a2, ⟨p', a3, a3'⟩, a4, a5⟩ | ⟨a1, a2, a3, a4⟩
  · rw [a1, if_neg (show ¬ (fX7_number C).2 < 0 by rw [i_lt, t0]; omega)]
    exact ⟨⟨fq_of a4, a5⟩, Or.inl ⟨rfl, by dsimp only; rw [bput_h], p', a3, st_b a3' (by decide)⟩⟩
  · rw [a1, if_pos neg1_lt, a2]
    exact ⟨⟨fq_of (fB_refl B), a4⟩, Or.inr ⟨rfl, p, Nat.le_refl _, hp, by dsimp only; rw [bput_q (by decide)]; exact h.2.1, a3⟩⟩
theorem r_place {L p : Nat} {B C : wB} (h : st L p B C) : rP L p 4 B C (fX4_readPlace B) (fX7_place C) := by
  obtain ⟨e, hs⟩ := sg_eq h
  have e45 : (45 : Int32).toInt = 45 := by decide
  have f5 : ∀ v, fC C (bput C 0 5 v) := fun v j q hq => if_neg (by omega)
  unfold fX4_readPlace fX7_place fX4_skip
  dsimp only
  rw [e, h.2.2.2.1, if_pos rfl]
  by_cases c : fX7_next C = 45
  · rw [if_pos c, if_pos c, if_neg i32_10]
    have hpL : p < L := by
      rcases hs with ⟨k, -⟩ | ⟨-, k⟩
      · exact k
      · rw [k] at c; exact absurd c (by decide)
    obtain ⟨k1, k2⟩ := st_on (B' := bput B 5 0 (B 5 0 + 1)) (C' := bput C 0 5 (C 0 5 + 1)) h hpL rfl bput_h (by rw [bput_q (by decide)]; exact h.2.2.2.1) (f5 _)
    have hf := f5 (C 0 5 + 1)
    dsimp only
    generalize bput B 5 0 (B 5 0 + 1) = B1 at *
    generalize bput C 0 5 (C 0 5 + 1) = C1 at *
    rcases p_number k1 with ⟨a1, a2, ⟨p', a3, a3'⟩, a4, a5⟩ | ⟨a1, a2, a3, a4⟩
    · rw [a1, if_neg (show ¬ (fX7_number C1).2 < 0 by rw [i_lt, t0]; omega)]
      exact ⟨⟨fq_of (fB_trans k2 a4), fC_trans hf a5⟩, Or.inl ⟨rfl, by dsimp only; rw [bput_h], p', by omega, st_b a3' (by decide)⟩⟩
    · rw [a1, if_pos neg1_lt, a2]
      exact ⟨⟨fq_of k2, fC_trans hf a4⟩, Or.inr ⟨rfl, p + 1, by omega, hpL, by dsimp only; rw [bput_q (by decide)]; exact k1.2.1, a3⟩⟩
  · rw [if_neg c, if_neg c, if_pos rfl]
    have k1 : st L p B (bput C 0 5 (C 0 5 + 0)) := ⟨tX_c h.1 (fun _ _ => rfl) (bput_q (by decide)) (bput_off (by decide)), h.2.1, by rw [bput_h, Int32.add_zero]; exact h.2.2.1, by rw [bput_q (by decide)]; exact h.2.2.2.1, h.2.2.2.2⟩
    have hf := f5 (C 0 5 + 0)
    dsimp only
    generalize bput C 0 5 (C 0 5 + 0) = C1 at *
    rcases p_number k1 with ⟨a1, a2, ⟨p', a3, a3'⟩, a4, a5⟩ | ⟨a1, a2, a3, a4⟩
    · rw [a1, if_neg (show ¬ (fX7_number C1).2 < 0 by rw [i_lt, t0]; omega)]
      exact ⟨⟨fq_of a4, fC_trans hf a5⟩, Or.inl ⟨rfl, by dsimp only; rw [bput_h], p', by omega, st_b a3' (by decide)⟩⟩
    · rw [a1, if_pos neg1_lt, a2]
      exact ⟨⟨fq_of (fB_refl B), fC_trans hf a4⟩, Or.inr ⟨rfl, p, Nat.le_refl _, h.2.2.2.2, by dsimp only; rw [bput_q (by decide)]; exact h.2.1, a3⟩⟩
/-! the kinds -/
/-- what an order says, behind its kind -/
def kP (L p : Nat) (B C : wB) (P : wB × Int32) (R : wB) (V : Prop) : Prop :=
  (gB B P.1 ∧ P.1 5 1 = B 5 1) ∧ (fR C R ∧ R 0 7 = C 0 7) ∧ ((P.2 = 1 ∧ V ∧ ∃ p', p < p' ∧ st L p' P.1 R) ∨ (P.2 = 0 ∧ nO L p P.1 R))
theorem k_digit {L p : Nat} {B C : wB} (h : st L p B C) : kP L p B C (fX4_readDigit B) (bput (fX7_digit C).1 0 8 (fX7_digit C).2) ((fX4_readDigit B).1 5 3 = bput (fX7_digit C).1 0 8 (fX7_digit C).2 0 8) := by
  obtain ⟨⟨f1, f2⟩, r⟩ := r_digit h
  refine ⟨⟨gB_f f1, f1 5 1 (by omega)⟩, ⟨fR_trans (fR_C f2) (fR_b (by decide) (by decide)), by rw [bput_q (by decide)]; exact f2 0 7 (by omega)⟩, ?_⟩
  rcases r with ⟨r1, r2, p', r3, r4⟩ | ⟨r1, p', r2, r3, r4, r5⟩
  · exact Or.inl ⟨r1, by rw [bput_h]; exact r2, p', r3, st_r r4 (by decide)⟩
  · exact Or.inr ⟨r1, p', r2, r3, r4, wr_b r5 (by decide) (by decide)⟩
theorem k_number {L p : Nat} {B C : wB} (h : st L p B C) : kP L p B C (fX4_readNumber B) (bput (fX7_number C).1 0 8 (fX7_number C).2) ((fX4_readNumber B).1 5 2 = bput (fX7_number C).1 0 8 (fX7_number C).2 0 8) := by
  obtain ⟨⟨f1, f2⟩, r⟩ := r_number h
  refine ⟨⟨gB_f f1, f1 5 1 (by omega)⟩, ⟨fR_trans (fR_C f2) (fR_b (by decide) (by decide)), by rw [bput_q (by decide)]; exact f2 0 7 (by omega)⟩, ?_⟩
  rcases r with ⟨r1, r2, p', r3, r4⟩ | ⟨r1, p', r2, r3, r4, r5⟩
  · exact Or.inl ⟨r1, by rw [bput_h]; exact r2, p', r3, st_r r4 (by decide)⟩
  · exact Or.inr ⟨r1, p', r2, r3, r4, wr_b r5 (by decide) (by decide)⟩
/-- a piece (class 5 k, reference 0 r), a sign, another piece (class 5 k2, reference 0 r2) -/
theorem k_two {L p k k2 r r2 : Nat} {B C G F : wB} {P1 R1 S P2 W Q : wB × Int32} (hQ : Q = if P1.2 = 0 then (P1.1, 0) else if S.2 = 0 then (S.1, 0) else if P2.2 = 0 then (P2.1, 0) else (P2.1, 1)) (hF : F = bput W.1 0 r2 W.2)
    (hk : k ≠ 0 ∧ k ≠ 1) (hk2 : k2 ≠ 0 ∧ k2 ≠ 1 ∧ k2 ≠ k) (hr : 8 ≤ r ∧ r ≤ 10) (hr2 : 8 ≤ r2 ∧ r2 ≤ 10 ∧ r2 ≠ r)
    (h1 : rP L p k B C P1 R1)
    (hs : ∀ p' : Nat, st L p' P1.1 (bput R1.1 0 r R1.2) → (S.2 = 1 ∧ st L (p' + 1) S.1 G ∧ fB P1.1 S.1 ∧ fC (bput R1.1 0 r R1.2) G) ∨ (S.2 = 0 ∧ S.1 = P1.1 ∧ wr p' G ∧ fC (bput R1.1 0 r R1.2) G))
    (h2 : ∀ p' : Nat, st L p' S.1 G → rP L p' k2 S.1 G P2 W) (hw1 : ∀ p' : Nat, wr p' (bput R1.1 0 r R1.2) → wr p' G ∧ fC (bput R1.1 0 r R1.2) G) (hw2 : ∀ p' : Nat, wr p' G → wr p' W.1 ∧ fC G W.1) :
    kP L p B C Q F (Q.1 5 k = F 0 r ∧ Q.1 5 k2 = F 0 r2) := by
  obtain ⟨⟨b1, b2⟩, q⟩ := h1
  have fr : fR C (bput R1.1 0 r R1.2) := fR_trans (fR_C b2) (fR_b (by omega) (by omega))
  have h7 : bput R1.1 0 r R1.2 0 7 = C 0 7 := by rw [bput_q (by omega)]; exact b2 0 7 (by omega)
  rcases q with ⟨q1, q2, p1, q3, q4⟩ | ⟨q1, p1, q2, q3, q4, q5⟩
  · rw [if_neg (show ¬ P1.2 = 0 by rw [q1]; exact i32_10)] at hQ
    have s1 := st_r (v := R1.2) q4 (show 7 ≤ r by omega)
    have hr0 : bput R1.1 0 r R1.2 0 r = P1.1 5 k := by rw [bput_h]; exact q2.symm
    generalize bput R1.1 0 r R1.2 = C1 at *
    rcases hs _ s1 with ⟨c1, c2, c3, c4⟩ | ⟨c1, c2, c3, c4⟩
    · rw [if_neg (show ¬ S.2 = 0 by rw [c1]; exact i32_10)] at hQ
      have hbk : S.1 5 k = C1 0 r := by rw [c3 5 k (by omega)]; exact hr0.symm
      have hc0 : G 0 r = C1 0 r := c4 0 r (by omega)
      have hc7 : G 0 7 = C 0 7 := (c4 0 7 (by omega)).trans h7
      have fr2 := fR_trans fr (fR_C c4)
      obtain ⟨⟨d1, d2⟩, d⟩ := h2 _ c2
      have fr3 : fR C F := by rw [hF]; exact fR_trans fr2 (fR_trans (fR_C d2) (fR_b (by omega) (by omega)))
      have hd7 : F 0 7 = C 0 7 := by rw [hF, bput_q (by omega), d2 0 7 (by omega)]; exact hc7
      have gb : gB B P2.1 := gB_trans (gB_f b1) (gB_trans (gB_s c3) (gB_f d1))
      have hi : P2.1 5 1 = B 5 1 := by rw [d1 5 1 (by omega), c3 5 1 (by omega), b1 5 1 (by omega)]
      rcases d with ⟨e1, e2, p2, e3, e4⟩ | ⟨e1, p2, e2, e3, e4, e5⟩
      · rw [if_neg (show ¬ P2.2 = 0 by rw [e1]; exact i32_10)] at hQ
        subst hQ
        refine ⟨⟨gb, hi⟩, ⟨fr3, hd7⟩, Or.inl ⟨rfl, ⟨?_, ?_⟩, p2, by omega, ?_⟩⟩
        · dsimp only
          rw [hF, bput_q (by omega), d2 0 r (by omega), d1 5 k (by omega), hbk, hc0]
        · dsimp only
          rw [hF, bput_h]; exact e2
        · rw [hF]; exact st_r e4 (by omega)
      · rw [if_pos e1] at hQ
        subst hQ
        exact ⟨⟨gb, hi⟩, ⟨fr3, hd7⟩, Or.inr ⟨rfl, p2, by omega, e3, e4, by rw [hF]; exact wr_b e5 (by omega) (by omega)⟩⟩
    · rw [if_pos c1] at hQ
      obtain ⟨w1, w2⟩ := hw2 _ c3
      have fr3 : fR C F := by rw [hF]; exact fR_trans fr (fR_trans (fR_C (fC_trans c4 w2)) (fR_b (by omega) (by omega)))
      subst hQ
      refine ⟨⟨?_, ?_⟩, ⟨fr3, ?_⟩, Or.inr ⟨rfl, p1, by omega, q4.2.2.2.2, ?_, ?_⟩⟩
      · dsimp only; rw [c2]; exact gB_f b1
      · dsimp only; rw [c2]; exact b1 5 1 (by omega)
      · rw [hF, bput_q (by omega), w2 0 7 (by omega), c4 0 7 (by omega)]; exact h7
      · dsimp only; rw [c2]; exact q4.2.1
      · rw [hF]; exact wr_b w1 (by omega) (by omega)
  · rw [if_pos q1] at hQ
    have w0 := wr_b (v := R1.2) q5 (show r ≠ 5 by omega) (by omega)
    generalize bput R1.1 0 r R1.2 = C1 at *
    obtain ⟨w1, w2⟩ := hw1 _ w0
    obtain ⟨w3, w4⟩ := hw2 _ w1
    have fr3 : fR C F := by rw [hF]; exact fR_trans fr (fR_trans (fR_C (fC_trans w2 w4)) (fR_b (by omega) (by omega)))
    subst hQ
    refine ⟨⟨gB_f b1, b1 5 1 (by omega)⟩, ⟨fr3, ?_⟩, Or.inr ⟨rfl, p1, q2, q3, q4, by rw [hF]; exact wr_b w3 (by omega) (by omega)⟩⟩
    rw [hF, bput_q (by omega), w4 0 7 (by omega), w2 0 7 (by omega)]; exact h7
/-- the third piece of an order to plan -/
theorem k_then {L p : Nat} {B C R G F : wB} {Q S P2 W E : wB × Int32} (hE : E = if Q.2 = 0 then (Q.1, 0) else if S.2 = 0 then (S.1, 0) else if P2.2 = 0 then (P2.1, 0) else (P2.1, 1)) (hF : F = bput W.1 0 10 W.2)
    (h : kP L p B C Q R (Q.1 5 2 = R 0 8 ∧ Q.1 5 3 = R 0 9))
    (hs : ∀ p' : Nat, st L p' Q.1 R → (S.2 = 1 ∧ st L (p' + 1) S.1 G ∧ fB Q.1 S.1 ∧ fC R G) ∨ (S.2 = 0 ∧ S.1 = Q.1 ∧ wr p' G ∧ fC R G))
    (h2 : ∀ p' : Nat, st L p' S.1 G → rP L p' 4 S.1 G P2 W) (hw1 : ∀ p' : Nat, wr p' R → wr p' G ∧ fC R G) (hw2 : ∀ p' : Nat, wr p' G → wr p' W.1 ∧ fC G W.1) :
    kP L p B C E F (E.1 5 2 = F 0 8 ∧ E.1 5 3 = F 0 9 ∧ E.1 5 4 = F 0 10) := by
  obtain ⟨⟨b1, b2⟩, ⟨c1, c2⟩, q⟩ := h
  rcases q with ⟨q1, ⟨q2, q3⟩, p1, q4, q5⟩ | ⟨q1, p1, q2, q3, q4, q5⟩
  · rw [if_neg (show ¬ Q.2 = 0 by rw [q1]; exact i32_10)] at hE
    rcases hs _ q5 with ⟨d1, d2, d3, d4⟩ | ⟨d1, d2, d3, d4⟩
    · rw [if_neg (show ¬ S.2 = 0 by rw [d1]; exact i32_10)] at hE
      obtain ⟨⟨e1, e2⟩, e⟩ := h2 _ d2
      have fr : fR C F := by rw [hF]; exact fR_trans c1 (fR_trans (fR_C (fC_trans d4 e2)) (fR_b (by decide) (by decide)))
      have h7 : F 0 7 = C 0 7 := by rw [hF, bput_q (by decide), e2 0 7 (by omega), d4 0 7 (by omega)]; exact c2
      have gb : gB B P2.1 := gB_trans b1 (gB_trans (gB_s d3) (gB_f e1))
      have hb1 : P2.1 5 1 = B 5 1 := by rw [e1 5 1 (by omega), d3 5 1 (by omega)]; exact b2
      rcases e with ⟨k1, k2, p2, k3, k4⟩ | ⟨k1, p2, k2, k3, k4, k5⟩
      · rw [if_neg (show ¬ P2.2 = 0 by rw [k1]; exact i32_10)] at hE
        subst hE
        refine ⟨⟨gb, hb1⟩, ⟨fr, h7⟩, Or.inl ⟨rfl, ⟨?_, ?_, ?_⟩, p2, by omega, ?_⟩⟩
        · dsimp only; rw [hF, bput_q (by decide), e2 0 8 (by omega), d4 0 8 (by omega), e1 5 2 (by omega), d3 5 2 (by omega)]; exact q2
        · dsimp only; rw [hF, bput_q (by decide), e2 0 9 (by omega), d4 0 9 (by omega), e1 5 3 (by omega), d3 5 3 (by omega)]; exact q3
        · dsimp only; rw [hF, bput_h]; exact k2
        · rw [hF]; exact st_r k4 (by omega)
      · rw [if_pos k1] at hE
        subst hE
        exact ⟨⟨gb, hb1⟩, ⟨fr, h7⟩, Or.inr ⟨rfl, p2, by omega, k3, k4, by rw [hF]; exact wr_b k5 (by omega) (by omega)⟩⟩
    · rw [if_pos d1] at hE
      obtain ⟨w1, w2⟩ := hw2 _ d3
      have fr : fR C F := by rw [hF]; exact fR_trans c1 (fR_trans (fR_C (fC_trans d4 w2)) (fR_b (by decide) (by decide)))
      subst hE
      refine ⟨⟨?_, ?_⟩, ⟨fr, ?_⟩, Or.inr ⟨rfl, p1, by omega, q5.2.2.2.2, ?_, ?_⟩⟩
      · dsimp only; rw [d2]; exact b1
      · dsimp only; rw [d2]; exact b2
      · rw [hF, bput_q (by decide), w2 0 7 (by omega), d4 0 7 (by omega)]; exact c2
      · dsimp only; rw [d2]; exact q5.2.1
      · rw [hF]; exact wr_b w1 (by omega) (by omega)
  · rw [if_pos q1] at hE
    obtain ⟨w1, w2⟩ := hw1 _ q5
    obtain ⟨w3, w4⟩ := hw2 _ w1
    have fr : fR C F := by rw [hF]; exact fR_trans c1 (fR_trans (fR_C (fC_trans w2 w4)) (fR_b (by decide) (by decide)))
    subst hE
    refine ⟨⟨b1, b2⟩, ⟨fr, ?_⟩, Or.inr ⟨rfl, p1, q2, q3, q4, by rw [hF]; exact wr_b w3 (by omega) (by omega)⟩⟩
    rw [hF, bput_q (by decide), w4 0 7 (by omega), w2 0 7 (by omega)]; exact c2
/-- the tree of an order to plan, in two storeys -/
theorem tree_eq (f g : wB → wB × Int32) (P1 S P2 Q : wB × Int32) (hQ : Q = if P1.2 = 0 then (P1.1, 0) else if S.2 = 0 then (S.1, 0) else if P2.2 = 0 then (P2.1, 0) else (P2.1, 1)) :
    (if P1.2 = 0 then (P1.1, 0) else if S.2 = 0 then (S.1, 0) else if P2.2 = 0 then (P2.1, 0) else if (f P2.1).2 = 0 then ((f P2.1).1, 0) else if (g (f P2.1).1).2 = 0 then ((g (f P2.1).1).1, 0) else ((g (f P2.1).1).1, 1) : wB × Int32) =
      if Q.2 = 0 then (Q.1, 0) else if (f Q.1).2 = 0 then ((f Q.1).1, 0) else if (g (f Q.1).1).2 = 0 then ((g (f Q.1).1).1, 0) else ((g (f Q.1).1).1, 1) := by
  by_cases d1 : P1.2 = 0
  · rw [if_pos d1] at hQ
    subst hQ
    rw [if_pos d1, if_pos rfl]
  · rw [if_neg d1] at hQ
    rw [if_neg d1]
    by_cases d2 : S.2 = 0
    · rw [if_pos d2] at hQ
      subst hQ
      rw [if_pos d2, if_pos rfl]
    · rw [if_neg d2] at hQ
      rw [if_neg d2]
      by_cases d3 : P2.2 = 0
      · rw [if_pos d3] at hQ
        subst hQ
        rw [if_pos d3, if_pos rfl]
      · rw [if_neg d3] at hQ
        subst hQ
        rw [if_neg d3, if_neg i32_10]
/-- the order that was read: the kind, and what it says -/
def oM (B C : wB) : Prop :=
  (B 5 1 = 104 ∧ C 0 7 = 104 ∧ B 5 3 = C 0 8) ∨ (B 5 1 = 108 ∧ C 0 7 = 108 ∧ B 5 3 = C 0 8 ∧ B 5 4 = C 0 9) ∨ (B 5 1 = 109 ∧ C 0 7 = 109 ∧ B 5 3 = C 0 8 ∧ B 5 4 = C 0 9) ∨ (B 5 1 = 110 ∧ C 0 7 = 110 ∧ B 5 3 = C 0 8) ∨
  (B 5 1 = 112 ∧ C 0 7 = 112 ∧ B 5 2 = C 0 8 ∧ B 5 3 = C 0 9 ∧ B 5 4 = C 0 10) ∨ (B 5 1 = 115 ∧ C 0 7 = 115 ∧ B 5 3 = C 0 8) ∨ (B 5 1 = 116 ∧ C 0 7 = 116 ∧ B 5 2 = C 0 8)
def oP (L p : Nat) (B C : wB) (P : wB × Int32) (R : wB) : Prop := gB B P.1 ∧ fR C R ∧ ((P.2 = 1 ∧ (∃ p', p < p' ∧ st L p' P.1 R) ∧ oM P.1 R) ∨ (P.2 = 0 ∧ nO L p P.1 R))
theorem o_eq {L p : Nat} {B C R : wB} {P P' : wB × Int32} (h : P = P') (k : oP L p B C P' R) : oP L p B C P R := h ▸ k
theorem o_bad {L p : Nat} {B C : wB} (h : st L p B C) (x : Int32) : oP L p B C (bput B 5 1 x, 0) (bput (bput C 0 7 x) 0 6 1) :=
  ⟨fun j hj => bput_off hj, fR_trans (fR_b (by decide) (by decide)) (fR_b (by decide) (by decide)), Or.inr ⟨rfl, p, Nat.le_refl _, h.2.2.2.2, by dsimp only; rw [bput_q (by decide)]; exact h.2.1, by rw [bput_q (by decide), bput_q (by decide)]; exact h.2.2.1, bput_h⟩⟩
theorem o_of {L p : Nat} {B C : wB} {x : Int32} {P : wB × Int32} {R : wB} {V : Prop} (h : kP L (p + 1) (bput (bput B 5 1 x) 5 0 (B 5 0 + 1)) (bput (bput C 0 7 x) 0 5 (C 0 5 + 1)) P R V) (hv : V → P.1 5 1 = x → R 0 7 = x → oM P.1 R) : oP L p B C P R := by
  obtain ⟨⟨b1, b2⟩, ⟨c1, c2⟩, q⟩ := h
  rw [bput_q (by decide), bput_h] at b2
  rw [bput_q (by decide), bput_h] at c2
  refine ⟨fun j hj => by rw [b1 j hj, bput_off hj, bput_off hj], fR_trans (fR_b (by decide) (by decide)) (fR_trans (fR_b (by decide) (by decide)) c1), ?_⟩
  rcases q with ⟨q1, q2, p1, q3, q4⟩ | ⟨q1, p1, q2, q3⟩
  · exact Or.inl ⟨q1, ⟨p1, by omega, q4⟩, hv q2 b2 c2⟩
  · exact Or.inr ⟨q1, p1, by omega, q3⟩
set_option maxHeartbeats 8000000 in
theorem o_order {L p : Nat} {B C : wB} (h : st L p B C) : oP L p B C (fX4_readOrder B) (fX7_order C) := by
  obtain ⟨e, hs⟩ := sg_eq h
  have hgo : ∀ x : Int32, fX7_next C = x → 0 < x.toInt → st L (p + 1) (bput (bput B 5 1 x) 5 0 (B 5 0 + 1)) (bput (bput C 0 7 x) 0 5 (C 0 5 + 1)) := by
    intro x hx h0
    have hpL : p < L := by
      rcases hs with ⟨k, -⟩ | ⟨-, k⟩
      · exact k
      · rw [← hx, k, t0] at h0; omega
    have h1 := st_b (v := x) (st_r (v := x) h (show 7 ≤ 7 by decide)) (show 1 ≠ 0 by decide)
    exact (st_on (B' := bput (bput B 5 1 x) 5 0 (B 5 0 + 1)) (C' := bput (bput C 0 7 x) 0 5 (C 0 5 + 1)) h1 hpL (by rw [bput_q (by decide)]) (by rw [bput_h, bput_q (by decide)]) (by rw [bput_q (by decide)]; exact h1.2.2.2.1) (fun j q hq => if_neg (by omega))).1
  unfold fX4_readOrder fX7_order
  dsimp only
  rw [e]
  generalize hx : fX7_next C = x at *
  by_cases c : x = 104
  · rw [if_pos c, if_pos c]
    exact o_of (k_digit (hgo x rfl (by rw [c]; decide))) fun q1 q2 q3 => Or.inl ⟨q2.trans c, q3.trans c, q1⟩
  rw [if_neg c, if_neg c]; clear c
  by_cases c : x = 105
  · rw [if_pos c, if_pos c]; exact o_bad h x
  rw [if_neg c, if_neg c]; clear c
  by_cases c : x = 106
  · rw [if_pos c, if_pos c]; exact o_bad h x
  rw [if_neg c, if_neg c]; clear c
  by_cases c : x = 107
  · rw [if_pos c, if_pos c]; exact o_bad h x
  rw [if_neg c, if_neg c]; clear c
  by_cases c : x = 108
  · rw [if_pos c, if_pos c]
    exact o_of (k_two (k := 3) (k2 := 4) (r := 8) (r2 := 9) rfl rfl (by decide) (by decide) (by decide) (by decide) (r_digit (hgo x rfl (by rw [c]; decide))) (fun _ h => p_sign h (by decide)) (fun _ h => r_load h) (fun _ h => w_sign h _) (fun _ h => w_digit h)) fun q1 q2 q3 => Or.inr (Or.inl ⟨q2.trans c, q3.trans c, q1⟩)
  rw [if_neg c, if_neg c]; clear c
  by_cases c : x = 109
  · rw [if_pos c, if_pos c]
    exact o_of (k_two (k := 3) (k2 := 4) (r := 8) (r2 := 9) rfl rfl (by decide) (by decide) (by decide) (by decide) (r_digit (hgo x rfl (by rw [c]; decide))) (fun _ h => p_sign h (by decide)) (fun _ h => r_place h) (fun _ h => w_sign h _) (fun _ h => w_place h)) fun q1 q2 q3 => Or.inr (Or.inr (Or.inl ⟨q2.trans c, q3.trans c, q1⟩))
  rw [if_neg c, if_neg c]; clear c
  by_cases c : x = 110
  · rw [if_pos c, if_pos c]
    exact o_of (k_digit (hgo x rfl (by rw [c]; decide))) fun q1 q2 q3 => Or.inr (Or.inr (Or.inr (Or.inl ⟨q2.trans c, q3.trans c, q1⟩)))
  rw [if_neg c, if_neg c]; clear c
  by_cases c : x = 111
  · rw [if_pos c, if_pos c]; exact o_bad h x
  rw [if_neg c, if_neg c]; clear c
  by_cases c : x = 112
  · rw [if_pos c, if_pos c]
    refine o_eq (tree_eq (fun b => fX4_skip b 64) fX4_readPlace _ _ _ _ rfl) ?_
    exact o_of (k_then rfl rfl (k_two (k := 2) (k2 := 3) (r := 8) (r2 := 9) rfl rfl (by decide) (by decide) (by decide) (by decide) (r_number (hgo x rfl (by rw [c]; decide))) (fun _ h => p_sign h (by decide)) (fun _ h => r_digit h) (fun _ h => w_sign h _) (fun _ h => w_digit h)) (fun _ h => p_sign h (by decide)) (fun _ h => r_place h) (fun _ h => w_sign h _) (fun _ h => w_place h)) fun q1 q2 q3 => Or.inr (Or.inr (Or.inr (Or.inr (Or.inl ⟨q2.trans c, q3.trans c, q1⟩))))
  rw [if_neg c, if_neg c]; clear c
  by_cases c : x = 113
  · rw [if_pos c, if_pos c]; exact o_bad h x
  rw [if_neg c, if_neg c]; clear c
  by_cases c : x = 114
  · rw [if_pos c, if_pos c]; exact o_bad h x
  rw [if_neg c, if_neg c]; clear c
  by_cases c : x = 115
  · rw [if_pos c, if_pos c]
    exact o_of (k_digit (hgo x rfl (by rw [c]; decide))) fun q1 q2 q3 => Or.inr (Or.inr (Or.inr (Or.inr (Or.inr (Or.inl ⟨q2.trans c, q3.trans c, q1⟩)))))
  rw [if_neg c, if_neg c]; clear c
  by_cases c : x = 116
  · rw [if_pos c, if_pos c]
    exact o_of (k_number (hgo x rfl (by rw [c]; decide))) fun q1 q2 q3 => Or.inr (Or.inr (Or.inr (Or.inr (Or.inr (Or.inr ⟨q2.trans c, q3.trans c, q1⟩)))))
  rw [if_neg c, if_neg c]
  exact o_bad h x

/-! ticks in which nothing happens: the class goes from event to event -/
theorem nx_next {B : wB} : ∀ (u k : Nat) (x : Int32), (LX0_next B u k x).toInt ≤ x.toInt ∧ (∀ i, k ≤ i → i < k + u → ¬ fX5_moves i B = 0 → (LX0_next B u k x).toInt ≤ (B (3 + i) 7).toInt) ∧
    ∀ t : Int, t < x.toInt → (∀ i, k ≤ i → i < k + u → ¬ fX5_moves i B = 0 → t < (B (3 + i) 7).toInt) → t < (LX0_next B u k x).toInt := by
  intro u
  induction u with
  | zero => intro k x; exact ⟨Int.le_refl _, fun i h1 h2 => absurd h2 (by omega), fun t ht _ => ht⟩
  | succ u ih =>
    intro k x
    simp only [LX0_next]
    by_cases c : fX5_moves k B = 0
    · rw [if_pos c]
      obtain ⟨h1, h2, h3⟩ := ih (k + 1) x
      refine ⟨h1, fun i i1 i2 hi => ?_, fun t ht hi => h3 t ht fun i i1 i2 => hi i (by omega) (by omega)⟩
      by_cases d : i = k
      · subst d; exact absurd c hi
      · exact h2 i (by omega) (by omega) hi
    · rw [if_neg c]
      obtain ⟨h1, h2, h3⟩ := ih (k + 1) (if B (3 + k) 7 < x then B (3 + k) 7 else x)
      have hmin : (if B (3 + k) 7 < x then B (3 + k) 7 else x).toInt ≤ x.toInt ∧ (if B (3 + k) 7 < x then B (3 + k) 7 else x).toInt ≤ (B (3 + k) 7).toInt ∧ ∀ t : Int, t < x.toInt → t < (B (3 + k) 7).toInt → t < (if B (3 + k) 7 < x then B (3 + k) 7 else x).toInt := by
        by_cases d : B (3 + k) 7 < x
        · rw [if_pos d]; rw [i_lt] at d; exact ⟨by omega, by omega, fun t _ h => h⟩
        · rw [if_neg d]; rw [i_lt] at d; exact ⟨by omega, by omega, fun t h _ => h⟩
      refine ⟨by omega, fun i i1 i2 hi => ?_, fun t ht hi => h3 t (hmin.2.2 t ht (hi k (by omega) (by omega) c)) fun i i1 i2 => hi i (by omega) (by omega)⟩
      by_cases d : i = k
      · subst d; omega
      · exact h2 i (by omega) (by omega) hi
theorem nx_c {B B' : wB} (h : ∀ j q, ¬ (j = 0 ∧ q = 2) → B' j q = B j q) : ∀ (u k : Nat) (x : Int32), LX0_next B' u k x = LX0_next B u k x := by
  intro u
  induction u with
  | zero => intro k x; rfl
  | succ u ih =>
    intro k x
    have e : fX5_moves k B' = fX5_moves k B := by unfold fX5_moves; rw [h _ _ (by omega)]
    simp only [LX0_next]
    rw [e, h (3 + k) 7 (by omega), ih, ih]
theorem ev_c (B : wB) (v : Int32) : fX0_nextEvent (bput B 0 2 v) = fX0_nextEvent B := by
  unfold fX0_nextEvent
  rw [nx_c (B := B) (B' := bput B 0 2 v) fun j q h => if_neg h]
  rw [show bput B 0 2 v 0 1 = B 0 1 from if_neg (by omega), show bput B 0 2 v 11 0 = B 11 0 from if_neg (by omega)]
theorem ar_c (B : wB) (v e : Int32) : fX0_arriveAt (bput B 0 2 v) e = fX0_arriveAt B e := by
  unfold fX0_arriveAt
  congr 1
  funext j q
  unfold bput
  by_cases c : j = 0 ∧ q = 2
  · rw [if_pos c, if_pos c]
  · rw [if_neg c, if_neg c, if_neg c]
/-- the event that comes next -/
theorem ev_spec {m M T : Nat} {B : wB} {S : Nat → Int32} (h : RB m M T B S) : (T : Int) < (fX0_nextEvent B).toInt ∧ (M = 0 ∨ (fX0_nextEvent B).toInt ≤ (B 11 0).toInt) ∧ ∀ i, i < m → ¬ fX5_moves i B = 0 → (fX0_nextEvent B).toInt ≤ (B (3 + i) 7).toInt := by
  obtain ⟨⟨a1, a2, a3⟩, ⟨b1, b2, b3⟩, ⟨c1, c2, c3⟩, -, e, f, g, i⟩ := h
  unfold fX0_nextEvent
  obtain ⟨n1, n2, n3⟩ := nx_next (B := B) 4 0 (if B 0 1 ≤ 0 then 2147483647 else B 11 0)
  have h0 : 0 < M → ¬ B 0 1 ≤ 0 := fun q => by rw [c2, i_le, nI_ti (by omega), t0]; omega
  refine ⟨n3 T ?_ fun k _ hk hm => ?_, ?_, fun k hk => n2 k (by omega) (by omega)⟩
  · by_cases c : 0 < M
    · rw [if_neg (h0 c)]
      have hx := plC_get B M 0
      rw [if_pos c, g] at hx
      exact (i _ ((pSort_mem _ _).mp (List.mem_of_getElem? hx))).1.1
    · rw [if_pos (by rw [c2, show M = 0 by omega]; decide)]
      have : (2147483647 : Int32).toInt = 2147483647 := by decide
      rw [this]; omega
  · by_cases c : k < m
    · obtain ⟨e1, e2⟩ := e k c
      rcases q_rests (C := fun _ => S) e1 e2 with ⟨f1, f2, f3⟩ | ⟨f1, f2, f3⟩
      · rw [(e1.2.2.2.2.2.2.2.2.2.1 f3).2]; exact (e2.2.2.2.2.2.1 f3).2.1
      · exact absurd f2 hm
    · exfalso
      apply hm
      unfold fX5_moves
      rw [(f k (by omega) (by omega) 5 (by decide)).1, if_pos (by decide)]
  · by_cases c : 0 < M
    · rw [if_neg (h0 c)] at n1
      exact Or.inr (by rw [if_neg (h0 c)]; exact n1)
    · exact Or.inl (by omega)
theorem mk_quiet {B : wB} : ∀ (u k : Nat) (x : Int32), (∀ i, k ≤ i → i < k + u → fX0_isDue B (nI i) = 0) → LX0_make u k B x = (B, x) ∧ ∀ y, LX0_due B u k y = (none, y) := by
  intro u
  induction u with
  | zero => intro k x _; exact ⟨rfl, fun _ => rfl⟩
  | succ u ih =>
    intro k x h
    simp only [LX0_make, LX0_due]
    have := ih (k + 1) x fun i h1 h2 => h i (by omega) (by omega)
    rw [if_pos (h k (by omega) (by omega))]
    exact ⟨this.1, fun y => by rw [if_pos (h k (by omega) (by omega))]; exact this.2 y⟩
theorem ev_quiet {m M T t : Nat} {B : wB} {S : Nat → Int32} (h : RB m M T B S) (ht : t ≤ 125000) (he : (t : Int) < (fX0_nextEvent B).toInt) : fX0_arriveAt B (nI t) = bput B 0 2 (nI t) ∧ fX0_makeSteps (bput B 0 2 (nI t)) = (bput B 0 2 (nI t), 0) ∧ ∀ y, LX0_due (bput B 0 2 (nI t)) 4 0 y = (none, y) := by
  obtain ⟨-, s2, s3⟩ := ev_spec h
  obtain ⟨⟨a1, a2, a3⟩, ⟨b1, b2, b3⟩, ⟨c1, c2, c3⟩, -, e, f, g, i⟩ := h
  have h1 : fX0_arriveAt B (nI t) = bput B 0 2 (nI t) := by
    unfold fX0_arriveAt
    show LX0_arr (11 + 1) _ = _
    simp only [LX0_arr]
    rw [show bput B 0 2 (nI t) 0 1 = B 0 1 from if_neg (by omega), show bput B 0 2 (nI t) 11 0 = B 11 0 from if_neg (by omega), show bput B 0 2 (nI t) 0 2 = nI t from if_pos ⟨rfl, rfl⟩]
    by_cases c : B 0 1 ≤ 0
    · rw [if_pos c]
    · rw [if_neg c, if_neg]
      intro d
      rcases s2 with s2 | s2
      · apply c; rw [c2, s2]; decide
      · rw [d, nI_ti (by omega)] at s2; omega
  have hd : ∀ k, 0 ≤ k → k < 0 + 4 → fX0_isDue (bput B 0 2 (nI t)) (nI k) = 0 := by
    intro k _ hk
    have e00 : bput B 0 2 (nI t) 0 0 = nI m := (if_neg (by omega)).trans a2
    by_cases c : k < m
    · unfold fX0_isDue
      dsimp only
      rw [if_pos ((find_nI e00 a3 (by omega)).mpr c), nI_clamp (by omega)]
      have em : fX5_moves k (bput B 0 2 (nI t)) = fX5_moves k B := by unfold fX5_moves; rw [bput_j (by omega)]
      rw [em]
      by_cases d : fX5_moves k B = 0
      · rw [if_pos d]
      · rw [if_neg d, if_neg]
        intro e
        have := s3 k c d
        rw [bput_j (by omega), show bput B 0 2 (nI t) 0 2 = nI t from if_pos ⟨rfl, rfl⟩] at e
        rw [e, nI_ti (by omega)] at this
        omega
    · exact due_no e00 a3 (by omega) (by omega)
  obtain ⟨k1, k2⟩ := mk_quiet 4 0 0 hd
  exact ⟨h1, k1, k2⟩
/-- j ticks of the reference -/
def tkI : Nat → wB → wB
  | 0, C => C
  | j + 1, C => tkI j (fX7_ticks C).1
def kC (C E : wB) : Prop := (∀ j, j ≠ 0 → j ≠ 1 → E j = C j) ∧ (∀ q, q ≠ 2 → q ≠ 3 → q ≠ 4 → E 0 q = C 0 q) ∧ ((C 0 2).toInt < 0 → ∀ q, E 0 q = C 0 q)
theorem kC_refl (C : wB) : kC C C := ⟨fun _ _ _ => rfl, fun _ _ _ _ => rfl, fun _ _ => rfl⟩
theorem kC_trans {C D E : wB} (h1 : kC C D) (h2 : kC D E) : kC C E :=
  ⟨fun j a b => (h2.1 j a b).trans (h1.1 j a b), fun q a b c => (h2.2.1 q a b c).trans (h1.2.1 q a b c), fun h q => by
    have h3 := h1.2.2 h
    exact (h2.2.2 (by rw [h3]; exact h) q).trans (h3 q)⟩
theorem kC_tick {m M T : Nat} {B C : wB} (h : RB m M T B (C 1)) (hT : T + 1 ≤ 125000) : kC C (fX7_ticks C).1 := by
  obtain ⟨-, -, h3, h4⟩ := d_tick h hT
  exact ⟨h3, h4.1, h4.2.1⟩
/-- ticks before the event -/
theorem d_quiet : ∀ (j : Nat) {m M T : Nat} {B C : wB}, RB m M T B (C 1) → T + j ≤ 125000 → ((T + j : Nat) : Int) < (fX0_nextEvent B).toInt →
    RB m M (T + j) (bput B 0 2 (nI (T + j))) (tkI j C 1) ∧ kC C (tkI j C) ∧ (0 ≤ (C 0 2).toInt → tkI j C 0 2 = C 0 2) ∧ ∀ v x, LX7_ps (j + v) C x = LX7_ps v (tkI j C) x := by
  intro j
  induction j with
  | zero =>
    intro m M T B C h hT he
    refine ⟨RB_c h (fun j q _ => ?_) fun _ _ => rfl, kC_refl C, fun _ => rfl, fun v x => by rw [Nat.zero_add]; rfl⟩
    unfold bput
    by_cases c : j = 0 ∧ q = 2
    · rw [if_pos c, c.1, c.2, h.2.1.2.1, Nat.add_zero]
    · rw [if_neg c]
  | succ j ih =>
    intro m M T B C h hT he
    obtain ⟨t1', ⟨M', t2⟩, t3, t4⟩ := d_tick h (show T + 1 ≤ 125000 by omega)
    obtain ⟨q1, q2, q3⟩ := ev_quiet (t := T + 1) h (by omega) (by omega)
    have hk := kC_tick h (show T + 1 ≤ 125000 by omega)
    rw [q1, q2] at t1' t2
    rw [q1, q3] at t4
    dsimp only at t1' t2
    have hMM : M' = M := by
      have h1 := t2.2.2.1.2.1
      rw [show bput B 0 2 (nI (T + 1)) 0 1 = B 0 1 from if_neg (by omega), h.2.2.1.2.1, i_eq, nI_ti (by have := h.2.2.1.2.2; omega), nI_ti (by have := t2.2.2.1.2.2; omega)] at h1
      omega
    subst hMM
    obtain ⟨i1, i2, i3, i4⟩ := ih t2 (by omega) (by rw [ev_c]; omega)
    have e0 : bput (bput B 0 2 (nI (T + 1))) 0 2 (nI (T + 1 + j)) = bput B 0 2 (nI (T + (j + 1))) := by
      rw [show T + 1 + j = T + (j + 1) by omega]
      funext a b
      unfold bput
      by_cases c : a = 0 ∧ b = 2
      · rw [if_pos c, if_pos c]
      · rw [if_neg c, if_neg c, if_neg c]
    rw [e0, show T + 1 + j = T + (j + 1) by omega] at i1
    refine ⟨i1, kC_trans hk i2, fun h0 => ?_, fun v x => ?_⟩
    · have h1 := ((t4.2.2 h0).1 _ rfl).1
      simp only [tkI]
      rw [i3 (by rw [h1]; exact h0), h1]
    · rw [show j + 1 + v = (j + v) + 1 by omega]
      simp only [LX7_ps, tkI]
      rw [← t1', Int32.add_zero, i4]

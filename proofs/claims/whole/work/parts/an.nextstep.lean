/-! nextStep -/
theorem rcq_i {B : wB} {j o n q : Nat} {f : Nat → Int32} (h : o ≤ q) (h2 : q < o + n) : rcp B j o f n j q = f (q - o) := if_pos ⟨rfl, h, h2⟩
theorem rcq_o {B : wB} {j o n q : Nat} {f : Nat → Int32} (h : q < o ∨ o + n ≤ q) : rcp B j o f n j q = B j q := if_neg (by omega)
theorem rcq_j {B : wB} {j o n j' : Nat} {f : Nat → Int32} (h : j' ≠ j) : rcp B j o f n j' = B j' := by funext q; exact if_neg (by omega)
/-- what a search on a bench set aside leaves of the reference -/
def xC (C E : wB) : Prop := (∀ q, q < 100 → E 1 q = C 1 q) ∧ (∀ j, 3 ≤ j → E j = C j) ∧ (∀ q, q ≠ 2 → q ≠ 3 → q ≠ 4 → E 0 q = C 0 q) ∧ E 0 2 = -1
theorem ns_quiet : ∀ (j : Nat) {m M T : Nat} {B C : wB}, RB m M T B (C 1) → T + j ≤ 125000 → ((T + j : Nat) : Int) < (fX0_nextEvent B).toInt → 0 ≤ (C 0 2).toInt →
    ∀ v k, LX7_ns (j + v) k C = LX7_ns v (k + j) (tkI j C) := by
  intro j
  induction j with
  | zero => intro m M T B C h hT he h0 v k; rw [Nat.zero_add]; rfl
  | succ j ih =>
    intro m M T B C h hT he h0 v k
    obtain ⟨q1, -, q3, -⟩ := d_quiet 1 h (by omega) (by omega)
    have h1 : (fX7_ticks C).1 0 2 = C 0 2 := q3 h0
    have := ih (C := (fX7_ticks C).1) q1 (by omega) (by rw [ev_c]; omega) (by rw [h1]; exact h0) v (k + 1)
    rw [show j + 1 + v = (j + v) + 1 by omega]
    simp only [LX7_ns, tkI]
    rw [if_neg (by rw [i_lt, t0]; omega), this, show k + 1 + j = k + (j + 1) by omega]
theorem du_is {B : wB} : ∀ (v k : Nat) (x : Int32) (s : Nat) (y : Int32), LX0_due B v k x = (some s, y) → ¬ fX0_isDue B (nI s) = 0 := by
  intro v
  induction v with
  | zero => intro k x s y h; exact absurd (congrArg Prod.fst h) (by simp [LX0_due])
  | succ v ih =>
    intro k x s y h
    simp only [LX0_due] at h
    by_cases c : fX0_isDue B (nI k) = 0
    · rw [if_pos c] at h
      exact ih _ _ _ _ h
    · rw [if_neg c] at h
      by_cases d : x = 0
      · rw [if_pos d] at h
        have : k = s := Option.some.inj (congrArg Prod.fst h)
        rw [← this]; exact c
      · rw [if_neg d] at h
        exact ih _ _ _ _ h
theorem ev_arr {m M T E : Nat} {B C : wB} (h : RB m M T B (C 1)) (hE : fX0_nextEvent B = nI E) (hE2 : E ≤ 125000) : fX0_arriveAt B (nI E) 0 0 = nI m ∧ fX0_arriveAt B (nI E) 0 2 = nI E := by
  have hlt := (ev_spec h).1
  rw [hE, nI_ti (by omega)] at hlt
  obtain ⟨q1, -, -, -⟩ := d_quiet (E - 1 - T) h (by omega) (by rw [hE, nI_ti (by omega)]; omega)
  rw [show T + (E - 1 - T) = E - 1 by omega] at q1
  obtain ⟨M', p1, -, -⟩ := d_arr q1 (by omega)
  rw [show E - 1 + 1 = E by omega, ar_c] at p1
  exact ⟨p1.1.2.1, p1.2.1.2.1⟩
theorem d_ns {m b : Nat} (hm : m ≤ 4) (hb : b ≤ 100000) : ∀ (u : Nat) {M T : Nat} {B C : wB}, RB m M T B (C 1) → 0 ≤ (C 0 2).toInt → b ≤ T → T ≤ b + 5000 → 5001 ≤ u + (T - b) →
    kC C (LX7_ns (5000 - (T - b)) (T - b) C).2 ∧ ((0 ≤ ((LX7_ns (5000 - (T - b)) (T - b) C).2 0 2).toInt ∧ (LX0_go (nI b) u B (C 0 2)).2 = -6) ∨
      ∃ s E, (LX7_ns (5000 - (T - b)) (T - b) C).2 0 2 = -1 ∧ s < m ∧ b ≤ E ∧ E ≤ 125000 ∧ (LX0_go (nI b) u B (C 0 2)).2 = nI s ∧ (LX0_go (nI b) u B (C 0 2)).1 0 0 = nI m ∧ (LX0_go (nI b) u B (C 0 2)).1 0 2 = nI E ∧ (LX7_ns (5000 - (T - b)) (T - b) C).1 = E - b ∧ (LX7_ns (5000 - (T - b)) (T - b) C).2 0 3 = nI s ∧
        (LX7_ns (5000 - (T - b)) (T - b) C).2 0 4 = if fX3_grips (LX0_go (nI b) u B (C 0 2)).1 ((LX0_go (nI b) u B (C 0 2)).1 (3 + s) 6) ((LX0_go (nI b) u B (C 0 2)).1 (3 + s) 1) = 0 then 1 else 0) := by
  intro u
  induction u with
  | zero => intro M T B C h h0 h1 h2 h3; omega
  | succ u ih =>
    intro M T B C h h0 h1 h2 h3
    have hlt := (ev_spec h).1
    have hneg : ∀ x : Int32, 0 ≤ x.toInt → ¬ x < 0 := fun x hx => by rw [i_lt, t0]; omega
    have heb : (fX0_nextEvent B - nI b).toInt = (fX0_nextEvent B).toInt - b := by
      have := Int32.toInt_lt (fX0_nextEvent B)
      rw [ti_sub (by rw [nI_ti (by omega)]; omega) (by rw [nI_ti (by omega)]; omega), nI_ti (by omega)]
    have e50 : (5000 : Int32).toInt = 5000 := by decide
    by_cases d : fX0_nextEvent B - nI b ≤ 5000
    · have hgo : LX0_go (nI b) (u + 1) B (C 0 2) = gX0_go (fX0_arriveAt B (fX0_nextEvent B)) (fun y => LX0_go (nI b) u (fX0_makeSteps (fX0_arriveAt B (fX0_nextEvent B))).1 y) (LX0_due (fX0_arriveAt B (fX0_nextEvent B)) 4 0 (C 0 2)) := by
        simp only [LX0_go]
        rw [if_pos d]
      rw [hgo]
      clear hgo
      rw [i_le, heb, e50] at d
      have hE := i_nn (x := fX0_nextEvent B) (by omega)
      have hE2 := (tn_of (a := fX0_nextEvent B) (by omega)).2
      generalize (fX0_nextEvent B).toNatClampNeg = E at *
      obtain ⟨e1, e2, ⟨M', e3⟩, e4, e5, -⟩ := d_event h hE.symm (by omega)
      obtain ⟨a1, a2⟩ := ev_arr h hE.symm (by omega)
      obtain ⟨g1, g2⟩ := e5 h0
      have hq := ns_quiet (E - 1 - T) h (by omega) (by rw [← hE, nI_ti (by omega)]; omega) h0
      have hr : LX7_ns (5000 - (T - b)) (T - b) C = LX7_ns (5000 - (E - b)) (E - b) (fX7_ticks (tkI (E - 1 - T) C)).1 := by
        rw [show 5000 - (T - b) = (E - 1 - T) + ((5000 - (E - b)) + 1) by omega, hq]
        simp only [LX7_ns]
        rw [g2, if_neg (hneg _ h0), show T - b + (E - 1 - T) + 1 = E - b by omega]
      rw [hr, ← hE]
      clear hr hq
      obtain ⟨-, -, g5⟩ := g1
      rw [g2] at g5
      obtain ⟨g6, g7⟩ := g5 h0
      generalize (fX7_ticks (tkI (E - 1 - T) C)).1 = D at *
      rcases hdue : LX0_due (fX0_arriveAt B (nI E)) 4 0 (C 0 2) with ⟨o, y⟩
      cases o with
      | none =>
        obtain ⟨k1, k2⟩ := g6 y hdue
        unfold gX0_go
        dsimp only
        obtain ⟨i1, i2⟩ := ih e3 (by rw [k1]; exact k2) (by omega) (by omega) (by omega)
        rw [k1] at i2
        exact ⟨kC_trans e4 i1, i2⟩
      | some s =>
        obtain ⟨k1, k2, k3⟩ := g7 s y hdue
        unfold gX0_go
        dsimp only
        have hsm : s < m := by
          have h4 := du_ge _ _ _ _ _ hdue
          have h5 := du_is _ _ _ _ _ hdue
          apply Classical.byContradiction
          intro h6
          exact h5 (due_no a1 hm (by omega) (by omega))
        have hR : LX7_ns (5000 - (E - b)) (E - b) D = (E - b, D) := by
          cases 5000 - (E - b) with
          | zero => rfl
          | succ v => simp only [LX7_ns]; rw [if_pos (by rw [k1]; decide)]
        rw [hR]
        exact ⟨e4, Or.inr ⟨s, E, k1, hsm, by omega, by omega, rfl, a1, a2, rfl, k2, k3⟩⟩
    · have hgo : LX0_go (nI b) (u + 1) B (C 0 2) = (B, -6) := by
        simp only [LX0_go]
        rw [if_neg d]
      rw [hgo]
      clear hgo
      rw [i_le, heb, e50] at d
      obtain ⟨-, q2, q3, -⟩ := d_quiet (5000 - (T - b)) h (by omega) (by omega)
      have hq := ns_quiet (5000 - (T - b)) h (by omega) (by omega) h0 0 (T - b)
      rw [Nat.add_zero] at hq
      rw [hq]
      simp only [LX7_ns]
      exact ⟨q2, Or.inl ⟨by rw [q3 h0]; exact h0, trivial⟩⟩
theorem pa_RB {m M T : Nat} {B C : wB} (h : RB m M T B (C 1)) : RB m M T B (fX7_putAside C 1) := RB_c h (fun _ _ _ => rfl) fun q _ => by unfold fX7_putAside; rw [rcq_j (by decide)]
theorem pb_x {C D E : wB} (h2 : E 2 = fX7_putAside C 2) (h3 : ∀ j, 3 ≤ j → E j = C j) (h4 : ∀ q, q ≠ 2 → q ≠ 3 → q ≠ 4 → E 0 q = C 0 q) (h5 : E 0 2 = -1) : xC C (fX7_putBack E) := by
  unfold fX7_putBack
  refine ⟨fun q hq => ?_, fun j hj => ?_, fun q q2 q3 q4 => ?_, ?_⟩
  · rw [rcq_i (Nat.zero_le _) (by omega), h2]
    unfold fX7_putAside
    rw [rcq_i (Nat.zero_le _) (by omega)]
    rfl
  · rw [rcq_j (by omega), h3 j hj]
  · rw [rcq_j (by decide), h4 q q2 q3 q4]
  · rw [rcq_j (by decide), h5]
theorem xC_refl {C : wB} (h : C 0 2 = -1) : xC C C := ⟨fun _ _ => rfl, fun _ _ => rfl, fun _ _ _ _ => rfl, h⟩
theorem a_restsIn {Z : wZ} {m M T : Nat} (h : RB m M T (Z 0) (Z 12 1)) (hT : T ≤ 100000) (hp : Z 12 0 2 = -1) (a : Int32) :
    (fX6_restsIn Z a).2 = (fX7_restsIn (Z 12) a).2 ∧ (∀ i, i ≠ 1 → (fX6_restsIn Z a).1 i = Z i) ∧ xC (Z 12) (fX7_restsIn (Z 12) a).1 := by
  unfold fX6_restsIn fX0_ticksUntilRest fX7_restsIn
  dsimp only
  have hpa : ∀ j, j ≠ 2 → fX7_putAside (Z 12) j = Z 12 j := fun j hj => rcq_j hj
  rcases q_find h a with ⟨h1, h2, h3, h4⟩ | ⟨h1, h2⟩
  · rw [if_pos h1, if_neg h2]
    have hT2 := h.2.1.2.1
    generalize a.toNatClampNeg = s at *
    subst h4
    obtain ⟨d1, d2⟩ := d_ri (b := T) h3 (by omega) 20001 (pa_RB h) (Nat.le_refl _) (by omega) (by omega)
    rw [Nat.sub_self, Nat.sub_zero] at d1 d2
    rw [hT2]
    unfold restMax restFar gX7_ri
    rw [d1]
    generalize LX7_ri s 20000 0 (fX7_putAside (Z 12)) = R at *
    have hx : xC (Z 12) (fX7_putBack R.2) := pb_x (C := Z 12) (D := Z 12) (d2.1 2 (by decide) (by decide)) (fun j hj => (d2.1 j (by omega) (by omega)).trans (hpa j (by omega))) (fun q q2 q3 q4 => by rw [d2.2.1 q q2 q3 q4, hpa 0 (by decide)]) (by rw [d2.2.2 (by rw [hpa 0 (by decide), hp]; decide), hpa 0 (by decide)]; exact hp)
    by_cases c : fX7_isOver R.2 s = 0
    · rw [if_pos c, if_pos c]
      exact ⟨rfl, fun i hi => if_neg hi, hx⟩
    · rw [if_neg c, if_neg c]
      exact ⟨rfl, fun i hi => if_neg hi, hx⟩
  · rw [if_neg h1, if_pos h2]
    exact ⟨rfl, fun i hi => if_neg hi, xC_refl hp⟩
theorem a_nextStep {Z : wZ} {m M T : Nat} (h : RB m M T (Z 0) (Z 12 1)) (hT : T ≤ 100000) (hp : Z 12 0 2 = -1) (a b : Int32) :
    (fX6_nextStep Z a b).2 = (fX7_nextStep (Z 12) a b).2 ∧ (∀ i, i ≠ 1 → (fX6_nextStep Z a b).1 i = Z i) ∧ xC (Z 12) (fX7_nextStep (Z 12) a b).1 := by
  have hpa : ∀ j, j ≠ 2 → fX7_putAside (Z 12) j = Z 12 j := fun j hj => rcq_j hj
  have hm := h.1.2.2
  have e99 : (99 : Int32).toInt = 99 := by decide
  have e2 : (2 : Int32).toInt = 2 := by decide
  unfold fX6_nextStep fX7_nextStep
  rw [in_in, in_in]
  by_cases c1 : a < 0
  · rw [if_pos c1, if_pos c1, if_pos rfl]; exact ⟨rfl, fun _ _ => rfl, xC_refl hp⟩
  by_cases c2 : 99 < a
  · rw [if_neg c1, if_neg c1, if_pos c2, if_pos c2, if_pos rfl]; exact ⟨rfl, fun _ _ => rfl, xC_refl hp⟩
  rw [if_neg c1, if_neg c1, if_neg c2, if_neg c2, if_neg i32_10]
  by_cases c3 : b < 0
  · rw [if_pos c3, if_pos c3, if_pos rfl]; exact ⟨rfl, fun _ _ => rfl, xC_refl hp⟩
  by_cases c4 : 2 < b
  · rw [if_neg c3, if_neg c3, if_pos c4, if_pos rfl, if_neg (by rw [i_lt, e2] at c4; rw [i_le, e2]; omega)]; exact ⟨rfl, fun _ _ => rfl, xC_refl hp⟩
  rw [if_neg c3, if_neg c3, if_neg c4, if_neg i32_10, if_pos (by rw [i_lt, e2] at c4; rw [i_le, e2]; omega)]
  dsimp only
  unfold fX0_goToStep
  have hT2 := h.2.1.2.1
  have ha : 0 ≤ a.toInt := by rw [i_lt, t0] at c1; omega
  have hC2 : bput (fX7_putAside (Z 12)) 0 2 a 0 2 = a := bput_h
  have hRB : RB m M T (Z 0) (bput (fX7_putAside (Z 12)) 0 2 a 1) := RB_c (pa_RB h) (fun _ _ _ => rfl) fun q _ => if_neg (by omega)
  obtain ⟨d1, d2⟩ := d_ns hm (b := T) (by omega) 5001 hRB (by rw [hC2]; exact ha) (Nat.le_refl _) (by omega) (by omega)
  rw [Nat.sub_self, Nat.sub_zero, hC2] at d2
  rw [Nat.sub_self, Nat.sub_zero] at d1
  rw [hT2]
  unfold stepMax stepNear gX7_ns
  generalize LX7_ns 5000 0 (bput (fX7_putAside (Z 12)) 0 2 a) = R at *
  generalize LX0_go (nI T) 5001 (Z 0) a = P at *
  have hx : xC (Z 12) (fX7_putBack (bput R.2 0 2 (-1))) := by
    refine pb_x (C := Z 12) (D := Z 12) ?_ (fun j hj => ?_) (fun q q2 q3 q4 => ?_) bput_h
    · rw [bput_off (by decide), d1.1 2 (by decide) (by decide), bput_off (by decide)]
    · rw [bput_off (by omega), d1.1 j (by omega) (by omega), bput_off (by omega), hpa j (by omega)]
    · rw [bput_q q2, d1.2.1 q q2 q3 q4, bput_q q2, hpa 0 (by decide)]
  have h3 : fX7_putBack (bput R.2 0 2 (-1)) 0 3 = R.2 0 3 := by
    unfold fX7_putBack
    rw [rcq_j (by decide), bput_q (by decide)]
  have h4 : fX7_putBack (bput R.2 0 2 (-1)) 0 4 = R.2 0 4 := by
    unfold fX7_putBack
    rw [rcq_j (by decide), bput_q (by decide)]
  generalize fX7_putBack (bput R.2 0 2 (-1)) = F at *
  have hw : ∀ B : wB, ∀ i, i ≠ 1 → wset Z 1 B i = Z i := fun B i hi => if_neg hi
  rcases d2 with ⟨k1, k2⟩ | ⟨s, E, k1, k2, k3, k4, k5, k6, k7, k8, k9, k10⟩
  · have hp0 : (0 : Int32) ≤ R.2 0 2 := by rw [i_le, t0]; exact k1
    rw [k2, if_neg (show ¬ hX0_find P.1 (-6) from fun q => q.1 (by decide)), if_pos hp0]
    unfold gX7_nsC
    rw [if_pos rfl]
    exact ⟨rfl, hw _, hx⟩
  · have hp0 : ¬ (0 : Int32) ≤ R.2 0 2 := by rw [k1]; decide
    rw [k5, if_pos ((find_nI k6 hm (by omega)).mpr k2), if_neg hp0]
    unfold gX7_nsC
    rw [if_neg i32_10]
    by_cases b0 : b = 0
    · rw [if_pos b0, if_pos b0]
      refine ⟨?_, hw _, hx⟩
      dsimp only
      rw [k7, k8, i_eq, nI_ti (by omega), ti_sub (by rw [nI_ti (by omega), nI_ti (by omega)]; omega) (by rw [nI_ti (by omega), nI_ti (by omega)]; omega), nI_ti (by omega), nI_ti (by omega)]
      omega
    rw [if_neg b0, if_neg b0]
    by_cases b1 : b = 1
    · rw [if_pos b1, if_pos b1]
      exact ⟨by dsimp only; rw [h3, k9], hw _, hx⟩
    rw [if_neg b1, if_neg b1, h4, k10, nI_clamp (by omega)]
    by_cases g : fX3_grips P.1 (P.1 (3 + s) 6) (P.1 (3 + s) 1) = 0
    · rw [if_pos g, if_pos g, if_neg i32_10]
      exact ⟨rfl, hw _, hx⟩
    · rw [if_neg g, if_neg g, if_pos rfl]
      exact ⟨rfl, hw _, hx⟩

/-! pass -/
/-- up to the event, and the event -/
theorem d_event {m M T E : Nat} {B C : wB} (h : RB m M T B (C 1)) (hE : fX0_nextEvent B = nI E) (hE2 : E ≤ 125000) :
    T < E ∧ (fX0_makeSteps (fX0_arriveAt B (nI E))).2 = (fX7_ticks (tkI (E - 1 - T) C)).2 ∧ (∃ M', RB m M' E (fX0_makeSteps (fX0_arriveAt B (nI E))).1 ((fX7_ticks (tkI (E - 1 - T) C)).1 1)) ∧ kC C (fX7_ticks (tkI (E - 1 - T) C)).1 ∧
    (0 ≤ (C 0 2).toInt → gG (tkI (E - 1 - T) C) (fX7_ticks (tkI (E - 1 - T) C)).1 (fX0_arriveAt B (nI E)) m (LX0_due (fX0_arriveAt B (nI E)) 4 0 (C 0 2)) ∧ tkI (E - 1 - T) C 0 2 = C 0 2) ∧
    ∀ v x, LX7_ps (E - T + v) C x = LX7_ps v (fX7_ticks (tkI (E - 1 - T) C)).1 (x + (fX7_ticks (tkI (E - 1 - T) C)).2) := by
  have hlt := (ev_spec h).1
  rw [hE, nI_ti (by omega)] at hlt
  have hTE : T < E := by omega
  obtain ⟨q1, q2, q3, q4⟩ := d_quiet (E - 1 - T) h (by omega) (by rw [hE, nI_ti (by omega)]; omega)
  rw [show T + (E - 1 - T) = E - 1 by omega] at q1
  obtain ⟨t1', t2, t3, t4⟩ := d_tick q1 (by omega)
  rw [show E - 1 + 1 = E by omega, ar_c] at t1' t2 t4
  have hk := kC_tick q1 (by omega)
  refine ⟨hTE, t1', t2, kC_trans q2 hk, fun h0 => ⟨?_, q3 h0⟩, fun v x => ?_⟩
  · rw [q3 h0] at t4; exact t4
  · rw [show E - T + v = (E - 1 - T) + (v + 1) by omega, q4]
    rfl
theorem d_ps {m Te : Nat} (hTe : Te ≤ 125000) : ∀ (u : Nat) {M T : Nat} {B C : wB} (x : Int32), RB m M T B (C 1) → T ≤ Te → Te - T ≤ u →
    (∃ M', RB m M' Te (gX0_passEnd (nI Te) (LX0_pass (nI Te) u B x)).1 ((LX7_ps (Te - T) C x).1 1)) ∧ (LX0_pass (nI Te) u B x).2 = (LX7_ps (Te - T) C x).2 ∧ kC C (LX7_ps (Te - T) C x).1 := by
  intro u
  induction u with
  | zero =>
    intro M T B C x h h1 h2
    have hT : Te = T := by omega
    subst hT
    rw [Nat.sub_self]
    refine ⟨⟨M, RB_c h (fun j q _ => ?_) fun _ _ => rfl⟩, rfl, kC_refl C⟩
    show bput B 0 2 (nI Te) j q = B j q
    unfold bput
    by_cases c : j = 0 ∧ q = 2
    · rw [if_pos c, c.1, c.2, h.2.1.2.1]
    · rw [if_neg c]
  | succ u ih =>
    intro M T B C x h h1 h2
    simp only [LX0_pass]
    have hlt := (ev_spec h).1
    by_cases c : nI Te < fX0_nextEvent B
    · rw [if_pos c]
      rw [i_lt, nI_ti (by omega)] at c
      obtain ⟨q1, q2, q3, q4⟩ := d_quiet (Te - T) h (by omega) (by omega)
      rw [show T + (Te - T) = Te by omega] at q1
      have q5 := q4 0 x
      rw [Nat.add_zero] at q5
      rw [q5]
      exact ⟨⟨M, q1⟩, rfl, q2⟩
    · rw [if_neg c]
      rw [i_lt, nI_ti (by omega)] at c
      have hE := i_nn (x := fX0_nextEvent B) (by omega)
      have hE2 := (tn_of (a := fX0_nextEvent B) (by omega)).2
      generalize (fX0_nextEvent B).toNatClampNeg = E at *
      obtain ⟨e1, e2, ⟨M', e3⟩, e4, -, e6⟩ := d_event h hE.symm (by omega)
      rw [← hE, e2, show Te - T = E - T + (Te - E) by omega, e6]
      obtain ⟨i1, i2, i3⟩ := ih (x + (fX7_ticks (tkI (E - 1 - T) C)).2) e3 (by omega) (by omega)
      exact ⟨i1, i2, kC_trans e4 i3⟩
theorem d_pass {m M T : Nat} {B C : wB} (h : RB m M T B (C 1)) (hp : (C 0 2).toInt < 0) (a : Int32) : rO C (fX0_passTicks B a) (fX7_passes C a) := by
  unfold fX0_passTicks fX7_passes
  rw [in_in]
  by_cases c1 : a < 1
  · rw [if_pos c1, if_pos c1, if_pos rfl]; exact rO_self h _
  have e9 : (999 : Int32).toInt = 999 := by decide
  rw [if_neg c1, if_neg c1]
  by_cases c2 : (999 : Int32) < a
  · rw [if_pos c2, if_pos rfl, if_neg (by rw [i_lt, e9] at c2; rw [i_le, e9]; omega)]; exact rO_self h _
  rw [if_neg c2, if_neg i32_10, if_pos (by rw [i_lt, e9] at c2; rw [i_le, e9]; omega)]
  rw [i_lt, t1] at c1
  rw [i_lt, e9] at c2
  have ha := i_nn (x := a) (by omega)
  have ha2 := (tn_of (a := a) (by omega)).2
  have hT := h.2.1.2.2
  rw [h.2.1.1, h.2.1.2.1]
  generalize a.toNatClampNeg = A at *
  subst ha
  rw [nI_add]
  have e5 : (99999 : Int32).toInt = 99999 := by decide
  by_cases c3 : nI (T + A) ≤ 99999
  · rw [if_pos c3, if_pos c3]
    rw [i_le, nI_ti (by omega), e5] at c3
    obtain ⟨⟨M', p1⟩, p2, p3⟩ := d_ps (Te := T + A) (by omega) A 0 h (by omega) (by omega)
    rw [show T + A - T = A by omega] at p1 p2 p3
    refine ⟨p2, ⟨m, M', T + A, p1⟩, fun j hj => ?_⟩
    by_cases c : j = 0
    · subst c; funext q; exact p3.2.2 hp q
    · exact p3.1 j c hj
  · rw [if_neg c3, if_neg c3]
    exact rO_self h _

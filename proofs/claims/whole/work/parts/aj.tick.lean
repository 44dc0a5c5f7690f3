/-! a tick: the shafts that are due make their steps -/
theorem ms_off (n : Nat) (B : wB) (t : Int32) {j : Nat} (h : j ≠ 3 + n) (q : Nat) : fX5_makeStep n B t j q = B j q := by
  have h1 : ∀ x a b, cCt B n x a b j q = B j q := fun x a b => by
    unfold cCt
    rw [bput_j h, bput_j h, bput_j h, bput_j h, bput_j h]
  have h2 : ∀ (B1 : wB) y z, cSt B1 n t y z j q = B1 j q := fun B1 y z => by
    unfold cSt
    by_cases c : fX5_moves n B1 = 0
    · rw [if_pos c, bput_j h]
    · rw [if_neg c, bput_j h, bput_j h]
  rw [st_c]
  by_cases c : fX3_grips B (B (3 + n) 6) (B (3 + n) 1) = 0
  · rw [if_pos c, h2, h1]
  · rw [if_neg c, h2, h1]
theorem due_nI {B C : wB} {m T k : Nat} (h : tP m T k B (C 1)) (hk : k < m) : fX0_isDue B (nI k) = if C 1 (7 + 14 * k + 5) = 0 then 0 else if C 1 (7 + 14 * k + 7) = nI T then 1 else 0 := by
  obtain ⟨⟨a1, a2, a3⟩, ⟨b1, b2, b3⟩, -, e, -⟩ := h
  obtain ⟨e1, -, e3⟩ := e k hk
  unfold fX0_isDue
  dsimp only
  rw [if_pos ((find_nI a2 a3 (by omega)).mpr hk), nI_clamp (by omega)]
  rcases q_restsg e1 (e3 (Nat.le_refl _)) with ⟨f1, f2, f3⟩ | ⟨f1, f2, f3⟩
  · rw [f2, if_neg i32_10, if_neg f3, (e1.2.2.2.2.2.2.2.2.2.1 f3).2, b2]
  · rw [f2, if_pos rfl, if_pos f3]
theorem due_no {B : wB} {m k : Nat} (h : B 0 0 = nI m) (hm : m ≤ 4) (hk : m ≤ k) (hk4 : k < 4) : fX0_isDue B (nI k) = 0 := by
  unfold fX0_isDue
  dsimp only
  rw [if_neg (fun q => by have := (find_nI h hm hk4).mp q; omega)]
theorem mk_end {B : wB} {m : Nat} (h : B 0 0 = nI m) (hm : m ≤ 4) : ∀ (v k : Nat) (x : Int32), m ≤ k → k + v ≤ 4 → LX0_make v k B x = (B, x) := by
  intro v
  induction v with
  | zero => intro k x _ _; rfl
  | succ v ih =>
    intro k x h1 h2
    simp only [LX0_make]
    rw [if_pos (due_no h hm h1 (by omega))]
    exact ih _ _ (by omega) (by omega)
theorem du_end {B : wB} {m : Nat} (h : B 0 0 = nI m) (hm : m ≤ 4) : ∀ (v k : Nat) (x : Int32), m ≤ k → k + v ≤ 4 → LX0_due B v k x = (none, x) := by
  intro v
  induction v with
  | zero => intro k x _ _; rfl
  | succ v ih =>
    intro k x h1 h2
    simp only [LX0_due]
    rw [if_pos (due_no h hm h1 (by omega))]
    exact ih _ _ (by omega) (by omega)
theorem du_c {B B' : wB} {n : Nat} (hB : ∀ j q, j ≠ 3 + n → j ≠ 7 + n → B' j q = B j q) : ∀ (v k : Nat) (x : Int32), n < k → k + v ≤ 4 → LX0_due B' v k x = LX0_due B v k x := by
  intro v
  induction v with
  | zero => intro k x _ _; rfl
  | succ v ih =>
    intro k x h1 h2
    have e : fX0_isDue B' (nI k) = fX0_isDue B (nI k) := by
      unfold fX0_isDue hX0_find fX5_moves
      dsimp only
      rw [nI_clamp (show k < 2 ^ 31 by omega), hB 0 0 (by omega) (by omega), hB 0 2 (by omega) (by omega), hB (3 + k) 5 (by omega) (by omega), hB (3 + k) 7 (by omega) (by omega)]
    simp only [LX0_due]
    rw [e, ih _ _ (by omega) (by omega), ih _ _ (by omega) (by omega)]
theorem du_ge {B : wB} : ∀ (v k : Nat) (x : Int32) (s : Nat) (y : Int32), LX0_due B v k x = (some s, y) → k ≤ s ∧ s < k + v := by
  intro v
  induction v with
  | zero => intro k x s y h; exact absurd (congrArg Prod.fst h) (by simp [LX0_due])
  | succ v ih =>
    intro k x s y h
    simp only [LX0_due] at h
    by_cases c : fX0_isDue B (nI k) = 0
    · rw [if_pos c] at h
      have := ih _ _ _ _ h
      omega
    · rw [if_neg c] at h
      by_cases d : x = 0
      · rw [if_pos d] at h
        have : k = s := Option.some.inj (congrArg Prod.fst h)
        omega
      · rw [if_neg d] at h
        have := ih _ _ _ _ h
        omega
/-- what the steps of a tick do to the reference's search for a step -/
def gG (C E B : wB) (m : Nat) (r : Option Nat × Int32) : Prop :=
  (∀ q, q ≠ 2 → q ≠ 3 → q ≠ 4 → E 0 q = C 0 q) ∧ ((C 0 2).toInt < 0 → ∀ q, E 0 q = C 0 q) ∧ (0 ≤ (C 0 2).toInt → (∀ y, r = (none, y) → E 0 2 = y ∧ 0 ≤ y.toInt) ∧
    ∀ s y, r = (some s, y) → E 0 2 = -1 ∧ E 0 3 = nI s ∧ E 0 4 = if fX3_grips B (B (3 + s) 6) (B (3 + s) 1) = 0 then 1 else 0)
theorem tP_next {m T k : Nat} {B : wB} {S : Nat → Int32} (h : tP m T k B S) (hk : k < m) (hn : ¬ S (7 + 14 * k + 5) = 0 → ¬ S (7 + 14 * k + 7) = nI T) : tP m T (k + 1) B S := by
  obtain ⟨e1, -, e3⟩ := h.2.2.2.1 k hk
  have g := e3 (Nat.le_refl _)
  have hT := h.2.1.2.2
  refine tP_shaft h hk (fun _ _ _ _ => rfl) (fun _ _ => rfl) (fun i hi => by omega) e1 (fun _ => ?_) (fun q => absurd q (by omega))
  refine gS_to (e := 1) ⟨g.1, g.2.1, g.2.2.1, g.2.2.2.1, fun q => ?_⟩
  obtain ⟨g1, g2, g3⟩ := g.2.2.2.2 q
  have := hn q
  rw [i_eq, nI_ti (by omega)] at this
  exact ⟨g1, by omega, g3⟩
theorem d_tk {m T : Nat} (hT : T ≤ 125000) : ∀ (u k : Nat) (B C : wB) (x : Int32), tP m T k B (C 1) → k + u = m →
    (LX0_make (u + (4 - m)) k B x).2 = (LX7_tk u k C x).2 ∧ tP m T m (LX0_make (u + (4 - m)) k B x).1 ((LX7_tk u k C x).1 1) ∧ (∀ q, 63 ≤ q → (LX7_tk u k C x).1 1 q = C 1 q) ∧ (∀ j, j ≠ 0 → j ≠ 1 → (LX7_tk u k C x).1 j = C j) ∧
    (∀ j q, (j = 0 ∨ 11 ≤ j) → (LX0_make (u + (4 - m)) k B x).1 j q = B j q) ∧ gG C (LX7_tk u k C x).1 B m (LX0_due B (u + (4 - m)) k (C 0 2)) := by
  intro u
  induction u with
  | zero =>
    intro k B C x h hk
    have hm4 := h.1.2.2
    have hkm : k = m := by omega
    subst hkm
    rw [mk_end h.1.2.1 hm4 _ _ _ (Nat.le_refl _) (by omega), du_end h.1.2.1 hm4 _ _ _ (Nat.le_refl _) (by omega)]
    refine ⟨rfl, h, fun _ _ => rfl, fun _ _ _ => rfl, fun _ _ _ => rfl, fun _ _ _ _ => rfl, fun _ _ => rfl, fun h0 => ⟨fun y e => ?_, fun s y e => ?_⟩⟩
    · have : C 0 2 = y := congrArg Prod.snd e
      rw [← this]; exact ⟨rfl, h0⟩
    · exact absurd (congrArg Prod.fst e) (by simp)
  | succ u ih =>
    intro k B C x h hk
    have hm4 := h.1.2.2
    have hkm : k < m := by omega
    rw [show u + 1 + (4 - m) = u + (4 - m) + 1 by omega]
    simp only [LX0_make, LX7_tk, LX0_due]
    have hdue := due_nI h hkm
    have hT5 := h.2.1.1
    have hT2 := h.2.1.2.1
    unfold fX7_rests
    by_cases c : C 1 (7 + 14 * k + 5) = 0
    · rw [if_pos c] at hdue
      rw [if_pos hdue, if_pos hdue, if_pos c, if_neg i32_10]
      exact ih (k + 1) B C x (tP_next h hkm fun q => absurd c q) (by omega)
    · rw [if_neg c] at hdue
      rw [if_neg c, if_pos rfl]
      by_cases d : C 1 (7 + 14 * k + 7) = nI T
      · rw [if_pos d] at hdue
        rw [hdue, if_neg i32_10, if_neg i32_10, if_pos (d.trans hT5.symm), hT2, ms_off k B _ (show 0 ≠ 3 + k by omega), hT2]
        obtain ⟨e1, -, e3⟩ := h.2.2.2.1 k hkm
        have g := e3 (Nat.le_refl _)
        obtain ⟨s1, s2, s3, s4, s5⟩ := d_step hT h.2.2.1.1 h.2.2.1.2 hT5 e1 g c
        have hgr : fX3_grips B (B (3 + k) 6) (B (3 + k) 1) = fX3_grips B (B (3 + k) 6) (B (3 + k) 1) := rfl
        generalize hB1 : fX5_beginWaiting k (fX5_makeStep k B (nI T)) (nI T) = B1 at *
        generalize hC1 : fX7_steps C k = C1 at *
        have hP2 : tP m T (k + 1) B1 (C1 1) := tP_shaft h hkm s5 s3 (fun i hi => by omega) s1 (fun _ => s2) (fun q => absurd q (by omega))
        obtain ⟨i1, i2, i3, i4, i5, i6, i7, i8⟩ := ih (k + 1) B1 C1 (x + 1) hP2 (by omega)
        generalize LX0_make (u + (4 - m)) (k + 1) B1 (x + 1) = P at *
        generalize LX7_tk u (k + 1) C1 (x + 1) = R at *
        have hC0 := s4 0 (by decide)
        refine ⟨i1, i2, fun q hq => (i3 q hq).trans (s3 q (by omega)), fun j j0 j1 => ?_, fun j q hj => (i5 j q hj).trans (s5 j q (by omega) (by omega)), ?_⟩
        · rw [i4 j j0 j1, s4 j j1]
          unfold mG0
          by_cases c0 : C 0 2 = 0
          · rw [if_pos c0, bput_off j0, bput_off j0, bput_off j0]
          · rw [if_neg c0, bput_off j0]
        · by_cases z : C 0 2 = 0
          · have y : ¬ (0 : Int32) = 0 → False := fun q => q rfl
            have q2 : C1 0 2 = -1 := by
              rw [hC0]; unfold mG0
              rw [if_pos z, bput_h, z, if_pos (by decide)]; decide
            have q3 : C1 0 3 = nI k := by
              rw [hC0]; unfold mG0
              rw [if_pos z, bput_q (by decide), bput_q (by decide), bput_h]
            have q4 : C1 0 4 = if fX3_grips B (B (3 + k) 6) (B (3 + k) 1) = 0 then 1 else 0 := by
              rw [hC0]; unfold mG0
              rw [if_pos z, bput_q (by decide), bput_h]
            have q0 : ∀ q, q ≠ 2 → q ≠ 3 → q ≠ 4 → C1 0 q = C 0 q := fun q q2 q3 q4 => by
              rw [hC0]; unfold mG0
              rw [if_pos z, bput_q q2, bput_q q4, bput_q q3]
            have hE := i7 (by rw [q2]; decide)
            rw [if_pos z]
            refine ⟨fun q h1 h2 h3 => by rw [hE q, q0 q h1 h2 h3], fun q => ?_, fun _ => ⟨fun y e => ?_, fun s y e => ?_⟩⟩
            · rw [z, t0] at q; omega
            · exact absurd (congrArg Prod.fst e) (by simp)
            · have : k = s := Option.some.inj (congrArg Prod.fst e)
              subst this
              rw [hE, hE, hE]
              exact ⟨q2, q3, q4⟩
          · rw [if_neg z]
            have q0 : ∀ q, q ≠ 2 → C1 0 q = C 0 q := fun q q2 => by
              rw [hC0]; unfold mG0
              rw [if_neg z, bput_q q2]
            by_cases p : 0 ≤ C 0 2
            · have q2 : C1 0 2 = C 0 2 + -1 := by
                rw [hC0]; unfold mG0
                rw [if_neg z, if_pos p, bput_h, Int32.sub_eq_add_neg]
              have hz : (C 0 2 + -1).toInt = (C 0 2).toInt - 1 := by
                have em : (-1 : Int32).toInt = -1 := by decide
                rw [i_le, t0] at p
                have := Int32.toInt_lt (C 0 2)
                exact (ti_add (by rw [em]; omega) (by rw [em]; omega)).trans (by rw [em]; rfl)
              rw [i_le, t0] at p
              rw [i_eq, t0] at z
              rw [q2, du_c s5 _ _ _ (by omega) (by omega)] at i8
              obtain ⟨k1, k2⟩ := i8 (by omega)
              refine ⟨fun q h1 h2 h3 => by rw [i6 q h1 h2 h3, q0 q h1], fun q => by omega, fun _ => ⟨k1, fun s y e => ?_⟩⟩
              have hs := du_ge _ _ _ _ _ e
              have := k2 s y e
              rw [gr_c fun q => s5 1 q (by omega) (by omega), s5 (3 + s) 6 (by omega) (by omega), s5 (3 + s) 1 (by omega) (by omega)] at this
              exact this
            · have q2 : C1 0 2 = C 0 2 := by
                rw [hC0]; unfold mG0
                rw [if_neg z, if_neg p, bput_h]; exact Int32.sub_zero _
              rw [i_le, t0] at p
              have hE := i7 (by rw [q2]; omega)
              have hq : ∀ q, R.1 0 q = C 0 q := fun q => by
                rw [hE q]
                by_cases e : q = 2
                · subst e; exact q2
                · exact q0 q e
              exact ⟨fun q _ _ _ => hq q, fun _ => hq, fun q => absurd q p⟩
      · rw [if_neg d] at hdue
        rw [if_pos hdue, if_pos hdue, if_neg (fun q => d (q.trans hT5))]
        exact ih (k + 1) B C x (tP_next h hkm fun _ => d) (by omega)
theorem d_tick {m M T : Nat} {B C : wB} (h : RB m M T B (C 1)) (hT : T + 1 ≤ 125000) :
    (fX0_makeSteps (fX0_arriveAt B (nI (T + 1)))).2 = (fX7_ticks C).2 ∧ (∃ M', RB m M' (T + 1) (fX0_makeSteps (fX0_arriveAt B (nI (T + 1)))).1 ((fX7_ticks C).1 1)) ∧ (∀ j, j ≠ 0 → j ≠ 1 → (fX7_ticks C).1 j = C j) ∧
    gG C (fX7_ticks C).1 (fX0_arriveAt B (nI (T + 1))) m (LX0_due (fX0_arriveAt B (nI (T + 1))) 4 0 (C 0 2)) := by
  have hm4 := h.1.2.2
  obtain ⟨M', p1, p2, p3⟩ := d_arr h hT
  unfold fX7_ticks gX7_tk fX0_makeSteps
  generalize fX7_plansCome (bput C 1 5 (C 1 5 + 1)) = C1 at *
  generalize fX0_arriveAt B (nI (T + 1)) = B1 at *
  rw [p1.1.1, nI_clamp (show m < 2 ^ 31 by omega)]
  obtain ⟨i1, i2, i3, i4, i5, i6⟩ := d_tk hT m 0 B1 C1 0 p1 (by omega)
  rw [show m + (4 - m) = 4 by omega] at *
  refine ⟨i1, ⟨M', tP_RB i2 ?_⟩, fun j j0 j1 => (i4 j j0 j1).trans (p3 j j1), ?_⟩
  · obtain ⟨⟨l1, l2, l3⟩, l4, l5⟩ := p2
    have hp : plM ((LX7_tk m 0 C1 0).1 1) M' = plM (C1 1) M' := plM_c fun q h1 h2 => i3 q (by omega)
    have hc : plC (LX0_make 4 0 B1 0).1 M' = plC B1 M' := plC_c fun q hq => ⟨i5 _ _ (by omega), i5 _ _ (by omega), i5 _ _ (by omega)⟩
    refine ⟨⟨by rw [i3 63 (by decide)]; exact l1, by rw [i5 0 1 (by omega)]; exact l2, l3⟩, by rw [hp, hc]; exact l4, by rw [hp]; exact l5⟩
  · have h0 := p3 0 (by decide)
    unfold gG at i6 ⊢
    rw [h0] at i6
    exact i6

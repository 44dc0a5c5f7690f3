/-! restsIn: the class goes by events on its trial bench, the reference by ticks -/
theorem io_spec {C : wB} {s : Nat} : ∀ (u k : Nat) (x : Int32), x = 0 ∨ x = 1 → (LX7_io C s u k x = 0 ↔ x = 0 ∨ ∃ i, k ≤ i ∧ i < k + u ∧ C 1 (64 + 3 * i + 1) = nI s) := by
  intro u
  induction u with
  | zero =>
    intro k x hx
    simp only [LX7_io]
    constructor
    · exact fun h => Or.inl h
    · rintro (h | ⟨i, h1, h2, -⟩)
      · exact h
      · omega
  | succ u ih =>
    intro k x hx
    simp only [LX7_io]
    by_cases c : x = 0
    · rw [if_pos c, ih _ _ (Or.inl rfl)]
      exact ⟨fun _ => Or.inl c, fun _ => Or.inl rfl⟩
    · rw [if_neg c]
      by_cases d : C 1 (64 + 3 * k + 1) = nI s
      · rw [if_pos d, ih _ _ (Or.inl rfl)]
        exact ⟨fun _ => Or.inr ⟨k, by omega, by omega, d⟩, fun _ => Or.inl rfl⟩
      · rw [if_neg d, ih _ _ (Or.inr rfl)]
        constructor
        · rintro (h | ⟨i, h1, h2, h3⟩)
          · exact absurd h i32_10
          · exact Or.inr ⟨i, by omega, by omega, h3⟩
        · rintro (h | ⟨i, h1, h2, h3⟩)
          · exact absurd h c
          · by_cases e : i = k
            · subst e; exact absurd h3 d
            · exact Or.inr ⟨i, by omega, by omega, h3⟩
theorem has_spec {B : wB} {M : Nat} {a : Int32} (h : B 0 1 = nI M) (hM : M ≤ 12) : ∀ u k : Nat, k + u = 12 → (LX0_has B a u k = 0 ↔ ∀ i, k ≤ i → i < M → ¬ B 12 i = a) := by
  intro u
  induction u with
  | zero =>
    intro k hk
    exact ⟨fun _ i h1 h2 => by omega, fun _ => rfl⟩
  | succ u ih =>
    intro k hk
    simp only [LX0_has]
    by_cases c : M ≤ k
    · rw [if_pos (by rw [h, nI_leI (by omega) (by omega)]; exact c)]
      exact ⟨fun _ i h1 h2 => by omega, fun _ => rfl⟩
    · rw [if_neg (by rw [h, nI_leI (by omega) (by omega)]; exact c)]
      by_cases d : B 12 k = a
      · rw [if_pos d]
        exact ⟨fun q => absurd q i32_10, fun q => absurd d (q k (Nat.le_refl _) (by omega))⟩
      · rw [if_neg d, ih _ (by omega)]
        constructor
        · intro q i h1 h2
          by_cases e : i = k
          · subst e; exact d
          · exact q i (by omega) h2
        · exact fun q i h1 h2 => q i (by omega) h2
theorem ov_eq {m M T s : Nat} {B C : wB} (h : RB m M T B (C 1)) (hs : s < m) : fX7_isOver C s = 0 ↔ ¬ (fX5_moves s B = 0 ∧ fX0_hasPlan B (nI s) = 0) := by
  obtain ⟨-, -, ⟨c1, c2, c3⟩, -, e, -, g, -⟩ := h
  obtain ⟨e1, e2⟩ := e s hs
  have hplan : (∃ i, 0 ≤ i ∧ i < 0 + M ∧ C 1 (64 + 3 * i + 1) = nI s) ↔ ¬ fX0_hasPlan B (nI s) = 0 := by
    unfold fX0_hasPlan
    rw [has_spec c2 c3 12 0 rfl]
    have hmem : ∀ x, x ∈ plC B M ↔ x ∈ plM (C 1) M := fun x => by rw [g]; exact pSort_mem _ _
    constructor
    · rintro ⟨i, -, h2, h3⟩ q
      have h4 := plM_get (C 1) M i
      rw [if_pos (by omega)] at h4
      have h5 := (hmem _).mpr (List.mem_of_getElem? h4)
      obtain ⟨k, h6⟩ := List.mem_iff_getElem?.mp h5
      rw [plC_get] at h6
      by_cases c : k < M
      · rw [if_pos c] at h6
        have h7 : B 12 k = C 1 (64 + 3 * i + 1) := congrArg (fun x => x.2.1) (Option.some.inj h6)
        exact q k (by omega) c (h7.trans h3)
      · rw [if_neg c] at h6; exact absurd h6 (by simp)
    · intro q
      apply Classical.byContradiction
      intro hn
      apply q
      intro k _ hk h1
      have h4 := plC_get B M k
      rw [if_pos hk] at h4
      have h5 := (hmem _).mp (List.mem_of_getElem? h4)
      obtain ⟨i, h6⟩ := List.mem_iff_getElem?.mp h5
      rw [plM_get] at h6
      by_cases c : i < M
      · rw [if_pos c] at h6
        have h7 : C 1 (64 + 3 * i + 1) = B 12 k := congrArg (fun x => x.2.1) (Option.some.inj h6)
        exact hn ⟨i, by omega, by omega, h7.trans h1⟩
      · rw [if_neg c] at h6; exact absurd h6 (by simp)
  unfold fX7_isOver
  rw [c1, nI_clamp (by omega)]
  rcases q_rests e1 e2 with ⟨f1, f2, f3⟩ | ⟨f1, f2, f3⟩
  · rw [f1, if_pos rfl, f2, io_spec _ _ _ (Or.inl rfl)]
    exact ⟨fun _ q => i32_10 q.1, fun _ => Or.inl rfl⟩
  · rw [f1, if_neg i32_10, (e2.2.2.2.2.1 f3).2, if_pos rfl, f2, io_spec _ _ _ (Or.inr rfl), hplan]
    constructor
    · rintro (q | q)
      · exact absurd q i32_10
      · exact fun h => q h.2
    · exact fun q => Or.inr fun h => q ⟨rfl, h⟩
theorem has_c (B : wB) (v a : Int32) : ∀ u k : Nat, LX0_has (bput B 0 2 v) a u k = LX0_has B a u k := by
  intro u
  induction u with
  | zero => intro k; rfl
  | succ u ih =>
    intro k
    simp only [LX0_has]
    rw [ih, show bput B 0 2 v 0 1 = B 0 1 from if_neg (by omega), show bput B 0 2 v 12 k = B 12 k from if_neg (by omega)]
theorem ri_quiet {s : Nat} : ∀ (j : Nat) {m M T : Nat} {B C : wB}, RB m M T B (C 1) → s < m → T + j ≤ 125000 → ((T + j : Nat) : Int) < (fX0_nextEvent B).toInt → fX7_isOver C s = 0 →
    fX7_isOver (tkI j C) s = 0 ∧ ∀ v k, LX7_ri s (j + v) k C = LX7_ri s v (k + j) (tkI j C) := by
  intro j
  induction j with
  | zero => intro m M T B C h hs hT he ho; exact ⟨ho, fun v k => by rw [Nat.zero_add]; rfl⟩
  | succ j ih =>
    intro m M T B C h hs hT he ho
    obtain ⟨q1, -, -, -⟩ := d_quiet 1 h (by omega) (by omega)
    have ho1 : fX7_isOver (fX7_ticks C).1 s = 0 := by
      refine (ov_eq (C := (fX7_ticks C).1) q1 hs).mpr fun q => (ov_eq h hs).mp ho ⟨?_, ?_⟩
      · rw [← q.1]; unfold fX5_moves; rw [bput_j (by omega)]
      · rw [← q.2]; exact (has_c _ _ _ _ _).symm
    obtain ⟨i1, i2⟩ := ih (C := (fX7_ticks C).1) q1 hs (by omega) (by rw [ev_c]; omega) ho1
    refine ⟨i1, fun v k => ?_⟩
    rw [show j + 1 + v = (j + v) + 1 by omega]
    simp only [LX7_ri, tkI]
    rw [if_pos ho, i2, show k + 1 + j = k + (j + 1) by omega]
theorem d_ri {m s b : Nat} (hs : s < m) (hb : b ≤ 100000) : ∀ (u : Nat) {M T : Nat} {B C : wB}, RB m M T B (C 1) → b ≤ T → T ≤ b + 20000 → 20001 ≤ u + (T - b) →
    (LX0_rest s (nI s) (nI b) u B).2 = (if fX7_isOver (LX7_ri s (20000 - (T - b)) (T - b) C).2 s = 0 then -6 else nI (LX7_ri s (20000 - (T - b)) (T - b) C).1) ∧ kC C (LX7_ri s (20000 - (T - b)) (T - b) C).2 := by
  intro u
  induction u with
  | zero => intro M T B C h h1 h2 h3; omega
  | succ u ih =>
    intro M T B C h h1 h2 h3
    have hlt := (ev_spec h).1
    simp only [LX0_rest]
    have hov := ov_eq h hs
    by_cases c : fX5_moves s B = 0 ∧ fX0_hasPlan B (nI s) = 0
    · rw [if_pos c.1, if_pos c.2]
      have ho : ¬ fX7_isOver C s = 0 := fun q => hov.mp q c
      have hri : LX7_ri s (20000 - (T - b)) (T - b) C = (T - b, C) := by
        cases 20000 - (T - b) with
        | zero => rfl
        | succ v => simp only [LX7_ri]; rw [if_neg ho]
      rw [hri]
      dsimp only
      rw [if_neg ho]
      refine ⟨?_, kC_refl C⟩
      rw [h.2.1.2.1, i_eq, nI_ti (by omega), ti_sub (by rw [nI_ti (by omega), nI_ti (by omega)]; omega) (by rw [nI_ti (by omega), nI_ti (by omega)]; omega), nI_ti (by omega), nI_ti (by omega)]
      omega
    · have hgo : (if fX5_moves s B = 0 then (if fX0_hasPlan B (nI s) = 0 then (B, B 0 2 - nI b) else gX0_rest (nI b) (fX0_nextEvent B) B (LX0_rest s (nI s) (nI b) u (fX0_makeSteps (fX0_arriveAt B (fX0_nextEvent B))).1)) else gX0_rest (nI b) (fX0_nextEvent B) B (LX0_rest s (nI s) (nI b) u (fX0_makeSteps (fX0_arriveAt B (fX0_nextEvent B))).1)) = gX0_rest (nI b) (fX0_nextEvent B) B (LX0_rest s (nI s) (nI b) u (fX0_makeSteps (fX0_arriveAt B (fX0_nextEvent B))).1) := by
        by_cases d : fX5_moves s B = 0
        · rw [if_pos d, if_neg fun q => c ⟨d, q⟩]
        · rw [if_neg d]
      rw [hgo]
      have ho : fX7_isOver C s = 0 := hov.mpr c
      have heb : (fX0_nextEvent B - nI b).toInt = (fX0_nextEvent B).toInt - b := by
        have := Int32.toInt_lt (fX0_nextEvent B)
        rw [ti_sub (by rw [nI_ti (by omega)]; omega) (by rw [nI_ti (by omega)]; omega), nI_ti (by omega)]
      have e20 : (20000 : Int32).toInt = 20000 := by decide
      unfold gX0_rest
      by_cases d : fX0_nextEvent B - nI b ≤ 20000
      · rw [if_pos d]
        rw [i_le, heb, e20] at d
        have hE := i_nn (x := fX0_nextEvent B) (by omega)
        have hE2 := (tn_of (a := fX0_nextEvent B) (by omega)).2
        generalize (fX0_nextEvent B).toNatClampNeg = E at *
        obtain ⟨e1, e2, ⟨M', e3⟩, e4, -, -⟩ := d_event h hE.symm (by omega)
        obtain ⟨r1, r2⟩ := ri_quiet (s := s) (E - 1 - T) h hs (by omega) (by omega) ho
        obtain ⟨i1, i2⟩ := ih e3 (by omega) (by omega) (by omega)
        have hr : LX7_ri s (20000 - (T - b)) (T - b) C = LX7_ri s (20000 - (E - b)) (E - b) (fX7_ticks (tkI (E - 1 - T) C)).1 := by
          rw [show 20000 - (T - b) = (E - 1 - T) + ((20000 - (E - b)) + 1) by omega, r2]
          simp only [LX7_ri]
          rw [if_pos r1, show T - b + (E - 1 - T) + 1 = E - b by omega]
        rw [hr, ← hE]
        exact ⟨i1, kC_trans e4 i2⟩
      · rw [if_neg d]
        rw [i_le, heb, e20] at d
        obtain ⟨r1, r2⟩ := ri_quiet (s := s) (20000 - (T - b)) h hs (by omega) (by omega) ho
        obtain ⟨-, q2, -, -⟩ := d_quiet (20000 - (T - b)) h (by omega) (by omega)
        have hr := r2 0 (T - b)
        rw [Nat.add_zero] at hr
        have h0 : LX7_ri s 0 (T - b + (20000 - (T - b))) (tkI (20000 - (T - b)) C) = (T - b + (20000 - (T - b)), tkI (20000 - (T - b)) C) := rfl
        rw [hr, h0]
        dsimp only
        rw [if_pos r1]
        exact ⟨rfl, q2⟩

theorem bI_put {B : wB} {i M4 M : Nat} {v : Int32} (h : bI B M4 M) (hi : i = 5 ∨ (7 ≤ i ∧ i < 63 ∧ (i - 7) % 14 ≠ 0 ∧ (i - 7) % 14 ≠ 8)) : bI (bput B 1 i v) M4 M := by
  obtain ⟨⟨h1, h2, h3, h4, h5⟩, h6, h7, h8⟩ := h
  refine ⟨⟨(bput_q (by omega)).trans h1, h2, fun j hj => ?_, fun j hj => wb_put (h4 j hj) (by omega), ?_⟩, (bput_q (by omega)).trans h6, h7, fun p p1 p2 => ?_⟩
  · rw [bput_q (by omega)]; exact h3 j hj
  · rw [bput_q (by omega)]; exact h5
  · obtain ⟨j, hj, ej⟩ := h8 p p1 p2
    exact ⟨j, hj, (bput_q (by omega)).trans ej⟩
theorem bI_putw {B : wB} {k M4 M : Nat} {v : Int32} (hk : k < 4) (h : bI B M4 M) (hv : 0 ≤ v.toInt ∧ v.toInt ≤ 3) : bI (bput B 1 (7 + 14 * k + 8) v) M4 M := by
  obtain ⟨⟨h1, h2, h3, h4, h5⟩, h6, h7, h8⟩ := h
  refine ⟨⟨(bput_q (by omega)).trans h1, h2, fun j hj => ?_, fun j hj => ?_, ?_⟩, (bput_q (by omega)).trans h6, h7, fun p p1 p2 => ?_⟩
  · rw [bput_q (by omega)]; exact h3 j hj
  · by_cases e : j = k
    · subst e
      unfold WB
      rw [bput_h]; exact hv
    · exact wb_put (h4 j hj) (by omega)
  · rw [bput_q (by omega)]; exact h5
  · obtain ⟨j, hj, ej⟩ := h8 p p1 p2
    exact ⟨j, hj, (bput_q (by omega)).trans ej⟩
theorem bI_se {B C : wB} {k M4 M : Nat} (hk : k < 4) (h : bI B M4 M) (hs : SE k B C) (hw : WB k C) : bI C M4 M := ⟨tI_se hk h.1 hs hw, (hs.1 63 (by omega)).trans h.2.1, h.2.2.1, pI_se hk h.2.2.2 hs⟩
theorem bI_j {B : wB} {j i M4 M : Nat} {v : Int32} (h : bI B M4 M) (hj : j ≠ 1) : bI (bput B j i v) M4 M := mI_row h (fun q _ => bput_j (by omega))
theorem hm_of {B : wB} {M4 M : Nat} (h : bI B M4 M) : 0 ≤ (B 1 6).toInt ∧ (B 1 6).toInt ≤ 4 := by
  have h4 := h.1.2.1
  rw [h.1.1, nI_toInt (by omega)]
  omega
theorem hmi_of {B : wB} {M4 M : Nat} (h : bI B M4 M) : ∀ k : Nat, (k : Int) < (B 1 6).toInt → ¬ B 1 (7 + 14 * k + 0) = 0 := by
  intro k hk
  have h4 := h.1.2.1
  rw [h.1.1, nI_toInt (by omega)] at hk
  exact h.1.2.2.1 k (by omega)
theorem hw_of {B : wB} {M4 M : Nat} (h : bI B M4 M) : ∀ k : Nat, k < 4 → ¬ B 1 (7 + 14 * k + 8) < 0 ∧ (B 1 (7 + 14 * k + 8)).toInt ≤ 3 := fun k hk => ⟨(tn_of (h.1.2.2.2.1 k hk).1).1, (h.1.2.2.2.1 k hk).2⟩
theorem hp_of {B : wB} {M4 M : Nat} (h : bI B M4 M) : 0 ≤ (B 1 63).toInt ∧ (B 1 63).toInt ≤ 12 := by
  have h4 := h.2.2.1
  rw [h.2.1, nI_toInt (by omega)]
  omega
/-- some numbers of shafts and plans -/
def bJ (B : wB) : Prop := ∃ M4 M, bI B M4 M
/-- only the rows 0 (but for what steps meet) and 1 are another -/
def K0 (B C : wB) : Prop := (∀ q, (q < 2 ∨ 4 < q) → C 0 q = B 0 q) ∧ ∀ j q, 2 ≤ j → C j q = B j q
theorem k0_refl {B : wB} : K0 B B := ⟨fun _ _ => rfl, fun _ _ _ => rfl⟩
theorem k0_trans {B C D : wB} (h1 : K0 B C) (h2 : K0 C D) : K0 B D := ⟨fun q h => (h2.1 q h).trans (h1.1 q h), fun j q h => (h2.2 j q h).trans (h1.2 j q h)⟩
theorem k0_put {B C : wB} {i : Nat} {v : Int32} (h : K0 B C) : K0 B (bput C 1 i v) := ⟨fun q hq => (bput_j (by decide)).trans (h.1 q hq), fun j q hj => (bput_j (by omega)).trans (h.2 j q hj)⟩
theorem k0_se {B C : wB} {k : Nat} (h : SE k B C) : K0 B C := ⟨h.2.2, h.2.1⟩
theorem k0_rcp {B C : wB} {o n : Nat} {f : Nat → Int32} (h : K0 B C) : K0 B (rcp C 1 o f n) := ⟨fun q hq => (rcp_o (by decide)).trans (h.1 q hq), fun j q hj => (rcp_o (by omega)).trans (h.2 j q hj)⟩
theorem pr_ite {α β : Type} {P : α → Prop} {c : Prop} [Decidable c] {a b : α × β} (ha : P a.1) (hb : P b.1) : P (ite c a b).1 := by
  by_cases h : c
  · rw [if_pos h]; exact ha
  · rw [if_neg h]; exact hb
def OK (B C : wB) : Prop := bJ C ∧ K0 B C
theorem ok_refl {B : wB} {M4 M : Nat} (h : bI B M4 M) : OK B B := ⟨⟨M4, M, h⟩, k0_refl⟩
theorem ok_loads {B : wB} {M4 M : Nat} {a b : Int32} (h : bI B M4 M) : OK B (fX7_loads B a b).1 := by
  by_cases e : fX7_isShaft B a = 0
  · rw [show (fX7_loads B a b).1 = B by simp only [fX7_loads]; rw [if_pos e]]
    exact ok_refl h
  · have hs := sh_ok (hm_of h) e
    refine pr_ite (P := OK B) (ok_refl h) (pr_ite (P := OK B) (ok_refl h) ⟨⟨M4, M, bI_put h (by omega)⟩, k0_put k0_refl⟩)
theorem ok_comes {B : wB} {M4 M k : Nat} {a : Int32} (hk : k < 4) (h : bI B M4 M) : OK B (fX7_comes B k a) := ⟨⟨M4, M, bI_se hk h (se_comes (hw_of h k hk).1) (wb_comes (h.1.2.2.2.1 k hk))⟩, k0_se (se_comes (hw_of h k hk).1)⟩
theorem ok_moves {B : wB} {M4 M : Nat} {a b : Int32} (h : bI B M4 M) : OK B (fX7_moves B a b).1 := by
  by_cases e : fX7_isShaft B a = 0
  · rw [show (fX7_moves B a b).1 = B by simp only [fX7_moves]; rw [if_pos e]]
    exact ok_refl h
  · have hs := sh_ok (hm_of h) e
    have hc : OK B (fX7_comes B a.toNatClampNeg b) := ok_comes hs.2.1 h
    exact pr_ite (P := OK B) (ok_refl h) (pr_ite (P := OK B) (ok_refl h) (pr_ite (P := OK B) (pr_ite (P := OK B) (ok_refl h) hc) hc))
theorem ok_stops {B : wB} {M4 M : Nat} {a : Int32} (h : bI B M4 M) : OK B (fX7_stops B a).1 := by
  by_cases e : fX7_isShaft B a = 0
  · rw [show (fX7_stops B a).1 = B by simp only [fX7_stops]; rw [if_pos e]]
    exact ok_refl h
  · have hs := sh_ok (hm_of h) e
    have h1 := bI_putw (v := 0) hs.2.1 (bI_put (v := 0) (i := 7 + 14 * a.toNatClampNeg + 11) (bI_put (v := 0) (i := 7 + 14 * a.toNatClampNeg + 10) (bI_put (v := 0) (i := 7 + 14 * a.toNatClampNeg + 9) h (by omega)) (by omega)) (by omega)) (by decide)
    exact pr_ite (P := OK B) (ok_refl h) (pr_ite (P := OK B) (pr_ite (P := OK B) ⟨⟨M4, M, h1⟩, k0_put (k0_put (k0_put (k0_put k0_refl)))⟩ ⟨⟨M4, M, bI_put h1 (by omega)⟩, k0_put (k0_put (k0_put (k0_put (k0_put k0_refl))))⟩) (ok_refl h))
theorem ok_homes {B : wB} {M4 M : Nat} {a : Int32} (h : bI B M4 M) : OK B (fX7_homes B a).1 := by
  by_cases e : fX7_isShaft B a = 0
  · rw [show (fX7_homes B a).1 = B by simp only [fX7_homes]; rw [if_pos e]]
    exact ok_refl h
  · have hs := sh_ok (hm_of h) e
    exact pr_ite (P := OK B) (ok_refl h) (pr_ite (P := OK B) (ok_refl h) ⟨⟨M4, M, bI_put h (by omega)⟩, k0_put k0_refl⟩)
theorem ok_plans {B : wB} {M4 M : Nat} {a b c : Int32} (h : bI B M4 M) : OK B (fX7_plans B a b c).1 := by
  by_cases e : fX7_isShaft B b = 0
  · rw [show (fX7_plans B a b c).1 = B by simp only [fX7_plans]; rw [if_pos e]]
    exact ok_refl h
  · have hs := sh_ok (hm_of h) e
    have hk : b.toNatClampNeg < M4 := by
      have h4 := h.1.2.1
      have h5 := hs.2.2
      rw [h.1.1, nI_toInt (by omega)] at h5
      omega
    have hM : (B 1 63).toNatClampNeg = M := by rw [h.2.1, nI_clamp (by have := h.2.2.1; omega)]
    by_cases e12 : B 1 63 = 12
    · exact pr_ite (P := OK B) (ok_refl h) (pr_ite (P := OK B) (ok_refl h) (pr_ite (P := OK B) (ok_refl h) (by rw [if_pos e12]; exact ok_refl h)))
    · have hlt : M < 12 := by have := (pl_lt (hp_of h) e12).2; omega
      refine pr_ite (P := OK B) (ok_refl h) (pr_ite (P := OK B) (ok_refl h) (pr_ite (P := OK B) (ok_refl h) (pr_ite (P := OK B) (ok_refl h) ?_)))
      rw [hM]
      dsimp only
      obtain ⟨h1, h6, h7, h8⟩ := h
      refine ⟨⟨M4, M + 1, tI_put (tI_put (tI_put (tI_put h1 (by omega)) (by omega)) (by omega)) (by omega), ?_, by omega, ?_⟩, k0_put (k0_put (k0_put (k0_put k0_refl)))⟩
      · rw [bput_h, bput_q (by omega), bput_q (by omega), bput_q (by omega), h6, nI_1]
      · intro p p1 p2
        by_cases hp : p = M
        · subst hp
          exact ⟨b.toNatClampNeg, hk, by rw [bput_q (by omega), bput_q (by omega), bput_h]⟩
        · obtain ⟨j, hj, ej⟩ := h8 p p1 (by omega)
          exact ⟨j, hj, by rw [bput_q (by omega), bput_q (by omega), bput_q (by omega), bput_q (by omega)]; exact ej⟩
theorem ok_trans {B C D : wB} (h1 : OK B C) (h2 : OK C D) : OK B D := ⟨h2.1, k0_trans h1.2 h2.2⟩
theorem k0_pc : ∀ (u k q : Nat) (B : wB), (∀ j, j < 4 → WB j B) → (∀ p, k ≤ p → p < k + u → ∃ j, j < 4 ∧ B 1 ((64 + (3 * p)) + 1) = nI j) → q ≤ k → k + u ≤ 12 → K0 B (LX7_pc u k q B).2 := by
  intro u
  induction u with
  | zero => exact fun k q B _ _ _ _ => k0_refl
  | succ u ih =>
    intro k q B hw hI hq hu
    simp only [LX7_pc]
    split
    · obtain ⟨j, hj, ej⟩ := hI k (Nat.le_refl k) (by omega)
      have e : (B 1 ((64 + (3 * k)) + 1)).toNatClampNeg = j := by rw [ej, nI_clamp (by omega)]
      rw [e]
      have hs := se_comes (k := j) (B := B) (a := B 1 ((64 + (3 * k)) + 2)) (tn_of (hw j hj).1).1
      refine k0_trans (k0_se hs) (ih (k + 1) q _ (fun i hi => ?_) (fun p p1 p2 => ?_) (by omega) (by omega))
      · by_cases e2 : i = j
        · subst e2; exact wb_comes (hw i hi)
        · have h6 := hw i hi
          unfold WB at h6 ⊢
          rw [hs.1 _ (by omega)]; exact h6
      · obtain ⟨i, hi, ei⟩ := hI p (by omega) (by omega)
        exact ⟨i, hi, (hs.1 _ (by omega)).trans ei⟩
    · refine k0_trans (k0_put (k0_put (k0_put k0_refl))) (ih (k + 1) (q + 1) _ (fun i hi => wb_put (wb_put (wb_put (hw i hi) (by omega)) (by omega)) (by omega)) (fun p p1 p2 => ?_) (by omega) (by omega))
      obtain ⟨i, hi, ei⟩ := hI p (by omega) (by omega)
      exact ⟨i, hi, by rw [bput_q (by omega), bput_q (by omega), bput_q (by omega)]; exact ei⟩
theorem ok_plansCome {B : wB} {M4 M : Nat} (h : bI B M4 M) : OK B (fX7_plansCome B) := by
  obtain ⟨M', h'⟩ := plansCome_mI h
  refine ⟨⟨M4, M', h'⟩, ?_⟩
  obtain ⟨hT, hM, h12, hI⟩ := h
  have e : (B 1 63).toNatClampNeg = M := by rw [hM, nI_clamp (by omega)]
  unfold fX7_plansCome gX7_pc
  rw [e]
  exact k0_put (k0_rcp (k0_pc M 0 0 B hT.2.2.2.1 (fun p p1 p2 => by obtain ⟨j, hj, ej⟩ := hI p p1 (by omega); exact ⟨j, by have := hT.2.1; omega, ej⟩) (Nat.le_refl 0) (by omega)))
theorem ok_tk {M4 M : Nat} : ∀ (u k : Nat) (C : wB) (x : Int32), k + u = M4 → bI C M4 M → OK C (LX7_tk u k C x).1 := by
  intro u
  induction u with
  | zero => exact fun k C x _ h => ok_refl h
  | succ u ih =>
    intro k C x hk h
    have h44 := h.1.2.1
    simp only [LX7_tk]
    split
    · split
      · exact ok_trans ⟨⟨M4, M, mI_steps (by omega) h⟩, k0_se se_steps⟩ (ih _ _ _ (by omega) (mI_steps (by omega) h))
      · exact ih _ _ _ (by omega) h
    · exact ih _ _ _ (by omega) h
theorem ok_ticks {B : wB} {M4 M : Nat} (h : bI B M4 M) : OK B (fX7_ticks B).1 := by
  have h5 := mI_put5 (v := B 1 5 + 1) h
  obtain ⟨M9, h9⟩ := plansCome_mI h5
  unfold fX7_ticks gX7_tk
  rw [h9.1.1, nI_clamp (by have := h9.1.2.1; omega)]
  exact ok_trans ⟨⟨M4, M, h5⟩, k0_put k0_refl⟩ (ok_trans (ok_plansCome h5) (ok_tk _ _ _ _ (Nat.zero_add _) h9))
theorem ok_ps : ∀ (u : Nat) (B : wB) (x : Int32), bJ B → OK B (LX7_ps u B x).1 := by
  intro u
  induction u with
  | zero => exact fun B x h => ⟨h, k0_refl⟩
  | succ u ih =>
    intro B x ⟨M4, M, h⟩
    have h1 := ok_ticks h
    exact ok_trans h1 (ih _ _ h1.1)
theorem ok_passes {B : wB} {M4 M : Nat} {a : Int32} (h : bI B M4 M) : OK B (fX7_passes B a).1 :=
  pr_ite (P := OK B) (ok_refl h) (pr_ite (P := OK B) (ok_ps _ _ _ ⟨M4, M, h⟩) (ok_refl h))

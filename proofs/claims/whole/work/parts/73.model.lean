/-- what a method of one shaft leaves as it was -/
def SE (k : Nat) (B C : wB) : Prop := (∀ q, (q < 7 + 14 * k + 2 ∨ 7 + 14 * k + 14 ≤ q) → C 1 q = B 1 q) ∧ (∀ j q, 2 ≤ j → C j q = B j q) ∧ ∀ q, (q < 2 ∨ 4 < q) → C 0 q = B 0 q
theorem se_refl {k : Nat} {B : wB} : SE k B B := ⟨fun _ _ => rfl, fun _ _ _ => rfl, fun _ _ => rfl⟩
theorem se_trans {k : Nat} {B C D : wB} (h1 : SE k B C) (h2 : SE k C D) : SE k B D := ⟨fun q h => (h2.1 q h).trans (h1.1 q h), fun j q h => (h2.2.1 j q h).trans (h1.2.1 j q h), fun q h => (h2.2.2 q h).trans (h1.2.2 q h)⟩
theorem se_put {k j p : Nat} {B C : wB} {v : Int32} (h : SE k B C) (hp : (j = 1 ∧ 7 + 14 * k + 2 ≤ p ∧ p < 7 + 14 * k + 14) ∨ (j = 0 ∧ 2 ≤ p ∧ p ≤ 4)) : SE k B (bput C j p v) := by
  refine ⟨fun q hq => ?_, fun j' q hj => ?_, fun q hq => ?_⟩
  · rw [← h.1 q hq]
    exact if_neg fun e => by omega
  · rw [← h.2.1 j' q hj]
    exact if_neg fun e => by omega
  · rw [← h.2.2 q hq]
    exact if_neg fun e => by omega
def WB (k : Nat) (C : wB) : Prop := 0 ≤ (C 1 (7 + 14 * k + 8)).toInt ∧ (C 1 (7 + 14 * k + 8)).toInt ≤ 3
theorem wb_put {k j p : Nat} {C : wB} {v : Int32} (h : WB k C) (hp : j ≠ 1 ∨ p ≠ 7 + 14 * k + 8) : WB k (bput C j p v) := by
  unfold WB
  rw [show (bput C j p v) 1 (7 + 14 * k + 8) = C 1 (7 + 14 * k + 8) from if_neg fun e => by omega]
  exact h
theorem se_begins {k : Nat} {B : wB} {a : Int32} : SE k B (fX7_begins B k a) := by
  simp only [fX7_begins]
  repeat' split
  all_goals exact se_put (se_put (se_put (se_put se_refl (by omega)) (by omega)) (by omega)) (by omega)
theorem wb_begins {k : Nat} {B : wB} {a : Int32} (h : WB k B) : WB k (fX7_begins B k a) := by
  unfold WB
  rw [begins_k (by omega)]
  exact h
theorem se_takes {k : Nat} {B : wB} : SE k B (fX7_takesFirst B k).1 := se_put (se_put (se_put (se_put se_refl (by omega)) (by omega)) (by omega)) (by omega)
theorem se_comes {k : Nat} {B : wB} {a : Int32} (h3 : ¬ B 1 (7 + 14 * k + 8) < 0) : SE k B (fX7_comes B k a) := by
  simp only [fX7_comes]
  split
  · split
    · exact se_refl
    · rename_i h1 h2
      have h4 := vp_lt (in_ge (N := 3) (M := 3) (by decide) (by decide) h3 h2)
      exact se_put (se_put se_refl (by omega)) (by omega)
  · exact se_begins
theorem wb_comes {k : Nat} {B : wB} {a : Int32} (h : WB k B) : WB k (fX7_comes B k a) := by
  simp only [fX7_comes]
  split
  · split
    · exact h
    · rename_i h1 h2
      have h0 := tn_of h.1
      have h4 := vp_lt (in_ge (N := 3) (M := 3) (by decide) (by decide) h0.1 h2)
      unfold WB at h ⊢
      rw [bput_h, bput_q (by omega), (ti_add (by rw [t1]; omega) (by rw [t1]; omega)).trans (by rw [t1])]
      omega
  · exact wb_begins h
theorem se_sw {k : Nat} : ∀ (u : Nat) (B : wB), SE k B (LX7_sw k u B) := by
  intro u
  induction u with
  | zero => exact fun B => se_refl
  | succ u ih =>
    intro B
    exact gen_ite (P := SE k B) se_refl (gen_ite (P := SE k B) se_refl (se_trans (se_trans se_takes se_begins) (ih _)))
theorem wb_sw {k : Nat} : ∀ (u : Nat) (B : wB), WB k B → WB k (LX7_sw k u B) := by
  intro u
  induction u with
  | zero => exact fun B h => h
  | succ u ih =>
    intro B h
    refine gen_ite (P := WB k) h ?_
    by_cases h1 : B 1 (7 + 14 * k + 8) ≤ 0
    · rw [if_pos h1]; exact h
    · rw [if_neg h1]
      have h2 := sw_w (k := k) (a := (fX7_takesFirst B k).2) h1
      unfold WB at h
      exact ih _ ⟨by omega, by omega⟩
set_option maxHeartbeats 4000000 in
theorem se_steps {k : Nat} {B : wB} : SE k B (fX7_steps B k) := by
  have leaf : ∀ {C : wB} {x : Int32}, SE k B C → SE k B (bput (bput C 1 (7 + 14 * k + 6) (fX7_nextLevel (B 1 (7 + 14 * k + 6)) (B 1 (7 + 14 * k + 5) - 1) (fX7_highestBy C (B 1 2)))) 1 (7 + 14 * k + 7) x) := fun h => se_put (se_put h (by omega)) (by omega)
  have swl : ∀ {C : wB}, SE k B C → SE k B (LX7_sw k 3 (bput C 1 (7 + 14 * k + 6) 0)) := fun h => se_trans (se_put h (by omega)) (se_sw 3 _)
  unfold fX7_steps
  refine gen_ite (P := SE k B) (gen_ite (P := SE k B) (gen_ite (P := SE k B) (gen_ite (P := SE k B) (leaf ?_) (swl ?_)) (gen_ite (P := SE k B) (leaf ?_) (swl ?_))) (gen_ite (P := SE k B) (gen_ite (P := SE k B) (leaf ?_) (swl ?_)) (gen_ite (P := SE k B) (leaf ?_) (swl ?_)))) (gen_ite (P := SE k B) (gen_ite (P := SE k B) (gen_ite (P := SE k B) (leaf ?_) (swl ?_)) (gen_ite (P := SE k B) (leaf ?_) (swl ?_))) (gen_ite (P := SE k B) (gen_ite (P := SE k B) (leaf ?_) (swl ?_)) (gen_ite (P := SE k B) (leaf ?_) (swl ?_))))
  all_goals repeat (first | exact se_refl | refine se_put ?_ (by omega))
set_option maxHeartbeats 4000000 in
theorem wb_steps {k : Nat} {B : wB} (hB : WB k B) : WB k (fX7_steps B k) := by
  have leaf : ∀ {C : wB} {x : Int32}, WB k C → WB k (bput (bput C 1 (7 + 14 * k + 6) (fX7_nextLevel (B 1 (7 + 14 * k + 6)) (B 1 (7 + 14 * k + 5) - 1) (fX7_highestBy C (B 1 2)))) 1 (7 + 14 * k + 7) x) := fun h => wb_put (wb_put h (by omega)) (by omega)
  have swl : ∀ {C : wB}, WB k C → WB k (LX7_sw k 3 (bput C 1 (7 + 14 * k + 6) 0)) := fun h => wb_sw 3 _ (wb_put h (by omega))
  unfold fX7_steps
  refine gen_ite (P := WB k) (gen_ite (P := WB k) (gen_ite (P := WB k) (gen_ite (P := WB k) (leaf ?_) (swl ?_)) (gen_ite (P := WB k) (leaf ?_) (swl ?_))) (gen_ite (P := WB k) (gen_ite (P := WB k) (leaf ?_) (swl ?_)) (gen_ite (P := WB k) (leaf ?_) (swl ?_)))) (gen_ite (P := WB k) (gen_ite (P := WB k) (gen_ite (P := WB k) (leaf ?_) (swl ?_)) (gen_ite (P := WB k) (leaf ?_) (swl ?_))) (gen_ite (P := WB k) (gen_ite (P := WB k) (leaf ?_) (swl ?_)) (gen_ite (P := WB k) (leaf ?_) (swl ?_))))
  all_goals repeat (first | exact hB | refine wb_put ?_ (by omega))
/-- the shafts of a bench of M4: micro steps, waits; the gain -/
def tI (B : wB) (M4 : Nat) : Prop := B 1 6 = nI M4 ∧ M4 ≤ 4 ∧ (∀ j, j < M4 → ¬ B 1 (7 + 14 * j + 0) = 0) ∧ (∀ j, j < 4 → WB j B) ∧ ¬ B 1 2 = 0
theorem tI_se {B C : wB} {k M4 : Nat} (hk : k < 4) (h : tI B M4) (hs : SE k B C) (hw : WB k C) : tI C M4 := by
  obtain ⟨h1, h2, h3, h4, h5⟩ := h
  refine ⟨(hs.1 6 (by omega)).trans h1, h2, fun j hj => ?_, fun j hj => ?_, ?_⟩
  · rw [hs.1 (7 + 14 * j + 0) (by omega)]
    exact h3 j hj
  · by_cases e : j = k
    · subst e; exact hw
    · have h6 := h4 j hj
      unfold WB at h6 ⊢
      rw [hs.1 (7 + 14 * j + 8) (by omega)]
      exact h6
  · rw [hs.1 2 (by omega)]
    exact h5
/-- plans from lo to hi are of shafts that are there -/
def pI (B : wB) (lo hi M4 : Nat) : Prop := ∀ p, lo ≤ p → p < hi → ∃ j, j < M4 ∧ B 1 ((64 + (3 * p)) + 1) = nI j
theorem pI_se {B C : wB} {k lo hi M4 : Nat} (hk : k < 4) (h : pI B lo hi M4) (hs : SE k B C) : pI C lo hi M4 := by
  intro p h1 h2
  obtain ⟨j, h3, h4⟩ := h p h1 h2
  exact ⟨j, h3, (hs.1 _ (by omega)).trans h4⟩
theorem pI_put {B : wB} {i lo hi M4 : Nat} {v : Int32} (h : pI B lo hi M4) (hi' : i < 64 + (3 * lo) ∨ 100 ≤ i) (hh : hi ≤ 12) : pI (bput B 1 i v) lo hi M4 := by
  intro p h1 h2
  obtain ⟨j, h3, h4⟩ := h p h1 h2
  exact ⟨j, h3, (bput_q (by omega)).trans h4⟩
theorem pI_mono {B : wB} {lo hi M4 : Nat} (h : pI B lo hi M4) : pI B (lo + 1) hi M4 := fun p h1 h2 => h p (by omega) h2
theorem tI_put {B : wB} {i M4 : Nat} {v : Int32} (h : tI B M4) (hi' : i = 5 ∨ 63 ≤ i) : tI (bput B 1 i v) M4 := by
  obtain ⟨h1, h2, h3, h4, h5⟩ := h
  refine ⟨(bput_q (by omega)).trans h1, h2, fun j hj => ?_, fun j hj => wb_put (h4 j hj) (by omega), ?_⟩
  · rw [bput_q (by omega)]
    exact h3 j hj
  · rw [bput_q (by omega)]
    exact h5

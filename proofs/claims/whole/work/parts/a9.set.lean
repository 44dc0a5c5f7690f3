/-! set -/
theorem RB_ramp {m M T : Nat} {B B' : wB} {S S' : Nat → Int32} (h : RB m M T B S) (hB : ∀ j q, j ≠ 1 → B' j q = B j q) (hS : ∀ q, 5 ≤ q → S' q = S q) (hr : rR B' S') (hi : iR S') : RB m M T B' S' := by
  obtain ⟨⟨a1, a2, a3⟩, ⟨b1, b2, b3⟩, ⟨c1, c2, c3⟩, ⟨d1, d2⟩, e, f, g, i⟩ := h
  have hM : plM S' M = plM S M := plM_c fun q h1 h2 => hS q (by omega)
  refine ⟨⟨by rw [hS 6 (by omega)]; exact a1, by rw [hB 0 0 (by omega)]; exact a2, a3⟩, ⟨by rw [hS 5 (by omega)]; exact b1, by rw [hB 0 2 (by omega)]; exact b2, b3⟩, ⟨by rw [hS 63 (by omega)]; exact c1, by rw [hB 0 1 (by omega)]; exact c2, c3⟩, ⟨hr, hi⟩, fun k hk => ?_, fun k h1 h2 q hq => ?_, ?_, ?_⟩
  · exact ⟨rS_c (e k hk).1 (fun q hq => hB _ _ (by omega)) (fun q hq => hB _ _ (by omega)) (e k hk).2.2.2.2.1.2 (fun q hq => hS _ (by omega)), iS_c (e k hk).2 (fun q hq => hS _ (by omega))⟩
  · rw [hB _ _ (by omega), hS _ (by omega)]
    exact f k h1 h2 q hq
  · rw [hM, ← g]
    exact plC_c fun q hq => ⟨hB _ _ (by omega), hB _ _ (by omega), hB _ _ (by omega)⟩
  · rw [hM]
    exact i
/-- set on both sides: refused alike, or the same setting changed -/
theorem d_set {B : wB} {S : Nat → Int32} {m M T : Nat} (h : RB m M T B S) (a b : Int32) :
    ((fX7_in a 0 4 = 0 ∨ fX7_in b (fX7_least a) (fX7_most a) = 0) ∧ fX3_change B a b = (B, -2)) ∨
    (¬ fX7_in a 0 4 = 0 ∧ ¬ fX7_in b (fX7_least a) (fX7_most a) = 0 ∧ 0 ≤ (S a.toNatClampNeg).toInt ∧ (fX3_change B a b).2 = S a.toNatClampNeg ∧ ∀ S' : Nat → Int32, (∀ q, q < 100 → S' q = if q = a.toNatClampNeg then b else S q) → RB m M T (fX3_change B a b).1 S') := by
  obtain ⟨⟨v0, v1, v2, v3, v4⟩, hi⟩ := h.2.2.2.1
  unfold iR at hi
  have e200 : (200 : Int32).toInt = 200 := by decide
  have e50 : (50 : Int32).toInt = 50 := by decide
  have e40 : (40 : Int32).toInt = 40 := by decide
  have e20 : (20 : Int32).toInt = 20 := by decide
  have e10 : (10 : Int32).toInt = 10 := by decide
  have e2 : (2 : Int32).toInt = 2 := by decide
  have e3 : (3 : Int32).toInt = 3 := by decide
  have e4 : (4 : Int32).toInt = 4 := by decide
  have key : ∀ (k : Nat) (lo hi' : Int32), k < 5 → a = nI k → fX7_least a = lo → fX7_most a = hi' → fX3_isInRange a b = (if b < lo then 0 else if hi' < b then 0 else 1) → fX3_valueOf B a = S k → (∀ v, fX3_isInRange a b = 1 → fX3_valueOf B a = v → fX3_change B a b = (bput B 1 k b, v)) → 0 ≤ (S k).toInt → (¬ b < lo → ¬ hi' < b → ∀ S' : Nat → Int32, (∀ q, q < 5 → S' q = if q = k then b else S q) → iR S') →
      ((fX7_in a 0 4 = 0 ∨ fX7_in b (fX7_least a) (fX7_most a) = 0) ∧ fX3_change B a b = (B, -2)) ∨
      (¬ fX7_in a 0 4 = 0 ∧ ¬ fX7_in b (fX7_least a) (fX7_most a) = 0 ∧ 0 ≤ (S a.toNatClampNeg).toInt ∧ (fX3_change B a b).2 = S a.toNatClampNeg ∧ ∀ S' : Nat → Int32, (∀ q, q < 100 → S' q = if q = a.toNatClampNeg then b else S q) → RB m M T (fX3_change B a b).1 S') := by
    intro k lo hi' hk ea el em er ev ec hp hI
    have hc : fX3_change B a b = if fX3_isInRange a b = 0 then (B, -2) else fX3_change B a b := by
      by_cases c : fX3_isInRange a b = 0
      · rw [if_pos c]; unfold fX3_change; dsimp only; rw [if_pos c]
      · rw [if_neg c]
    rw [in_in, in_in, el, em]
    have ek : a.toNatClampNeg = k := by rw [ea, nI_clamp (by omega)]
    have ak : a.toInt = (k : Int) := by rw [ea, nI_ti (by omega)]
    have a1 : ¬ a < 0 := by rw [i_lt, ak, t0]; omega
    have a2 : ¬ (4 : Int32) < a := by rw [i_lt, ak, e4]; omega
    rw [if_neg a1, if_neg a2, ek]
    by_cases c1 : b < lo
    · left
      rw [if_pos c1] at er ⊢
      exact ⟨Or.inr rfl, by rw [hc, if_pos er]⟩
    · by_cases c2 : hi' < b
      · left
        rw [if_neg c1, if_pos c2] at er ⊢
        exact ⟨Or.inr rfl, by rw [hc, if_pos er]⟩
      · right
        rw [if_neg c1, if_neg c2] at er ⊢
        rw [ec _ er ev]
        refine ⟨i32_10, i32_10, hp, rfl, fun S' hS' => RB_c (RB_ramp (S' := fun q => if q = k then b else S q) h (fun j q hj => bput_j hj) (fun q hq => if_neg (by omega)) ?_ (hI c1 c2 _ fun q hq => rfl)) (fun _ _ _ => rfl) (fun q hq => hS' q hq)⟩
        · unfold rR
          have hb : ∀ q v, B 1 q = v → bput B 1 k b 1 q = if q = k then b else v := by
            intro q v e
            unfold bput
            by_cases d : q = k
            · rw [if_pos ⟨rfl, d⟩, if_pos d]
            · rw [if_neg fun x => d x.2, if_neg d]; exact e
          exact ⟨hb _ _ v0, hb _ _ v1, hb _ _ v2, hb _ _ v3, hb _ _ v4⟩
  by_cases k0 : a = 0
  · subst k0
    refine key 0 10 200 (by decide) rfl rfl rfl ?_ ?_ ?_ (by omega) ?_
    · unfold fX3_isInRange
      rw [if_pos rfl]
    · unfold fX3_valueOf
      rw [if_pos rfl]; exact v0
    · intro v h1 h2
      unfold fX3_change
      dsimp only
      rw [h1, h2, if_neg i32_10]
      rw [if_pos rfl]
    · intro c1 c2 S' hS'
      unfold iR
      rw [hS' 0 (by decide), hS' 1 (by decide), hS' 2 (by decide), hS' 3 (by decide), hS' 4 (by decide)]
      rw [i_lt] at c1 c2
      simp only [if_true, if_false, Nat.reduceEqDiff, reduceIte]
      rw [e200] at c2; rw [e10] at c1
      omega
  by_cases k1 : a = 1
  · subst k1
    refine key 1 2 50 (by decide) rfl rfl rfl ?_ ?_ ?_ (by omega) ?_
    · unfold fX3_isInRange
      rw [if_neg (by decide)]; rw [if_pos rfl]
    · unfold fX3_valueOf
      rw [if_neg (by decide)]; rw [if_pos rfl]; exact v1
    · intro v h1 h2
      unfold fX3_change
      dsimp only
      rw [h1, h2, if_neg i32_10]
      rw [if_neg (by decide)]; rw [if_pos rfl]
    · intro c1 c2 S' hS'
      unfold iR
      rw [hS' 0 (by decide), hS' 1 (by decide), hS' 2 (by decide), hS' 3 (by decide), hS' 4 (by decide)]
      rw [i_lt] at c1 c2
      simp only [if_true, if_false, Nat.reduceEqDiff, reduceIte]
      rw [e50] at c2; rw [e2] at c1
      omega
  by_cases k2 : a = 2
  · subst k2
    refine key 2 1 40 (by decide) rfl rfl rfl ?_ ?_ ?_ (by omega) ?_
    · unfold fX3_isInRange
      rw [if_neg (by decide)]; rw [if_neg (by decide)]; rw [if_pos rfl]
    · unfold fX3_valueOf
      rw [if_neg (by decide)]; rw [if_neg (by decide)]; rw [if_pos rfl]; exact v2
    · intro v h1 h2
      unfold fX3_change
      dsimp only
      rw [h1, h2, if_neg i32_10]
      rw [if_neg (by decide)]; rw [if_neg (by decide)]; rw [if_pos rfl]
    · intro c1 c2 S' hS'
      unfold iR
      rw [hS' 0 (by decide), hS' 1 (by decide), hS' 2 (by decide), hS' 3 (by decide), hS' 4 (by decide)]
      rw [i_lt] at c1 c2
      simp only [if_true, if_false, Nat.reduceEqDiff, reduceIte]
      rw [e40] at c2; rw [t1] at c1
      omega
  by_cases k3 : a = 3
  · subst k3
    refine key 3 0 40 (by decide) rfl rfl rfl ?_ ?_ ?_ (by omega) ?_
    · unfold fX3_isInRange
      rw [if_neg (by decide)]; rw [if_neg (by decide)]; rw [if_neg (by decide)]; rw [if_pos rfl]
    · unfold fX3_valueOf
      rw [if_neg (by decide)]; rw [if_neg (by decide)]; rw [if_neg (by decide)]; rw [if_pos rfl]; exact v3
    · intro v h1 h2
      unfold fX3_change
      dsimp only
      rw [h1, h2, if_neg i32_10]
      rw [if_neg (by decide)]; rw [if_neg (by decide)]; rw [if_neg (by decide)]; rw [if_pos rfl]
    · intro c1 c2 S' hS'
      unfold iR
      rw [hS' 0 (by decide), hS' 1 (by decide), hS' 2 (by decide), hS' 3 (by decide), hS' 4 (by decide)]
      rw [i_lt] at c1 c2
      simp only [if_true, if_false, Nat.reduceEqDiff, reduceIte]
      rw [e40] at c2; rw [t0] at c1
      omega
  by_cases k4 : a = 4
  · subst k4
    refine key 4 0 20 (by decide) rfl rfl rfl ?_ ?_ ?_ (by omega) ?_
    · unfold fX3_isInRange
      rw [if_neg (by decide)]; rw [if_neg (by decide)]; rw [if_neg (by decide)]; rw [if_neg (by decide)]; rw [if_pos rfl]
    · unfold fX3_valueOf
      rw [if_neg (by decide)]; rw [if_neg (by decide)]; rw [if_neg (by decide)]; rw [if_neg (by decide)]; rw [if_pos rfl]; exact v4
    · intro v h1 h2
      unfold fX3_change
      dsimp only
      rw [h1, h2, if_neg i32_10]
      rw [if_neg (by decide)]; rw [if_neg (by decide)]; rw [if_neg (by decide)]; rw [if_neg (by decide)]; 
    · intro c1 c2 S' hS'
      unfold iR
      rw [hS' 0 (by decide), hS' 1 (by decide), hS' 2 (by decide), hS' 3 (by decide), hS' 4 (by decide)]
      rw [i_lt] at c1 c2
      simp only [if_true, if_false, Nat.reduceEqDiff, reduceIte]
      rw [e20] at c2; rw [t0] at c1
      omega
  left
  have hz : fX3_isInRange a b = 0 := by
    unfold fX3_isInRange
    rw [if_neg k0, if_neg k1, if_neg k2, if_neg k3, if_neg k4]
  refine ⟨Or.inl ?_, by unfold fX3_change; dsimp only; rw [if_pos hz]⟩
  rw [in_in]
  by_cases c1 : a < 0
  · rw [if_pos c1]
  · by_cases c2 : (4 : Int32) < a
    · rw [if_neg c1, if_pos c2]
    · exfalso
      rw [i_lt, t0] at c1
      rw [i_lt, e4] at c2
      rw [i_eq, t0] at k0
      rw [i_eq, t1] at k1
      rw [i_eq, e2] at k2
      rw [i_eq, e3] at k3
      rw [i_eq, e4] at k4
      omega

/-! plan -/
theorem RB_plans {m M M' T : Nat} {B B' : wB} {S S' : Nat → Int32} (h : RB m M T B S) (hM' : M' ≤ 12) (hB : ∀ j q, j < 11 → ¬ (j = 0 ∧ q = 1) → B' j q = B j q) (hS : ∀ q, q < 63 → S' q = S q) (h1 : B' 0 1 = nI M') (h2 : S' 63 = nI M') (h3 : plC B' M' = pSort (plM S' M')) (h4 : ∀ x ∈ plM S' M', iP m T x) : RB m M' T B' S' := by
  obtain ⟨⟨a1, a2, a3⟩, ⟨b1, b2, b3⟩, ⟨c1, c2, c3⟩, ⟨d1, d2⟩, e, f, g, i⟩ := h
  refine ⟨⟨by rw [hS 6 (by omega)]; exact a1, by rw [hB 0 0 (by omega) (by omega)]; exact a2, a3⟩, ⟨by rw [hS 5 (by omega)]; exact b1, by rw [hB 0 2 (by omega) (by omega)]; exact b2, b3⟩, ⟨h2, h1, hM'⟩, ⟨?_, ?_⟩, fun k hk => ?_, fun k h1 h2 q hq => ?_, h3, h4⟩
  · unfold rR
    rw [hB 1 0 (by omega) (by omega), hB 1 1 (by omega) (by omega), hB 1 2 (by omega) (by omega), hB 1 3 (by omega) (by omega), hB 1 4 (by omega) (by omega), hS 0 (by omega), hS 1 (by omega), hS 2 (by omega), hS 3 (by omega), hS 4 (by omega)]
    exact d1
  · unfold iR
    rw [hS 0 (by omega), hS 1 (by omega), hS 2 (by omega), hS 3 (by omega), hS 4 (by omega)]
    exact d2
  · exact ⟨rS_c (e k hk).1 (fun q hq => hB _ _ (by omega) (by omega)) (fun q hq => hB _ _ (by omega) (by omega)) (e k hk).2.2.2.2.1.2 (fun q hq => hS _ (by omega)), iS_c (e k hk).2 (fun q hq => hS _ (by omega))⟩
  · rw [hB _ _ (by omega) (by omega)]
    exact f k h1 h2 q hq
def inC (D : wB) (k : Nat) (x : wP) (v : Int32) : wB := bput (bput (bput (bput D 11 k x.1) 12 k x.2.1) 13 k x.2.2) 0 1 v
theorem inC_list {B : wB} {M : Nat} {A Q : List wP} {x : wP} {v : Int32} (e : plC B M = A ++ Q) : plC (inC (shB B A.length M) A.length x v) (M + 1) = A ++ x :: Q := by
  have hl : A.length + Q.length = M := by rw [← List.length_append, ← e, plC_len]
  apply List.ext_getElem?
  intro i
  have hg : ∀ i, (A ++ Q)[i]? = if i < M then some (B 11 i, B 12 i, B 13 i) else none := fun i => by rw [← e, plC_get]
  rw [plC_get]
  by_cases c1 : i < A.length
  · have := hg i
    rw [List.getElem?_append_left c1, if_pos (by omega)] at this
    rw [List.getElem?_append_left c1, this, if_pos (by omega)]
    simp only [inC, bput, shB]
    simp (config := { decide := true }) [show ¬ i = A.length by omega, show ¬ A.length < i by omega]
  · by_cases c2 : i = A.length
    · subst c2
      rw [List.getElem?_append_right (Nat.le_refl _), Nat.sub_self, if_pos (by omega)]
      simp [inC, bput]
    · have hi : i - 1 - A.length + 1 = i - A.length := by omega
      have := hg (i - 1)
      rw [List.getElem?_append_right (by omega)] at this
      rw [List.getElem?_append_right (by omega), ← hi, List.getElem?_cons_succ, this]
      by_cases c3 : i < M + 1
      · rw [if_pos c3, if_pos (by omega)]
        simp only [inC, bput, shB]
        simp (config := { decide := true }) [c2, show A.length < i by omega, show i ≤ M by omega]
      · rw [if_neg c3, if_neg (by omega)]

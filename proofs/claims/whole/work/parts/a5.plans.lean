/-! the plans: sorted against unsorted -/
def pLe (a b : wP) : Prop := a.1.toInt ≤ b.1.toInt
theorem pIns_split (x : wP) : ∀ l : List wP, l.Pairwise pLe → ∃ A Q : List wP, l = A ++ Q ∧ pIns x l = A ++ x :: Q ∧ (∀ a ∈ A, a.1.toInt ≤ x.1.toInt) ∧ ∀ b ∈ Q, x.1.toInt < b.1.toInt := by
  intro l
  induction l with
  | nil => intro _; exact ⟨[], [], rfl, rfl, fun _ h => absurd h List.not_mem_nil, fun _ h => absurd h List.not_mem_nil⟩
  | cons y r ih =>
    intro hs
    rw [List.pairwise_cons] at hs
    by_cases c : x.1.toInt < y.1.toInt
    · refine ⟨[], y :: r, rfl, ?_, fun _ h => absurd h List.not_mem_nil, fun b hb => ?_⟩
      · simp only [pIns]; rw [if_pos c]; rfl
      · rcases List.mem_cons.mp hb with rfl | hb
        · exact c
        · have := hs.1 b hb
          unfold pLe at this
          omega
    · obtain ⟨A, Q, e1, e2, h1, h2⟩ := ih hs.2
      refine ⟨y :: A, Q, by rw [e1]; rfl, ?_, fun a ha => ?_, h2⟩
      · simp only [pIns]; rw [if_neg c, e2]; rfl
      · rcases List.mem_cons.mp ha with rfl | ha
        · omega
        · exact h1 a ha
theorem pIns_sorted (x : wP) {l : List wP} (h : l.Pairwise pLe) : (pIns x l).Pairwise pLe := by
  obtain ⟨A, Q, e1, e2, h1, h2⟩ := pIns_split x l h
  rw [e2]
  rw [e1] at h
  rw [List.pairwise_append] at h ⊢
  refine ⟨h.1, ?_, fun a ha b hb => ?_⟩
  · rw [List.pairwise_cons]
    exact ⟨fun b hb => by have := h2 b hb; unfold pLe; omega, h.2.1⟩
  · rcases List.mem_cons.mp hb with rfl | hb
    · exact h1 a ha
    · exact h.2.2 a ha b hb
theorem pSort_snoc (l : List wP) (x : wP) : pSort (l ++ [x]) = pIns x (pSort l) := by
  unfold pSort
  rw [List.foldl_append]
  rfl
theorem l_snoc {α : Type} {P : List α → Prop} (h0 : P []) (h1 : ∀ l x, P l → P (l ++ [x])) (l : List α) : P l := by
  have h : ∀ r : List α, P r.reverse := by
    intro r
    induction r with
    | nil => exact h0
    | cons x r ih =>
      rw [List.reverse_cons]
      exact h1 _ _ ih
  have := h l.reverse
  rw [List.reverse_reverse] at this
  exact this
theorem pSort_sorted (l : List wP) : (pSort l).Pairwise pLe := by
  refine l_snoc (P := fun l => (pSort l).Pairwise pLe) ?_ ?_ l
  · exact List.Pairwise.nil
  · intro l x h
    rw [pSort_snoc]
    exact pIns_sorted x h
theorem pIns_len (x : wP) (l : List wP) : (pIns x l).length = l.length + 1 := by
  induction l with
  | nil => rfl
  | cons y r ih =>
    simp only [pIns]
    by_cases c : x.1.toInt < y.1.toInt
    · rw [if_pos c]; rfl
    · rw [if_neg c, List.length_cons, ih, List.length_cons]
theorem pSort_len (l : List wP) : (pSort l).length = l.length := by
  refine l_snoc (P := fun l => (pSort l).length = l.length) rfl ?_ l
  intro l x h
  rw [pSort_snoc, pIns_len, h, List.length_append]
  rfl
theorem pIns_mem (x y : wP) (l : List wP) : y ∈ pIns x l ↔ y = x ∨ y ∈ l := by
  induction l with
  | nil => simp [pIns]
  | cons z r ih =>
    simp only [pIns]
    by_cases c : x.1.toInt < z.1.toInt
    · rw [if_pos c]; simp
    · rw [if_neg c, List.mem_cons, ih, List.mem_cons]
      constructor
      · rintro (h | h | h)
        · exact Or.inr (Or.inl h)
        · exact Or.inl h
        · exact Or.inr (Or.inr h)
      · rintro (h | h | h)
        · exact Or.inr (Or.inl h)
        · exact Or.inl h
        · exact Or.inr (Or.inr h)
theorem pSort_mem (y : wP) (l : List wP) : y ∈ pSort l ↔ y ∈ l := by
  refine l_snoc (P := fun l => (y ∈ pSort l ↔ y ∈ l)) (by simp [pSort]) ?_ l
  intro l x h
  rw [pSort_snoc, pIns_mem, h, List.mem_append]
  constructor
  · rintro (h | h)
    · exact Or.inr (by rw [h]; exact List.mem_singleton.mpr rfl)
    · exact Or.inl h
  · rintro (h | h)
    · exact Or.inr h
    · exact Or.inl (List.mem_singleton.mp h)
/-- those that are due come first, in the order in which they were planned -/
theorem pSort_due (T : Int) (l : List wP) (h : ∀ x ∈ l, T ≤ x.1.toInt) : pSort l = l.filter (fun x => decide (x.1.toInt = T)) ++ pSort (l.filter fun x => !decide (x.1.toInt = T)) := by
  revert h
  refine l_snoc (P := fun l => (∀ x ∈ l, T ≤ x.1.toInt) → pSort l = l.filter (fun x => decide (x.1.toInt = T)) ++ pSort (l.filter fun x => !decide (x.1.toInt = T))) (fun _ => rfl) ?_ l
  intro l x ih h
  have ih := ih fun y hy => h y (List.mem_append_left _ hy)
  have hx := h x (List.mem_append_right _ (List.mem_singleton.mpr rfl))
  rw [pSort_snoc, ih, List.filter_append, List.filter_append]
  have hA : ∀ (A Q : List wP), (∀ a ∈ A, a.1.toInt = T) → pIns x (A ++ Q) = A ++ pIns x Q := by
    intro A
    induction A with
    | nil => intro Q _; rfl
    | cons y A ihA =>
      intro Q hA
      have hy := hA y List.mem_cons_self
      simp only [List.cons_append, pIns]
      rw [if_neg (by omega), ihA Q fun a ha => hA a (List.mem_cons_of_mem _ ha)]
  rw [hA _ _ fun a ha => by simpa using (List.mem_filter.mp ha).2]
  by_cases c : x.1.toInt = T
  · have e1 : List.filter (fun x : wP => decide (x.1.toInt = T)) [x] = [x] := by simp [c]
    have e2 : List.filter (fun x : wP => !decide (x.1.toInt = T)) [x] = [] := by simp [c]
    rw [e1, e2, List.append_nil]
    have e3 : ∀ Q : List wP, (∀ b ∈ Q, T < b.1.toInt) → pIns x Q = x :: Q := by
      intro Q hQ
      cases Q with
      | nil => rfl
      | cons y r => simp only [pIns]; rw [if_pos (by have := hQ y List.mem_cons_self; omega)]
    rw [e3 _ fun b hb => by
      have hb := (pSort_mem _ _).mp hb
      have h1 := List.mem_filter.mp hb
      have h2 := h b (List.mem_append_left _ h1.1)
      have h3 : ¬ b.1.toInt = T := by simpa using h1.2
      omega]
    simp
  · have e1 : List.filter (fun x : wP => decide (x.1.toInt = T)) [x] = [] := by simp [c]
    have e2 : List.filter (fun x : wP => !decide (x.1.toInt = T)) [x] = [x] := by simp [c]
    rw [e1, e2, List.append_nil, pSort_snoc]
theorem plC_get (B : wB) (M k : Nat) : (plC B M)[k]? = if k < M then some (B 11 k, B 12 k, B 13 k) else none := by
  unfold plC
  rw [List.getElem?_map]
  by_cases c : k < M
  · rw [List.getElem?_range c, if_pos c]; rfl
  · rw [List.getElem?_eq_none (by rw [List.length_range]; omega), if_neg c]; rfl
theorem plM_get (S : Nat → Int32) (M k : Nat) : (plM S M)[k]? = if k < M then some (S (64 + 3 * k), S (64 + 3 * k + 1), S (64 + 3 * k + 2)) else none := by
  unfold plM
  rw [List.getElem?_map]
  by_cases c : k < M
  · rw [List.getElem?_range c, if_pos c]; rfl
  · rw [List.getElem?_eq_none (by rw [List.length_range]; omega), if_neg c]; rfl
theorem plC_len (B : wB) (M : Nat) : (plC B M).length = M := by unfold plC; rw [List.length_map, List.length_range]
theorem plM_len (S : Nat → Int32) (M : Nat) : (plM S M).length = M := by unfold plM; rw [List.length_map, List.length_range]
theorem plM_snoc (S : Nat → Int32) (M : Nat) : plM S (M + 1) = plM S M ++ [(S (64 + 3 * M), S (64 + 3 * M + 1), S (64 + 3 * M + 2))] := by
  unfold plM
  rw [List.range_succ, List.map_append]
  rfl
/-- one plan copied -/
theorem cp_eq {B : wB} {p q : Nat} (hp : p < 12) (hq : q < 12) : fX0_copyPlan B (nI p) (nI q) = fun j k => if 11 ≤ j ∧ j < 14 ∧ k = q then B j p else B j k := by
  have e12 : (12 : Int32) = nI 12 := rfl
  unfold fX0_copyPlan
  rw [if_neg (nI_pos (by omega)), if_neg (by rw [e12, nI_leI (by omega) (by omega)]; omega), if_neg (nI_pos (by omega)), if_pos (by rw [e12, nI_ltI (by omega) (by omega)]; omega), nI_clamp (by omega), nI_clamp (by omega)]
  funext j k
  unfold bput
  by_cases c : 11 ≤ j ∧ j < 14 ∧ k = q
  · rw [if_pos c]
    obtain ⟨c1, c2, rfl⟩ := c
    rcases (show j = 11 ∨ j = 12 ∨ j = 13 by omega) with rfl | rfl | rfl <;> simp
  · rw [if_neg c, if_neg (by omega), if_neg (by omega), if_neg (by omega)]
def shB (B : wB) (a u : Nat) : wB := fun j k => if 11 ≤ j ∧ j < 14 ∧ a < k ∧ k ≤ u then B j (k - 1) else B j k
theorem sh_eq {t : Int32} {a : Nat} : ∀ (u : Nat) (B : wB), u ≤ 11 → a ≤ u → (0 < a → B 11 (a - 1) ≤ B 0 2 + t) → (∀ k, a ≤ k → k < u → ¬ B 11 k ≤ B 0 2 + t) → LX0_shift t u B = (a, shB B a u) := by
  intro u
  induction u with
  | zero =>
    intro B _ h1 _ _
    simp only [LX0_shift]
    have ha : a = 0 := by omega
    subst ha
    congr 1
    funext j k
    unfold shB
    rw [if_neg (by omega)]
  | succ u ih =>
    intro B hu h1 h2 h3
    simp only [LX0_shift]
    by_cases c : a = u + 1
    · subst c
      rw [if_pos (by have := h2 (by omega); rw [show u + 1 - 1 = u by omega] at this; exact this)]
      congr 1
      funext j k
      unfold shB
      rw [if_neg (by omega)]
    · rw [if_neg (h3 u (by omega) (by omega)), cp_eq (by omega) (by omega)]
      rw [ih _ (by omega) (by omega)]
      · congr 1
        funext j k
        unfold shB
        dsimp only
        by_cases c1 : 11 ≤ j ∧ j < 14 ∧ a < k ∧ k ≤ u
        · rw [if_pos c1, if_neg (by omega), if_pos (by omega)]
        · rw [if_neg c1]
          by_cases c2 : 11 ≤ j ∧ j < 14 ∧ k = u + 1
          · rw [if_pos c2, if_pos (by omega), c2.2.2]; rfl
          · rw [if_neg c2, if_neg (by omega)]
      · intro h0
        rw [if_neg (by omega), if_neg (by omega)]
        exact h2 h0
      · intro k hk1 hk2
        rw [if_neg (by omega), if_neg (by omega)]
        exact h3 k hk1 (by omega)

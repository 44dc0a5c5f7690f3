/-! planned: how many plans are ahead of one is its place among the sorted -/
def tmP (l : List wP) (k : Nat) : Int := ((l[k]?).map fun x => x.1.toInt).getD 0
def bfP (l : List wP) (p k : Nat) : Bool := decide (tmP l k < tmP l p ∨ (tmP l k = tmP l p ∧ k < p))
def rkP (l : List wP) (p : Nat) : Nat := (List.range l.length).countP (bfP l p)
theorem tmP_app {l r : List wP} {k : Nat} (h : k < l.length) : tmP (l ++ r) k = tmP l k := by
  unfold tmP
  rw [List.getElem?_append_left h]
theorem tmP_last {l : List wP} {x : wP} : tmP (l ++ [x]) l.length = x.1.toInt := by
  unfold tmP
  rw [List.getElem?_append_right (Nat.le_refl _), Nat.sub_self]
  rfl
theorem pIns_countP (f : wP → Bool) (x : wP) (l : List wP) : (pIns x l).countP f = l.countP f + if f x = true then 1 else 0 := by
  induction l with
  | nil => simp [pIns, List.countP_cons]
  | cons y r ih =>
    simp only [pIns]
    by_cases c : x.1.toInt < y.1.toInt
    · rw [if_pos c, List.countP_cons]
    · rw [if_neg c, List.countP_cons, ih, List.countP_cons]; omega
theorem pSort_countP (f : wP → Bool) (l : List wP) : (pSort l).countP f = l.countP f := by
  refine l_snoc (P := fun l => (pSort l).countP f = l.countP f) rfl ?_ l
  intro l x h
  rw [pSort_snoc, pIns_countP, h, List.countP_append, List.countP_cons, List.countP_nil, Nat.zero_add]
theorem rk_old {l : List wP} {x : wP} {p : Nat} (h : p < l.length) : rkP (l ++ [x]) p = rkP l p + if x.1.toInt < tmP l p then 1 else 0 := by
  unfold rkP
  rw [List.length_append, List.length_cons, List.length_nil, Nat.zero_add, List.range_succ, List.countP_append, List.countP_cons, List.countP_nil, Nat.zero_add]
  have e1 : (List.range l.length).countP (bfP (l ++ [x]) p) = (List.range l.length).countP (bfP l p) := by
    refine List.countP_congr fun k hk => ?_
    have hk := List.mem_range.mp hk
    unfold bfP
    rw [tmP_app hk, tmP_app h]
  rw [e1]
  congr 1
  unfold bfP
  rw [tmP_last, tmP_app h]
  by_cases c : x.1.toInt < tmP l p
  · rw [if_pos c, if_pos (by simp [c])]
  · rw [if_neg c, if_neg (by simp [c]; omega)]
theorem count_range (f : wP → Bool) : ∀ l : List wP, (List.range l.length).countP (fun k => ((l[k]?).map f).getD false) = l.countP f := by
  intro l
  refine l_snoc (P := fun l => (List.range l.length).countP (fun k => ((l[k]?).map f).getD false) = l.countP f) rfl ?_ l
  intro l x ih
  rw [List.length_append, List.length_cons, List.length_nil, Nat.zero_add, List.range_succ, List.countP_append, List.countP_append, ← ih]
  congr 1
  · refine List.countP_congr fun k hk => ?_
    have hk := List.mem_range.mp hk
    rw [List.getElem?_append_left hk]
  · rw [List.countP_cons, List.countP_nil, List.countP_cons, List.countP_nil, List.getElem?_append_right (Nat.le_refl _), Nat.sub_self]
    rfl
theorem rk_new {l : List wP} {x : wP} : rkP (l ++ [x]) l.length = l.countP fun y => decide (y.1.toInt ≤ x.1.toInt) := by
  unfold rkP
  rw [List.length_append, List.length_cons, List.length_nil, Nat.zero_add, List.range_succ, List.countP_append, List.countP_cons, List.countP_nil, Nat.zero_add]
  have e2 : bfP (l ++ [x]) l.length l.length = false := by
    unfold bfP
    simp
  rw [if_neg (by rw [e2]; decide), Nat.add_zero, ← count_range]
  refine List.countP_congr fun k hk => ?_
  have hk := List.mem_range.mp hk
  unfold bfP
  rw [tmP_last, tmP_app hk]
  unfold tmP
  rw [List.getElem?_eq_getElem hk]
  simp
  omega
/-- a plan's rank is its place -/
theorem rk_spec : ∀ l : List wP, (∀ p, p < l.length → (pSort l)[rkP l p]? = l[p]?) ∧ ∀ i, i < l.length → ∃ p, p < l.length ∧ rkP l p = i := by
  intro l
  refine l_snoc (P := fun l => (∀ p, p < l.length → (pSort l)[rkP l p]? = l[p]?) ∧ ∀ i, i < l.length → ∃ p, p < l.length ∧ rkP l p = i) ?_ ?_ l
  · exact ⟨fun p h => absurd h (Nat.not_lt_zero _), fun p h => absurd h (Nat.not_lt_zero _)⟩
  intro l x ⟨h1, h2⟩
  obtain ⟨A, Q, e1, e2, hA, hQ⟩ := pIns_split x (pSort l) (pSort_sorted l)
  have hlen : A.length + Q.length = l.length := by rw [← pSort_len l, e1, List.length_append]
  have hc : l.countP (fun y => decide (y.1.toInt ≤ x.1.toInt)) = A.length := by
    rw [← pSort_countP, e1, List.countP_append]
    have a1 : A.countP (fun y => decide (y.1.toInt ≤ x.1.toInt)) = A.length := List.countP_eq_length.mpr fun a ha => by simpa using hA a ha
    have a2 : Q.countP (fun y => decide (y.1.toInt ≤ x.1.toInt)) = 0 := List.countP_eq_zero.mpr fun a ha => by simpa using hQ a ha
    rw [a1, a2]
    rfl
  have hold : ∀ p, p < l.length → ∃ y, l[p]? = some y ∧ (rkP l p < A.length ∧ y.1.toInt ≤ x.1.toInt ∨ A.length ≤ rkP l p ∧ x.1.toInt < y.1.toInt) := by
    intro p hp
    have hg := h1 p hp
    rw [List.getElem?_eq_getElem hp] at hg ⊢
    refine ⟨_, rfl, ?_⟩
    rw [e1] at hg
    by_cases c : rkP l p < A.length
    · rw [List.getElem?_append_left c] at hg
      exact Or.inl ⟨c, hA _ (List.mem_of_getElem? hg)⟩
    · rw [List.getElem?_append_right (by omega)] at hg
      exact Or.inr ⟨by omega, hQ _ (List.mem_of_getElem? hg)⟩
  have hrk : ∀ p, p < l.length → rkP (l ++ [x]) p = if rkP l p < A.length then rkP l p else rkP l p + 1 := by
    intro p hp
    obtain ⟨y, hy, hh⟩ := hold p hp
    rw [rk_old hp]
    have ht : tmP l p = y.1.toInt := by unfold tmP; rw [hy]; rfl
    rw [ht]
    rcases hh with ⟨c1, c2⟩ | ⟨c1, c2⟩
    · rw [if_neg (by omega), if_pos c1, Nat.add_zero]
    · rw [if_pos c2, if_neg (by omega)]
  rw [pSort_snoc, e2]
  have hl : (l ++ [x]).length = l.length + 1 := by rw [List.length_append]; rfl
  rw [hl]
  constructor
  · intro p hp
    by_cases c : p = l.length
    · subst c
      rw [rk_new, hc, List.getElem?_append_right (Nat.le_refl _), Nat.sub_self, List.getElem?_append_right (Nat.le_refl _), Nat.sub_self]
      rfl
    · have hp2 : p < l.length := by omega
      rw [hrk p hp2, List.getElem?_append_left hp2, ← h1 p hp2, e1]
      by_cases d : rkP l p < A.length
      · rw [if_pos d, List.getElem?_append_left d, List.getElem?_append_left d]
      · rw [if_neg d, List.getElem?_append_right (by omega), List.getElem?_append_right (by omega), show rkP l p + 1 - A.length = (rkP l p - A.length) + 1 by omega, List.getElem?_cons_succ]
  · intro i hi
    by_cases c : i < A.length
    · obtain ⟨p, hp, e⟩ := h2 i (by omega)
      exact ⟨p, by omega, by rw [hrk p hp, e, if_pos c]⟩
    · by_cases d : i = A.length
      · exact ⟨l.length, by omega, by rw [rk_new, hc, d]⟩
      · obtain ⟨p, hp, e⟩ := h2 (i - 1) (by omega)
        exact ⟨p, by omega, by rw [hrk p hp, e, if_neg (by omega)]; omega⟩
theorem tm_M {S : Nat → Int32} {M k : Nat} (h : k < M) : tmP (plM S M) k = (S (64 + 3 * k)).toInt := by
  unfold tmP
  rw [plM_get, if_pos h]
  rfl
theorem e_ah {C : wB} {m M T p : Nat} (hT : T ≤ 125000) (hM : M ≤ 12) (hP : ∀ x ∈ plM (C 1) M, iP m T x) (hp : p < M) : ∀ u k : Nat, k + u = M → LX7_ah C p u k (nI ((List.range k).countP (bfP (plM (C 1) M) p))) = nI (rkP (plM (C 1) M) p) := by
  have hr : ∀ k, k < M → (T : Int) < (C 1 (64 + 3 * k)).toInt ∧ (C 1 (64 + 3 * k)).toInt ≤ T + 9999 := by
    intro k hk
    have := hP _ (List.mem_of_getElem? ((plM_get (C 1) M k).trans (if_pos hk)))
    exact this.1
  intro u
  induction u with
  | zero =>
    intro k hk
    simp only [LX7_ah]
    unfold rkP
    rw [plM_len, show k = M by omega]
  | succ u ih =>
    intro k hk
    simp only [LX7_ah]
    have hk1 := hr k (by omega)
    have hp1 := hr p hp
    have e : (C 1 (64 + 3 * k) - C 1 (64 + 3 * p)).toInt = (C 1 (64 + 3 * k)).toInt - (C 1 (64 + 3 * p)).toInt := ti_sub (by omega) (by omega)
    have hc : (List.range (k + 1)).countP (bfP (plM (C 1) M) p) = (List.range k).countP (bfP (plM (C 1) M) p) + if (C 1 (64 + 3 * k)).toInt < (C 1 (64 + 3 * p)).toInt ∨ ((C 1 (64 + 3 * k)).toInt = (C 1 (64 + 3 * p)).toInt ∧ k < p) then 1 else 0 := by
      rw [List.range_succ, List.countP_append, List.countP_cons, List.countP_nil, Nat.zero_add]
      congr 1
      unfold bfP
      rw [tm_M (show k < M by omega), tm_M hp]
      by_cases c : (C 1 (64 + 3 * k)).toInt < (C 1 (64 + 3 * p)).toInt ∨ ((C 1 (64 + 3 * k)).toInt = (C 1 (64 + 3 * p)).toInt ∧ k < p)
      · rw [if_pos c, if_pos (by simpa using c)]
      · rw [if_neg c, if_neg (by simpa using c)]
    have hi := ih (k + 1) (by omega)
    rw [hc] at hi
    by_cases c1 : C 1 (64 + 3 * k) - C 1 (64 + 3 * p) < 0
    · rw [if_pos c1]
      rw [i_lt, e, t0] at c1
      rw [if_pos (by omega)] at hi
      rw [← hi, nI_1]
    · rw [if_neg c1]
      rw [i_lt, e, t0] at c1
      by_cases c2 : C 1 (64 + 3 * k) - C 1 (64 + 3 * p) = 0
      · rw [if_pos c2]
        rw [i_eq, e, t0] at c2
        by_cases c3 : nI p ≤ nI k
        · rw [if_pos c3, Int32.add_zero]
          rw [nI_leI (by omega) (by omega)] at c3
          rw [if_neg (by omega), Nat.add_zero] at hi
          exact hi
        · rw [if_neg c3]
          rw [nI_leI (by omega) (by omega)] at c3
          rw [if_pos (by omega)] at hi
          rw [← hi, nI_1]
      · rw [if_neg c2, Int32.add_zero]
        rw [i_eq, e, t0] at c2
        rw [if_neg (by omega), Nat.add_zero] at hi
        exact hi
theorem e_pl {C : wB} {a : Int32} {M : Nat} : ∀ (u k f : Nat), k + u = M → ((f < M ∧ fX7_ahead C f = a) ∨ ∃ q, k ≤ q ∧ q < M ∧ fX7_ahead C q = a) → LX7_pl C a u k f < M ∧ fX7_ahead C (LX7_pl C a u k f) = a := by
  intro u
  induction u with
  | zero =>
    intro k f hk h
    rcases h with h | ⟨q, h1, h2, h3⟩
    · exact h
    · omega
  | succ u ih =>
    intro k f hk h
    simp only [LX7_pl]
    by_cases c : fX7_ahead C k = a
    · rw [if_pos c]
      exact ih (k + 1) k (by omega) (Or.inl ⟨by omega, c⟩)
    · rw [if_neg c]
      refine ih (k + 1) f (by omega) ?_
      rcases h with h | ⟨q, h1, h2, h3⟩
      · exact Or.inl h
      · refine Or.inr ⟨q, ?_, h2, h3⟩
        by_cases d : q = k
        · subst d; exact absurd h3 c
        · omega
theorem a_planned {Z : wZ} {m M T : Nat} (h : RB m M T (Z 0) (Z 12 1)) (a b : Int32) : fX6_planned Z a b = fX7_planned (Z 12) a b := by
  unfold fX6_planned fX7_planned
  obtain ⟨-, ⟨-, -, hT⟩, ⟨g1, g2, hM⟩, -, -, -, hpl, hiP⟩ := h
  rw [in_in, in_in, g1, g2, nI_clamp (show M < 2 ^ 31 by omega)]
  have e1 : (nI M - 1).toInt = (M : Int) - 1 := (ti_sub (by rw [nI_ti (by omega), t1]; omega) (by rw [nI_ti (by omega), t1]; omega)).trans (by rw [nI_ti (by omega), t1])
  by_cases c1 : a < 0
  · simp only [c1, if_true]
  · by_cases c2 : nI M ≤ a
    · have c3 : nI M - 1 < a := by rw [i_lt, e1]; rw [i_le, nI_ti (by omega)] at c2; omega
      simp only [c1, c2, c3, if_true, if_false]
    · have c3 : ¬ nI M - 1 < a := by rw [i_lt, e1]; rw [i_le, nI_ti (by omega)] at c2; omega
      have e12 : (12 : Int32).toInt = 12 := by decide
      have c4 : a < 12 := by rw [i_lt, e12]; rw [i_le, nI_ti (by omega)] at c2; omega
      simp only [c1, c2, c3, c4, if_true, if_false, i32_10]
      have h5 := tn_of (a := a) (by rw [i_lt, t0] at c1; omega)
      have h6 := i_nn (x := a) (by rw [i_lt, t0] at c1; omega)
      rw [i_le, nI_ti (by omega)] at c2
      have hi : a.toNatClampNeg < M := by omega
      obtain ⟨s1, s2⟩ := rk_spec (plM (Z 12 1) M)
      rw [plM_len] at s1 s2
      have hah : ∀ p, p < M → fX7_ahead (Z 12) p = nI (rkP (plM (Z 12 1) M) p) := by
        intro p hp
        unfold fX7_ahead
        rw [g1, nI_clamp (show M < 2 ^ 31 by omega), ← e_ah hT hM hiP hp M 0 (by omega)]
        rfl
      obtain ⟨p0, hp0, hr0⟩ := s2 _ hi
      obtain ⟨k1, k2⟩ := e_pl (C := Z 12) (a := a) (M := M) M 0 0 (by omega) (Or.inr ⟨p0, by omega, hp0, by rw [hah p0 hp0, hr0, h6]⟩)
      generalize LX7_pl (Z 12) a M 0 0 = r at *
      rw [hah r k1] at k2
      have hrr : rkP (plM (Z 12 1) M) r = a.toNatClampNeg := by
        have hb : rkP (plM (Z 12 1) M) r ≤ M := by
          unfold rkP
          refine Nat.le_trans List.countP_le_length ?_
          rw [List.length_range, plM_len]
          omega
        rw [← k2, nI_clamp (by omega)]
      have hg := s1 r k1
      rw [hrr, ← hpl, plC_get, if_pos hi, plM_get, if_pos k1] at hg
      have hg := Option.some.inj hg
      have g11 : Z 0 11 a.toNatClampNeg = Z 12 1 (64 + 3 * r) := congrArg Prod.fst hg
      have g12 : Z 0 12 a.toNatClampNeg = Z 12 1 (64 + 3 * r + 1) := congrArg (fun x => x.2.1) hg
      have g13 : Z 0 13 a.toNatClampNeg = Z 12 1 (64 + 3 * r + 2) := congrArg (fun x => x.2.2) hg
      rw [g11, g12, g13]
      unfold gX7_pl
      by_cases d0 : b = 0
      · subst d0
        rw [if_pos rfl, if_neg (by decide), if_neg (by decide), Int32.add_zero]
        rfl
      · rw [if_neg d0]
        by_cases d1 : b = 1
        · subst d1
          rw [if_pos rfl, if_neg (by decide), if_neg (by decide), Int32.add_zero]
          rfl
        · rw [if_neg d1]
          by_cases d2 : b = 2
          · subst d2
            rw [if_pos rfl, if_neg (by decide), if_pos rfl]
            rfl
          · rw [if_neg d2]
            by_cases e0 : b < 0
            · rw [if_pos e0, if_pos rfl]
            · by_cases e2 : (2 : Int32) < b
              · rw [if_neg e0, if_pos e2, if_pos rfl]
              · exfalso
                have q2 : (2 : Int32).toInt = 2 := by decide
                rw [i_eq, t0] at d0
                rw [i_eq, t1] at d1
                rw [i_eq, q2] at d2
                rw [i_lt, t0] at e0
                rw [i_lt, q2] at e2
                omega

/-! plan -/
theorem RB_plans {m M M' T : Nat} {B B' : wB} {S S' : Nat → Int32} (h : RB m M T B S) (hM' : M' ≤ 12) (hB : ∀ j q, j < 11 → ¬ (j = 0 ∧ q = 1) → B' j q = B j q) (hS : ∀ q, q < 63 → S' q = S q) (h1 : B' 0 1 = nI M') (h2 : S' 63 = nI M') (h3 : plC B' M' = pSort (plM S' M')) (h4 : ∀ x ∈ plM S' M', iP m T x) : RB m M' T B' S' := by
  obtain ⟨⟨a1, a2, a3⟩, ⟨b1, b2, b3⟩, ⟨c1, c2, c3⟩, ⟨d1, d2⟩, e, f, g, i⟩ := h
  refine ⟨⟨by rw [hS 6 (by omega)]; exact a1, by rw [hB 0 0 (by omega) (by omega)]; exact a2, a3⟩, ⟨by rw [hS 5 (by omega)]; exact b1, by rw [hB 0 2 (by omega) (by omega)]; exact b2, b3⟩, ⟨h2, h1, hM'⟩, ⟨?_, ?_⟩, fun k hk => ?_, fun k h1 h2 q hq => ?_, h3, h4⟩
  · unfold rR
    rw [hB 1 0 (by omega) (by omega), hB 1 1 (by omega) (by omega), hB 1 2 (by omega) (by omega), hB 1 3 (by omega) (by omega), hB 1 4 (by omega) (by omega), hS 0 (by omega), hS 1 (by omega), hS 2 (by omega), hS 3 (by omega), hS 4 (by omega)]
    exact d1
  · unfold iR
    rw [hS 0 (by omega), hS 1 (by omega), hS 2 (by omega), hS 3 (by omega), hS 4 (by omega)]
    exact d2
  · exact ⟨rS_c (e k hk).1 (fun q hq => hB _ _ (by omega) (by omega)) (fun q hq => hB _ _ (by omega) (by omega)) (e k hk).2.2.2.2.1.2 (fun q hq => hS _ (by omega)), iS_c (e k hk).2 (fun q hq => hS _ (by omega))⟩
  · rw [hB _ _ (by omega) (by omega), hS _ (by omega)]
    exact f k h1 h2 q hq
def inC (D : wB) (k : Nat) (x : wP) (v : Int32) : wB := bput (bput (bput (bput D 11 k x.1) 12 k x.2.1) 13 k x.2.2) 0 1 v
theorem inC_list {B : wB} {M : Nat} {A Q : List wP} {x : wP} {v : Int32} (e : plC B M = A ++ Q) : plC (inC (shB B A.length M) A.length x v) (M + 1) = A ++ x :: Q := by
  have hl : A.length + Q.length = M := by rw [← List.length_append, ← e, plC_len]
  apply List.ext_getElem?
  intro i
  have hg : ∀ i, (A ++ Q)[i]? = if i < M then some (B 11 i, B 12 i, B 13 i) else none := fun i => by rw [← e, plC_get]
  rw [plC_get]
  by_cases c1 : i < A.length
  · have := hg i
    rw [List.getElem?_append_left c1, if_pos (by omega)] at this
    rw [List.getElem?_append_left c1, this, if_pos (by omega)]
    simp only [inC, bput, shB]
    simp (config := { decide := true }) [show ¬ i = A.length by omega, show ¬ A.length < i by omega]
  · by_cases c2 : i = A.length
    · subst c2
      rw [List.getElem?_append_right (Nat.le_refl _), Nat.sub_self, if_pos (by omega)]
      simp [inC, bput]
    · have hi : i - 1 - A.length + 1 = i - A.length := by omega
      have := hg (i - 1)
      rw [List.getElem?_append_right (by omega)] at this
      rw [List.getElem?_append_right (by omega), ← hi, List.getElem?_cons_succ, this]
      by_cases c3 : i < M + 1
      · rw [if_pos c3, if_pos (by omega)]
        simp only [inC, bput, shB]
        simp (config := { decide := true }) [c2, show A.length < i by omega, show i ≤ M by omega]
      · rw [if_neg c3, if_neg (by omega)]
theorem isPlace_eq (c : Int32) : fX0_isPlace c = fX7_isPlace c := rfl
theorem place_ok {c : Int32} (h : ¬ fX7_isPlace c = 0) : c.toInt ≤ 9999 ∧ -9999 ≤ c.toInt := by
  have h1 : ¬ fX7_in c (-9999) 9999 = 0 := h
  have h2 := in_ok h1
  have e1 : (-9999 : Int32).toInt = -9999 := by decide
  have e2 : (9999 : Int32).toInt = 9999 := by decide
  rw [e1, e2] at h2
  exact ⟨h2.2, h2.1⟩
theorem d_plan {m M T : Nat} {B C : wB} (h : RB m M T B (C 1)) (a b c : Int32) : rO C (fX0_addPlan B a b c) (fX7_plans C a b c) := by
  have h' := h
  obtain ⟨⟨a1, a2, a3⟩, ⟨b1, b2, b3⟩, ⟨c1, c2, c3⟩, hR, e, f, g, i⟩ := h'
  unfold fX0_addPlan fX7_plans
  dsimp only
  rcases q_find h b with ⟨h1, h2, h3, h4⟩ | ⟨h1, h2⟩
  · rw [if_pos h1, if_neg h2, in_in]
    by_cases k1 : a < 1
    · rw [if_pos k1, if_pos k1, if_pos rfl]; exact rO_self h _
    by_cases k2 : (9999 : Int32) < a
    · rw [if_neg k1, if_neg k1, if_pos k2, if_pos k2, if_pos rfl]; exact rO_self h _
    rw [if_neg k1, if_neg k1, if_neg k2, if_neg k2, if_neg i32_10, isPlace_eq]
    by_cases k3 : fX7_isPlace c = 0
    · rw [if_pos k3, if_pos k3]; exact rO_self h _
    rw [if_neg k3, if_neg k3, c2, c1, if_neg (nI_pos (show M < 2 ^ 31 by omega)), nI_clamp (show M < 2 ^ 31 by omega)]
    have e12 : (12 : Int32) = nI 12 := rfl
    by_cases k4 : M = 12
    · subst k4
      rw [if_neg (by decide), if_pos (by decide)]; exact rO_self h _
    rw [if_pos (by rw [e12, nI_ltI (by omega) (by omega)]; omega), if_neg (fun x => by rw [i_eq, nI_ti (by omega), e12, nI_ti (by omega)] at x; omega)]
    rw [i_lt, t1] at k1
    have e9 : (9999 : Int32).toInt = 9999 := by decide
    rw [i_lt, e9] at k2
    have eT : (nI T).toInt = (T : Int) := nI_ti (by omega)
    have et : (nI T + a).toInt = T + a.toInt := (ti_add (by rw [eT]; omega) (by rw [eT]; omega)).trans (by rw [eT])
    obtain ⟨A, Q, p1, p2, p3, p4⟩ := pIns_split (nI T + a, b, c) (plC B M) (by rw [g]; exact pSort_sorted _)
    have hl : A.length + Q.length = M := by rw [← List.length_append, ← p1, plC_len]
    have hg : ∀ i, (A ++ Q)[i]? = if i < M then some (B 11 i, B 12 i, B 13 i) else none := fun i => by rw [← p1, plC_get]
    have hsh : LX0_shift a M B = (A.length, shB B A.length M) := by
      refine sh_eq M B (by omega) (by omega) (fun h0 => ?_) (fun k hk1 hk2 => ?_)
      · have hx := hg (A.length - 1)
        rw [List.getElem?_append_left (by omega), if_pos (by omega)] at hx
        have := p3 _ (List.mem_of_getElem? hx)
        rw [b2, i_le]
        exact this
      · have hx := hg k
        rw [List.getElem?_append_right hk1, if_pos (by omega)] at hx
        have := p4 _ (List.mem_of_getElem? hx)
        rw [b2, i_le]
        dsimp only at this
        omega
    rw [hsh]
    unfold gX0_ins
    dsimp only
    have s02 : shB B A.length M 0 2 = nI T := by unfold shB; rw [if_neg (by omega)]; exact b2
    have s01 : shB B A.length M 0 1 = nI M := by unfold shB; rw [if_neg (by omega)]; exact c2
    rw [s02, s01, b1, ← h4]
    have hrow : ∀ v w, (bput (bput (bput (bput C 1 (64 + 3 * M) (nI T + a)) 1 (64 + 3 * M + 1) b) 1 (64 + 3 * M + 2) c) 1 63 v) 1 w = if w = 63 then v else if w = 64 + 3 * M + 2 then c else if w = 64 + 3 * M + 1 then b else if w = 64 + 3 * M then nI T + a else C 1 w := fun v w => by rw [bp_row, bp_row, bp_row, bp_row]
    have e63 : (bput (bput (bput C 1 (64 + 3 * M) (nI T + a)) 1 (64 + 3 * M + 1) b) 1 (64 + 3 * M + 2) c) 1 63 = nI M := by rw [bp_row, if_neg (by omega), bp_row, if_neg (by omega), bp_row, if_neg (by omega)]; exact c1
    rw [e63, nI_1]
    have hp : plM (bput (bput (bput (bput C 1 (64 + 3 * M) (nI T + a)) 1 (64 + 3 * M + 1) b) 1 (64 + 3 * M + 2) c) 1 63 (nI (M + 1)) 1) (M + 1) = plM (C 1) M ++ [(nI T + a, b, c)] := by
      rw [plM_snoc, hrow, hrow, hrow]
      rw [plM_c (S := C 1) fun q h1 h2 => by rw [hrow, if_neg (by omega), if_neg (by omega), if_neg (by omega), if_neg (by omega)]]
      rw [if_neg (by omega), if_neg (by omega), if_neg (by omega), if_pos rfl, if_neg (by omega), if_neg (by omega), if_pos rfl, if_neg (by omega), if_pos rfl]
    refine ⟨rfl, ⟨m, M + 1, T, RB_plans h (by omega) (fun j q h5 h6 => ?_) (fun q hq => ?_) (by dsimp only; rw [bput_h]) ?_ ?_ ?_⟩, fun j hj => by dsimp only; rw [bp_off hj, bp_off hj, bp_off hj, bp_off hj]⟩
    · dsimp only
      rw [show ∀ D v, bput D 0 1 v j q = D j q from fun D v => if_neg h6, bput_j (by omega), bput_j (by omega), bput_j (by omega)]
      unfold shB
      rw [if_neg (by omega)]
    · dsimp only
      rw [hrow, if_neg (by omega), if_neg (by omega), if_neg (by omega), if_neg (by omega)]
    · dsimp only
      rw [hrow, if_pos rfl]
    · dsimp only
      rw [hp, pSort_snoc, ← g, p2]
      exact inC_list (x := (nI T + a, b, c)) (v := nI (M + 1)) p1
    · dsimp only
      rw [hp]
      intro x hx
      rcases List.mem_append.mp hx with hx | hx
      · exact i x hx
      · rw [List.mem_singleton.mp hx]
        refine ⟨?_, ⟨_, h3, h4⟩, place_ok k3⟩
        dsimp only
        rw [et]
        omega
  · rw [if_neg h1, if_pos h2]
    exact rO_self h _

/-! a tick: the time, and the plans that are due. In the midst of a tick: shafts below k are as iS has them, the others as gS 0 1 -/
def tP (m T k : Nat) (B : wB) (S : Nat → Int32) : Prop :=
  (S 6 = nI m ∧ B 0 0 = nI m ∧ m ≤ 4) ∧ (S 5 = nI T ∧ B 0 2 = nI T ∧ T ≤ 125000) ∧ (rR B S ∧ iR S) ∧
  (∀ n, n < m → rS B S n ∧ (n < k → iS S T n) ∧ (k ≤ n → gS S T 0 1 n)) ∧ ∀ n, m ≤ n → n < 4 → ∀ q, q < 11 → B (3 + n) q = 0 ∧ S (7 + 14 * n + 8) = 0
def tL (m M T : Nat) (B : wB) (S : Nat → Int32) : Prop := (S 63 = nI M ∧ B 0 1 = nI M ∧ M ≤ 12) ∧ plC B M = pSort (plM S M) ∧ ∀ x ∈ plM S M, iP m T x
theorem tP_RB {m M T : Nat} {B : wB} {S : Nat → Int32} (h1 : tP m T m B S) (h2 : tL m M T B S) : RB m M T B S :=
  ⟨h1.1, h1.2.1, h2.1, h1.2.2.1, fun n hn => ⟨(h1.2.2.2.1 n hn).1, (h1.2.2.2.1 n hn).2.1 hn⟩, h1.2.2.2.2, h2.2⟩
theorem find_nI {B : wB} {m j : Nat} (h : B 0 0 = nI m) (hm : m ≤ 4) (hj : j < 4) : hX0_find B (nI j) ↔ j < m := by
  unfold hX0_find
  rw [h]
  have e4 : (4 : Int32) = nI 4 := rfl
  constructor
  · rintro ⟨-, h2, -⟩
    rw [nI_leI (by omega) (by omega)] at h2; omega
  · intro hj2
    exact ⟨nI_pos (by omega), by rw [nI_leI (by omega) (by omega)]; omega, by rw [e4, nI_ltI (by omega) (by omega)]; omega⟩
theorem gS_c {S S' : Nat → Int32} {T n : Nat} {d e : Int} (h : gS S T d e n) (h3 : ∀ q, q < 14 → S' (7 + 14 * n + q) = S (7 + 14 * n + q)) : gS S' T d e n := by
  unfold gS jS at h ⊢
  rw [h3 0 (by decide), h3 5 (by decide), h3 6 (by decide), h3 8 (by decide), h3 4 (by decide), h3 7 (by decide), h3 12 (by decide), h3 2 (by decide), h3 3 (by decide)]
  refine ⟨⟨h.1.1, h.1.2.1, h.1.2.2.1, h.1.2.2.2.1, h.1.2.2.2.2.1, h.1.2.2.2.2.2.1, fun q hq => ?_⟩, h.2⟩
  rw [h3 (9 + q) (by have := h.1.2.2.1.2; omega)]
  exact h.1.2.2.2.2.2.2 q hq
theorem tP_w {m T k n : Nat} {B : wB} {S : Nat → Int32} (h : tP m T k B S) (hn : n < m) : (S (7 + 14 * n + 8)).toInt ≤ 3 := by
  obtain ⟨-, h1, h2⟩ := h.2.2.2.1 n hn
  by_cases c : n < k
  · exact (h1 c).2.2.2.1.2
  · exact (h2 (by omega)).1.2.2.1.2
theorem tP_shaft {m T k k' n : Nat} {B B' : wB} {S S' : Nat → Int32} (h : tP m T k B S) (hn : n < m) (hB : ∀ j q, j ≠ 3 + n → j ≠ 7 + n → B' j q = B j q) (hS : ∀ q, (q < 7 + 14 * n ∨ 7 + 14 * n + 14 ≤ q) → S' q = S q) (hk : ∀ i, i ≠ n → (i < k' ↔ i < k)) (hr : rS B' S' n) (h1 : n < k' → iS S' T n) (h2 : k' ≤ n → gS S' T 0 1 n) : tP m T k' B' S' := by
  have hw := fun i (hi : i < m) => tP_w h hi
  obtain ⟨⟨a1, a2, a3⟩, ⟨b1, b2, b3⟩, ⟨d1, d2⟩, e, f⟩ := h
  refine ⟨⟨by rw [hS 6 (by omega)]; exact a1, by rw [hB 0 0 (by omega) (by omega)]; exact a2, a3⟩, ⟨by rw [hS 5 (by omega)]; exact b1, by rw [hB 0 2 (by omega) (by omega)]; exact b2, b3⟩, ⟨rR_c2 d1 (fun q => hB 1 q (by omega) (by omega)) fun q hq => hS q (by omega), iR_c d2 fun q hq => hS q (by omega)⟩, fun i hi => ?_, fun i i1 i2 q hq => ?_⟩
  · by_cases c : i = n
    · subst c; exact ⟨hr, h1, h2⟩
    · obtain ⟨e1, e2, e3⟩ := e i hi
      have hrow : ∀ q, q < 14 → S' (7 + 14 * i + q) = S (7 + 14 * i + q) := fun q hq => hS _ (by omega)
      have hki := hk i c
      exact ⟨rS_c e1 (fun q hq => hB _ _ (by omega) (by omega)) (fun q hq => hB _ _ (by omega) (by omega)) (hw i hi) hrow, fun q => iS_c (e2 (hki.mp q)) hrow, fun q => gS_c (e3 (by omega)) hrow⟩
  · rw [hB _ _ (by omega) (by omega), hS _ (by omega)]; exact f i i1 i2 q hq
theorem tP_plans {m T k : Nat} {B B' : wB} {S S' : Nat → Int32} (h : tP m T k B S) (hB : ∀ j q, j < 11 → ¬ (j = 0 ∧ q = 1) → B' j q = B j q) (hS : ∀ q, q < 63 → S' q = S q) : tP m T k B' S' := by
  have hw := fun i (hi : i < m) => tP_w h hi
  obtain ⟨⟨a1, a2, a3⟩, ⟨b1, b2, b3⟩, ⟨d1, d2⟩, e, f⟩ := h
  refine ⟨⟨by rw [hS 6 (by omega)]; exact a1, by rw [hB 0 0 (by omega) (by omega)]; exact a2, a3⟩, ⟨by rw [hS 5 (by omega)]; exact b1, by rw [hB 0 2 (by omega) (by omega)]; exact b2, b3⟩, ⟨rR_c2 d1 (fun q => hB 1 q (by omega) (by omega)) fun q hq => hS q (by omega), iR_c d2 fun q hq => hS q (by omega)⟩, fun i hi => ?_, fun i i1 i2 q hq => ?_⟩
  · obtain ⟨e1, e2, e3⟩ := e i hi
    have hrow : ∀ q, q < 14 → S' (7 + 14 * i + q) = S (7 + 14 * i + q) := fun q hq => hS _ (by omega)
    exact ⟨rS_c e1 (fun q hq => hB _ _ (by omega) (by omega)) (fun q hq => hB _ _ (by omega) (by omega)) (hw i hi) hrow, fun q => iS_c (e2 q) hrow, fun q => gS_c (e3 q) hrow⟩
  · rw [hB _ _ (by omega) (by omega), hS _ (by omega)]; exact f i i1 i2 q hq
theorem dn_eq : ∀ (u k : Nat) (B : wB), 1 ≤ k → k + u ≤ 12 → LX0_down u k B = fun j i => if 11 ≤ j ∧ j < 14 ∧ k ≤ i + 1 ∧ i + 1 < k + u then B j (i + 1) else B j i := by
  intro u
  induction u with
  | zero =>
    intro k B _ _
    simp only [LX0_down]
    funext j i
    rw [if_neg (by omega)]
  | succ u ih =>
    intro k B h1 h2
    simp only [LX0_down]
    obtain ⟨p, rfl⟩ : ∃ p, k = p + 1 := ⟨k - 1, by omega⟩
    rw [nI_pred, cp_eq (by omega) (by omega), ih _ _ (by omega) (by omega)]
    funext j i
    by_cases c : 11 ≤ j ∧ j < 14
    · by_cases d : p + 1 + 1 ≤ i + 1 ∧ i + 1 < p + 1 + 1 + u
      · rw [if_pos (by omega), if_neg (by omega), if_pos (by omega)]
      · by_cases d2 : i = p
        · subst d2
          rw [if_neg (by omega), if_pos (by omega), if_pos (by omega)]
        · rw [if_neg (by omega), if_neg (by omega), if_neg (by omega)]
    · rw [if_neg (by omega), if_neg (by omega), if_neg (by omega)]
theorem dr_eq {B : wB} {N : Nat} (h : B 0 1 = nI (N + 1)) (hN : N + 1 ≤ 12) : gX0_drop B 0 1 = nI N ∧ (∀ j q, j < 11 → ¬ (j = 0 ∧ q = 1) → gX0_drop B j q = B j q) ∧ plC (gX0_drop B) N = (plC B (N + 1)).tail := by
  unfold gX0_drop gX0_dec
  rw [h, nI_clamp (by omega), Nat.add_sub_cancel, dn_eq N 1 B (by decide) (by omega)]
  refine ⟨?_, fun j q h1 h2 => ?_, ?_⟩
  · rw [bput_h]
    dsimp only
    rw [if_neg (by omega), h, nI_pred]
  · rw [show ∀ D v, bput D 0 1 v j q = D j q from fun D v => if_neg h2, if_neg (by omega)]
  · apply List.ext_getElem?
    intro i
    rw [List.getElem?_tail, plC_get, plC_get]
    by_cases c : i < N
    · rw [if_pos c, if_pos (by omega), bput_j (by decide), bput_j (by decide), bput_j (by decide)]
      rw [if_pos (by omega), if_pos (by omega), if_pos (by omega)]
    · rw [if_neg c, if_neg (by omega)]
theorem ar_stop {T N : Nat} {B : wB} {R : List wP} (hT : T ≤ 125000) (hN : N ≤ 12) (h1 : plC B N = R) (h2 : B 0 1 = nI N) (h3 : B 0 2 = nI T) (hR : ∀ x ∈ R, ¬ x.1.toInt = (T : Int)) (w : Nat) : LX0_arr w B = B := by
  cases w with
  | zero => rfl
  | succ w =>
    simp only [LX0_arr]
    by_cases c : B 0 1 ≤ 0
    · rw [if_pos c]
    · rw [if_neg c, if_neg]
      intro d
      rw [h2, i_le, nI_ti (by omega), t0] at c
      have hx := plC_get B N 0
      rw [if_pos (by omega), h1] at hx
      refine hR _ (List.mem_of_getElem? hx) ?_
      dsimp only
      rw [d, h3, nI_ti (by omega)]
/-- the plans come, on both sides -/
theorem d_pc {m T : Nat} {l R : List wP} (hT : T ≤ 125000) (hl : ∀ x ∈ l, (∃ j : Nat, j < m ∧ x.2.1 = nI j) ∧ (x.2.2.toInt ≤ 9999 ∧ -9999 ≤ x.2.2.toInt)) (hl12 : l.length ≤ 12) (hR : ∀ x ∈ R, ¬ x.1.toInt = (T : Int)) : ∀ (u k q w N : Nat) (B C : wB), tP m T 0 B (C 1) → k + u = l.length → q ≤ k →
    (∀ i, k ≤ i → i < l.length → l[i]? = some (C 1 (64 + 3 * i), C 1 (64 + 3 * i + 1), C 1 (64 + 3 * i + 2))) → plM (C 1) q = (l.take k).filter (fun x => !decide (x.1.toInt = (T : Int))) →
    plC B N = (l.drop k).filter (fun x => decide (x.1.toInt = (T : Int))) ++ R → B 0 1 = nI N → N ≤ 12 → ((l.drop k).filter (fun x => decide (x.1.toInt = (T : Int)))).length ≤ w →
    ∃ q' C', LX7_pc u k q C = (q', C') ∧ q' ≤ 12 ∧ plM (C' 1) q' = l.filter (fun x => !decide (x.1.toInt = (T : Int))) ∧ tP m T 0 (LX0_arr w B) (C' 1) ∧ (∀ j, j ≠ 1 → C' j = C j) ∧ plC (LX0_arr w B) R.length = R ∧ LX0_arr w B 0 1 = nI R.length := by
  intro u
  induction u with
  | zero =>
    intro k q w N B C hP hk hq hrow hM hC hN hN12 hw
    rw [List.drop_eq_nil_of_le (by omega), List.filter_nil, List.nil_append] at hC
    rw [List.take_of_length_le (by omega)] at hM
    have hNR : N = R.length := by rw [← hC, plC_len]
    rw [ar_stop hT hN12 hC hN hP.2.1.2.1 hR, ← hNR]
    exact ⟨q, C, rfl, by omega, hM, hP, fun _ _ => rfl, hC, hN⟩
  | succ u ih =>
    intro k q w N B C hP hk hq hrow hM hC hN hN12 hw
    have hx := hrow k (Nat.le_refl _) (by omega)
    have hkl : k < l.length := by omega
    have hdrop : l.drop k = (C 1 (64 + 3 * k), C 1 (64 + 3 * k + 1), C 1 (64 + 3 * k + 2)) :: l.drop (k + 1) := by
      rw [List.drop_eq_getElem_cons hkl]
      rw [List.getElem?_eq_getElem hkl] at hx
      rw [Option.some.inj hx]
    have htake : l.take (k + 1) = l.take k ++ [(C 1 (64 + 3 * k), C 1 (64 + 3 * k + 1), C 1 (64 + 3 * k + 2))] := by
      rw [List.take_add_one, hx]; rfl
    obtain ⟨⟨j, hj, hxj⟩, hxa⟩ := hl _ (List.mem_of_getElem? hx)
    dsimp only at hxj hxa
    have eT : (nI T).toInt = (T : Int) := nI_ti (by omega)
    simp only [LX7_pc]
    rw [hdrop] at hC hw
    by_cases c : C 1 (64 + 3 * k) = C 1 5
    · rw [if_pos c]
      have cT : (C 1 (64 + 3 * k)).toInt = (T : Int) := by rw [c, hP.2.1.1, eT]
      rw [List.filter_cons_of_pos (by simpa using cT)] at hC hw
      rw [hxj, nI_clamp (show j < 2 ^ 31 by have := hP.1.2.2; omega)]
      obtain ⟨N', rfl⟩ : ∃ N', N = N' + 1 := by
        cases N with
        | zero => exact absurd (congrArg List.length hC) (by rw [plC_len]; simp)
        | succ N' => exact ⟨N', rfl⟩
      obtain ⟨w', rfl⟩ : ∃ w', w = w' + 1 := by
        cases w with
        | zero => exact absurd hw (by simp)
        | succ w' => exact ⟨w', rfl⟩
      have hg := plC_get B (N' + 1) 0
      rw [if_pos (by omega), hC, List.cons_append, List.getElem?_cons_zero] at hg
      have hg := Option.some.inj hg
      have g11 : B 11 0 = C 1 (64 + 3 * k) := (congrArg Prod.fst hg).symm
      have g12 : B 12 0 = C 1 (64 + 3 * k + 1) := (congrArg (fun x => x.2.1) hg).symm
      have g13 : B 13 0 = C 1 (64 + 3 * k + 2) := (congrArg (fun x => x.2.2) hg).symm
      obtain ⟨e1, e2, e3⟩ := hP.2.2.2.1 j hj
      have hm4 := hP.1.2.2
      obtain ⟨c1, c2, c3, c4, c5⟩ := d_comes (by decide) hP.2.2.1.1 hP.2.2.1.2 hP.2.1.1 hT e1 (e3 (by omega)) hxa
      have hpl : gX0_plan1 B = fX5_beginOrWait j B (C 1 (64 + 3 * k + 2)) (nI T) := by
        unfold gX0_plan1
        rw [g12, hxj, if_pos ((find_nI hP.1.2.1 hm4 (by omega)).mpr hj), nI_clamp (by omega), g13, hP.2.1.2.1]
      have harr : LX0_arr (w' + 1) B = LX0_arr w' (gX0_drop (fX5_beginOrWait j B (C 1 (64 + 3 * k + 2)) (nI T))) := by
        simp only [LX0_arr]
        rw [if_neg (by rw [hN, i_le, nI_ti (by omega), t0]; omega), if_pos (by rw [g11, c, hP.2.1.1, hP.2.1.2.1]), hpl]
      rw [harr]
      have hP2 : tP m T 0 (fX5_beginOrWait j B (C 1 (64 + 3 * k + 2)) (nI T)) (fX7_comes C j (C 1 (64 + 3 * k + 2)) 1) := tP_shaft hP hj c5 c3 (fun i _ => Iff.rfl) c1 (fun q => absurd q (by omega)) (fun _ => c2)
      generalize hB1 : fX5_beginOrWait j B (C 1 (64 + 3 * k + 2)) (nI T) = B1 at *
      generalize hC1 : fX7_comes C j (C 1 (64 + 3 * k + 2)) = C1 at *
      obtain ⟨d1, d2, d3⟩ := dr_eq (B := B1) (N := N') (by rw [c5 0 1 (by omega) (by omega)]; exact hN) hN12
      have hpB : plC B1 (N' + 1) = plC B (N' + 1) := plC_c fun q _ => ⟨c5 _ _ (by omega) (by omega), c5 _ _ (by omega) (by omega), c5 _ _ (by omega) (by omega)⟩
      obtain ⟨q', C', r1, r2, r3, r4, r5, r6, r7⟩ := ih (k + 1) q w' N' (gX0_drop B1) C1 (tP_plans hP2 d2 fun _ _ => rfl) (by omega) (by omega) (fun i i1 i2 => by rw [c3 _ (by omega), c3 _ (by omega), c3 _ (by omega)]; exact hrow i (by omega) i2)
        (by rw [plM_c (S := C 1) (fun q h1 h2 => c3 q (by omega)), hM, htake, List.filter_append, List.filter_cons_of_neg (by simpa using cT), List.filter_nil, List.append_nil])
        (by rw [d3, hpB, hC]; rfl) d1 (by omega) (by simpa using hw)
      exact ⟨q', C', r1, r2, r3, r4, fun i hi => (r5 i hi).trans (c4 i hi), r6, r7⟩
    · rw [if_neg c]
      have cT : ¬ (C 1 (64 + 3 * k)).toInt = (T : Int) := fun q => c (by rw [i_eq, hP.2.1.1, eT]; exact q)
      rw [List.filter_cons_of_neg (by simpa using cT)] at hC hw
      rw [Nat.add_zero, Nat.add_zero]
      have hrw : ∀ v, bput (bput (bput C 1 (64 + 3 * q) (C 1 (64 + 3 * k))) 1 (64 + 3 * q + 1) (C 1 (64 + 3 * k + 1))) 1 (64 + 3 * q + 2) (C 1 (64 + 3 * k + 2)) 1 v = if v = 64 + 3 * q + 2 then C 1 (64 + 3 * k + 2) else if v = 64 + 3 * q + 1 then C 1 (64 + 3 * k + 1) else if v = 64 + 3 * q then C 1 (64 + 3 * k) else C 1 v := fun v => by rw [bp_row, bp_row, bp_row]
      have hro : ∀ j, j ≠ 1 → bput (bput (bput C 1 (64 + 3 * q) (C 1 (64 + 3 * k))) 1 (64 + 3 * q + 1) (C 1 (64 + 3 * k + 1))) 1 (64 + 3 * q + 2) (C 1 (64 + 3 * k + 2)) j = C j := fun j hj => by rw [bp_off hj, bp_off hj, bp_off hj]
      generalize bput (bput (bput C 1 (64 + 3 * q) (C 1 (64 + 3 * k))) 1 (64 + 3 * q + 1) (C 1 (64 + 3 * k + 1))) 1 (64 + 3 * q + 2) (C 1 (64 + 3 * k + 2)) = C1 at *
      obtain ⟨q', C', r1, r2, r3, r4, r5, r6, r7⟩ := ih (k + 1) (q + 1) w N B C1 (tP_plans hP (fun _ _ _ _ => rfl) fun v hv => by rw [hrw, if_neg (by omega), if_neg (by omega), if_neg (by omega)]) (by omega) (by omega)
        (fun i i1 i2 => by rw [hrw, hrw, hrw, if_neg (by omega), if_neg (by omega), if_neg (by omega), if_neg (by omega), if_neg (by omega), if_neg (by omega), if_neg (by omega), if_neg (by omega), if_neg (by omega)]; exact hrow i (by omega) i2)
        (by
          rw [plM_snoc, plM_c (S := C 1) (fun v h1 h2 => by rw [hrw, if_neg (by omega), if_neg (by omega), if_neg (by omega)]), hM, htake, List.filter_append, List.filter_cons_of_pos (by simpa using cT), List.filter_nil, hrw, hrw, hrw]
          rw [if_neg (by omega), if_neg (by omega), if_pos rfl, if_neg (by omega), if_pos rfl, if_pos rfl])
        hC hN hN12 hw
      exact ⟨q', C', r1, r2, r3, r4, fun i hi => (r5 i hi).trans (hro i hi), r6, r7⟩
/-- the next tick comes, and the plans for it -/
theorem d_arr {m M T : Nat} {B C : wB} (h : RB m M T B (C 1)) (hT : T + 1 ≤ 125000) :
    ∃ M', tP m (T + 1) 0 (fX0_arriveAt B (nI (T + 1))) (fX7_plansCome (bput C 1 5 (C 1 5 + 1)) 1) ∧ tL m M' (T + 1) (fX0_arriveAt B (nI (T + 1))) (fX7_plansCome (bput C 1 5 (C 1 5 + 1)) 1) ∧ ∀ j, j ≠ 1 → fX7_plansCome (bput C 1 5 (C 1 5 + 1)) j = C j := by
  obtain ⟨⟨a1, a2, a3⟩, ⟨b1, b2, b3⟩, ⟨c1, c2, c3⟩, ⟨d1, d2⟩, e, f, g, i⟩ := h
  have hB : ∀ j q, ¬ (j = 0 ∧ q = 2) → bput B 0 2 (nI (T + 1)) j q = B j q := fun j q hq => if_neg hq
  have hB2 : bput B 0 2 (nI (T + 1)) 0 2 = nI (T + 1) := bput_h
  have hC : ∀ q, q ≠ 5 → bput C 1 5 (C 1 5 + 1) 1 q = C 1 q := fun q hq => by rw [bp_row, if_neg hq]
  have hC5 : bput C 1 5 (C 1 5 + 1) 1 5 = nI (T + 1) := by rw [bp_row, if_pos rfl, b1, nI_1]
  have hCo : ∀ j, j ≠ 1 → bput C 1 5 (C 1 5 + 1) j = C j := fun j hj => bp_off hj
  unfold fX0_arriveAt
  generalize bput B 0 2 (nI (T + 1)) = B1 at *
  generalize bput C 1 5 (C 1 5 + 1) = C1 at *
  have hP : tP m (T + 1) 0 B1 (C1 1) := by
    refine ⟨⟨by rw [hC 6 (by decide)]; exact a1, by rw [hB 0 0 (by omega)]; exact a2, a3⟩, ⟨hC5, hB2, hT⟩, ⟨?_, ?_⟩, fun n hn => ⟨?_, fun q => absurd q (by omega), fun _ => ?_⟩, fun n h1 h2 q hq => ?_⟩
    · unfold rR
      rw [hB 1 0 (by omega), hB 1 1 (by omega), hB 1 2 (by omega), hB 1 3 (by omega), hB 1 4 (by omega), hC 0 (by decide), hC 1 (by decide), hC 2 (by decide), hC 3 (by decide), hC 4 (by decide)]
      exact d1
    · unfold iR
      rw [hC 0 (by decide), hC 1 (by decide), hC 2 (by decide), hC 3 (by decide), hC 4 (by decide)]
      exact d2
    · exact rS_c (e n hn).1 (fun q hq => hB _ _ (by omega)) (fun q hq => hB _ _ (by omega)) (e n hn).2.2.2.2.1.2 (fun q hq => hC _ (by omega))
    · exact gS_tick (e n hn).2 fun q hq => hC _ (by omega)
    · rw [hB _ _ (by omega), hC _ (by omega)]; exact f n h1 h2 q hq
  have hge : ∀ x ∈ plM (C 1) M, ((T + 1 : Nat) : Int) ≤ x.1.toInt := fun x hx => by have := (i x hx).1.1; omega
  have hsort := pSort_due ((T + 1 : Nat) : Int) (plM (C 1) M) hge
  rw [← g] at hsort
  have hpl : plM (C1 1) M = plM (C 1) M := plM_c fun q h1 h2 => hC q (by omega)
  have hplC : plC B1 M = plC B M := plC_c fun q hq => ⟨hB _ _ (by omega), hB _ _ (by omega), hB _ _ (by omega)⟩
  have hR : ∀ x ∈ pSort ((plM (C 1) M).filter fun x => !decide (x.1.toInt = ((T + 1 : Nat) : Int))), ¬ x.1.toInt = ((T + 1 : Nat) : Int) := by
    intro x hx
    have := (List.mem_filter.mp ((pSort_mem _ _).mp hx)).2
    simpa using this
  obtain ⟨q', C', r1, r2, r3, r4, r5, r6, r7⟩ := d_pc (m := m) (T := T + 1) (l := plM (C 1) M) hT (fun x hx => (i x hx).2) (by rw [plM_len]; exact c3) hR M 0 0 12 M B1 C1 hP (by rw [plM_len]; omega) (Nat.le_refl _)
    (fun k _ hk => by rw [plM_len] at hk; rw [plM_get, if_pos hk, hC _ (by omega), hC _ (by omega), hC _ (by omega)]) rfl (by rw [hplC, List.drop_zero]; exact hsort) (by rw [hB 0 1 (by omega)]; exact c2) c3
    (by rw [List.drop_zero]; refine Nat.le_trans (List.length_filter_le _ _) ?_; rw [plM_len]; exact c3)
  have hlen : q' = (pSort ((plM (C 1) M).filter fun x => !decide (x.1.toInt = ((T + 1 : Nat) : Int)))).length := by
    rw [pSort_len, ← r3, plM_len]
  have e63 : (C1 1 63).toNatClampNeg = M := by rw [hC 63 (by decide), c1, nI_clamp (by omega)]
  unfold fX7_plansCome gX7_pc
  rw [e63, r1]
  dsimp only
  have hrc : ∀ q, q < 64 + 3 * q' → q ≠ 63 → bput (rcp C' 1 (64 + 3 * q') (fun _ => 0) (100 - (64 + 3 * q'))) 1 63 (nI q') 1 q = C' 1 q := by
    intro q h1 h2
    rw [bp_row, if_neg h2]
    exact if_neg (by omega)
  have hr63 : bput (rcp C' 1 (64 + 3 * q') (fun _ => 0) (100 - (64 + 3 * q'))) 1 63 (nI q') 1 63 = nI q' := by rw [bp_row, if_pos rfl]
  have hro : ∀ j, j ≠ 1 → bput (rcp C' 1 (64 + 3 * q') (fun _ => 0) (100 - (64 + 3 * q'))) 1 63 (nI q') j = C' j := by
    intro j hj
    rw [bp_off hj]
    funext q
    exact if_neg fun x => hj x.1
  generalize bput (rcp C' 1 (64 + 3 * q') (fun _ => 0) (100 - (64 + 3 * q'))) 1 63 (nI q') = E at *
  have hpE : plM (E 1) q' = plM (C' 1) q' := plM_c fun q h1 h2 => hrc q h2 (by omega)
  rw [← hlen] at r6 r7
  refine ⟨q', tP_plans r4 (fun _ _ _ _ => rfl) (fun q hq => hrc q (by omega) (by omega)), ⟨⟨hr63, r7, r2⟩, ?_, fun x hx => ?_⟩, fun j hj => by rw [hro j hj, r5 j hj, hCo j hj]⟩
  · rw [r6, hpE, r3]
  · rw [hpE, r3] at hx
    have h1 := List.mem_filter.mp hx
    have h2 := i x h1.1
    have h3 : ¬ x.1.toInt = ((T + 1 : Nat) : Int) := by simpa using h1.2
    exact ⟨⟨by have := h2.1.1; omega, by have := h2.1.2; omega⟩, h2.2⟩

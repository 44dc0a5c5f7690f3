/-! THE RELATION of the two sides between calls -/
/-- benches alike, at a time that pass may come to -/
def RT (B : wB) (S : Nat → Int32) : Prop := RE B S ∧ (S 5).toInt ≤ 99999
/-- what undo goes back to: the class's ring, the reference's row -/
def hR (Z : wZ) : Prop := ∃ kept mark : Nat, kept ≤ 6 ∧ mark < 7 ∧ Z 11 1 0 = nI mark ∧ Z 11 1 1 = nI kept ∧ Z 12 0 0 = nI kept ∧
  ∀ j, j < kept → RT (Z (4 + (mark + 6 - j) % 7)) (fun q => Z 12 3 (100 * (kept - 1 - j) + q))
/-- what is saved -/
def sR (Z : wZ) : Prop := ∀ i, i < 2 → Z 11 4 i = Z 12 5 i ∧ (¬ Z 12 5 i = 0 → RT (Z (2 + i)) (fun q => Z 12 4 (100 * i + q)))
/-- the text -/
def pR (Z : wZ) : Prop := Z 11 6 0 = Z 12 0 1 ∧ (0 ≤ (Z 12 0 1).toInt ∧ (Z 12 0 1).toInt ≤ 80) ∧ ∀ q : Nat, (q : Int) < (Z 12 0 1).toInt → Z 11 7 q = Z 12 6 q ∧ 33 ≤ (Z 12 6 q).toInt ∧ (Z 12 6 q).toInt ≤ 126
def LR (Z : wZ) : Prop := RT (Z 0) (Z 12 1) ∧ Z 12 0 2 = -1 ∧ hR Z ∧ sR Z ∧ pR Z
theorem RT_c {B B' : wB} {S S' : Nat → Int32} (h : RT B S) (hB : ∀ j q, bval j q → B' j q = B j q) (hS : ∀ q, q < 100 → S' q = S q) : RT B' S' := by
  obtain ⟨⟨m, M, T, h1⟩, h2⟩ := h
  exact ⟨⟨m, M, T, RB_c h1 hB hS⟩, by rw [hS 5 (by decide)]; exact h2⟩
theorem RT_s {B : wB} {S S' : Nat → Int32} (h : RT B S) (hS : ∀ q, q < 100 → S' q = S q) : RT B S' := RT_c h (fun _ _ _ => rfl) hS
/-- what records writes -/
theorem rec_spec {B : wB} {kept : Nat} (hk : kept ≤ 6) (h : B 0 0 = nI kept) :
    fX7_records B 0 0 = nI (if kept = 6 then 6 else kept + 1) ∧ (∀ q, q ≠ 0 → fX7_records B 0 q = B 0 q) ∧ (∀ j, j ≠ 0 → j ≠ 3 → fX7_records B j = B j) ∧
    ∀ i q, i < (if kept = 6 then 6 else kept + 1) → q < 100 → fX7_records B 3 (100 * i + q) = if i + 1 = (if kept = 6 then 6 else kept + 1) then B 1 q else B 3 (100 * (if kept = 6 then i + 1 else i) + q) := by
  unfold fX7_records
  by_cases c : kept = 6
  · subst c
    rw [if_pos (by rw [h]; rfl), if_pos rfl]
    have e00 : rcp B 3 0 (fun q => B 3 (100 + q)) 500 0 0 - 1 = nI 5 := by
      rw [rcq_j (by decide), h]; rfl
    rw [e00]
    unfold gX7_recC gX7_rec
    rw [show bput (rcp B 3 0 (fun q => B 3 (100 + q)) 500) 0 0 (nI 5) 0 0 = nI 5 from bput_h, nI_clamp (by omega)]
    refine ⟨?_, fun q hq => ?_, fun j h0 h3 => ?_, fun i q hi hq => ?_⟩
    · rw [bput_h, rcq_j (by decide), bput_h, nI_1]
    · rw [bput_q hq, rcq_j (by decide), bput_q hq, rcq_j (by decide)]
    · rw [bput_off h0, rcq_j h3, bput_off h0, rcq_j h3]
    · rw [bput_off (by decide)]
      by_cases d : i = 5
      · subst d
        rw [rcq_i (by omega) (by omega), if_pos rfl, bput_off (by decide), rcq_j (by decide), Nat.add_sub_cancel_left]
      · rw [rcq_o (by omega), bput_off (by decide), rcq_i (by omega) (by omega), if_neg (by omega), if_pos rfl]
        congr 1
        omega
  · have h6 : ¬ B 0 0 = 6 := by
      rw [h, i_eq, nI_ti (by omega)]
      have : (6 : Int32).toInt = 6 := by decide
      rw [this]; omega
    rw [if_neg h6, if_neg c]
    unfold gX7_recC gX7_rec
    rw [h, nI_clamp (by omega)]
    refine ⟨?_, fun q hq => ?_, fun j h0 h3 => ?_, fun i q hi hq => ?_⟩
    · rw [bput_h, rcq_j (by decide), h, nI_1]
    · rw [bput_q hq, rcq_j (by decide)]
    · rw [bput_off h0, rcq_j h3]
    · rw [bput_off (by decide), if_neg c]
      by_cases d : i = kept
      · subst d
        rw [rcq_i (by omega) (by omega), if_pos rfl, Nat.add_sub_cancel_left]
      · rw [rcq_o (by omega), if_neg (by omega)]
theorem mark_eq {Z : wZ} {mark : Nat} (h : Z 11 1 0 = nI mark) (hm : mark < 7) : fX1_mark Z = wset Z (4 + mark) (Z 0) := by
  have e7 : (7 : Int32) = nI 7 := rfl
  unfold fX1_mark
  rw [h, if_neg (nI_pos (by omega)), if_neg (by rw [e7, nI_leI (by omega) (by omega)]; omega), nI_clamp (by omega)]
theorem keep_eq {B : wB} {mark kept : Nat} (h : B 1 0 = nI mark) (hm : mark < 7) (hk : B 1 1 = nI kept) (hk6 : kept ≤ 6) : fX1_keepMarked B 1 0 = nI ((mark + 1) % 7) ∧ fX1_keepMarked B 1 1 = nI (if kept = 6 then 6 else kept + 1) ∧ ∀ j, j ≠ 1 → fX1_keepMarked B j = B j := by
  have e7 : (7 : Int32) = nI 7 := rfl
  have e6 : (6 : Int32) = nI 6 := rfl
  have hkk : (if 6 < B 1 1 + 1 then 6 else B 1 1 + 1) = nI (if kept = 6 then 6 else kept + 1) := by
    rw [hk, nI_1]
    by_cases c : kept = 6
    · rw [if_pos (by rw [e6, nI_ltI (by omega) (by omega)]; omega), if_pos c]; rfl
    · rw [if_neg (by rw [e6, nI_ltI (by omega) (by omega)]; omega), if_neg c]
  unfold fX1_keepMarked
  rw [hkk, h, nI_1]
  by_cases c : mark = 6
  · subst c
    rw [if_pos (by rw [e7, nI_leI (by omega) (by omega)]; omega)]
    exact ⟨by rw [bput_q (by decide), bput_h]; rfl, bput_h, fun j hj => by rw [bput_off hj, bput_off hj]⟩
  · rw [if_neg (by rw [e7, nI_leI (by omega) (by omega)]; omega)]
    exact ⟨by rw [bput_q (by decide), bput_h, Nat.mod_eq_of_lt (by omega)], bput_h, fun j hj => by rw [bput_off hj, bput_off hj]⟩
/-- a state is put on the history -/
theorem hR_push {Z Z' : wZ} {D : wB} (h : hR Z) (hb : RT (Z 0) (Z 12 1)) (hm : ∀ i, 4 ≤ i → i < 11 → Z' i = fX1_mark Z i) (h11 : Z' 11 1 = fX1_keepMarked (Z 11) 1) (hD0 : D 0 0 = Z 12 0 0) (hD1 : ∀ q, q < 100 → D 1 q = Z 12 1 q) (hD3 : D 3 = Z 12 3)
    (h0 : Z' 12 0 0 = fX7_records D 0 0) (h3 : Z' 12 3 = fX7_records D 3) : hR Z' := by
  obtain ⟨kept, mark, k1, k2, k3, k4, k5, k6⟩ := h
  rw [mark_eq k3 k2] at hm
  obtain ⟨a1, a2, -⟩ := keep_eq k3 k2 k4 k1
  obtain ⟨r1, r2, r3, r4⟩ := rec_spec (B := D) k1 (hD0.trans k5)
  have hr : ∀ i q, i < (if kept = 6 then 6 else kept + 1) → q < 100 → Z' 12 3 (100 * i + q) = if i + 1 = (if kept = 6 then 6 else kept + 1) then Z 12 1 q else Z 12 3 (100 * (if kept = 6 then i + 1 else i) + q) := by
    intro i q hi hq
    rw [h3, r4 i q hi hq, hD1 q hq, hD3]
  have hz : ∀ p, p < 7 → Z' (4 + p) = if p = mark then Z 0 else Z (4 + p) := by
    intro p hp
    rw [hm _ (by omega) (by omega)]
    unfold wset
    by_cases c : p = mark
    · rw [if_pos (by omega), if_pos c]
    · rw [if_neg (by omega), if_neg c]
  refine ⟨if kept = 6 then 6 else kept + 1, (mark + 1) % 7, ?_, Nat.mod_lt _ (by decide), by rw [h11, a1], by rw [h11, a2], by rw [h0, r1], fun j hj => ?_⟩
  · by_cases c : kept = 6
    · rw [if_pos c]; omega
    · rw [if_neg c]; omega
  · rw [hz _ (Nat.mod_lt _ (by decide))]
    by_cases j0 : j = 0
    · subst j0
      have e : ((mark + 1) % 7 + 6 - 0) % 7 = mark := by omega
      rw [if_pos e]
      refine RT_s hb fun q hq => ?_
      by_cases c : kept = 6
      · rw [if_pos c, hr _ q (by rw [if_pos c]; omega) hq, if_pos (by rw [if_pos c])]
      · rw [if_neg c, hr _ q (by rw [if_neg c]; omega) hq, if_pos (by rw [if_neg c]; omega)]
    · have e : ((mark + 1) % 7 + 6 - j) % 7 = (mark + 6 - (j - 1)) % 7 := by
        have : j < 7 := by
          by_cases c : kept = 6
          · rw [if_pos c] at hj; omega
          · rw [if_neg c] at hj; omega
        omega
      have hne : ¬ ((mark + 1) % 7 + 6 - j) % 7 = mark := by
        have : j < 7 := by
          by_cases c : kept = 6
          · rw [if_pos c] at hj; omega
          · rw [if_neg c] at hj; omega
        omega
      rw [if_neg hne, e]
      refine RT_s (k6 (j - 1) (by
        by_cases c : kept = 6
        · rw [if_pos c] at hj; omega
        · rw [if_neg c] at hj; omega)) fun q hq => ?_
      by_cases c : kept = 6
      · rw [if_pos c] at hj
        rw [if_pos c, hr _ q (by rw [if_pos c]; omega) hq, if_neg (by rw [if_pos c]; omega), if_pos c]
        congr 1
        omega
      · rw [if_neg c] at hj
        rw [if_neg c, hr _ q (by rw [if_neg c]; omega) hq, if_neg (by rw [if_neg c]; omega), if_neg c]
        congr 1
        omega
theorem hR_c {Z Z' : wZ} (h : hR Z) (hm : ∀ i, 4 ≤ i → i < 11 → Z' i = Z i ∨ ∃ mark : Nat, Z 11 1 0 = nI mark ∧ mark < 7 ∧ i = 4 + mark) (h11 : Z' 11 1 = Z 11 1) (h0 : Z' 12 0 0 = Z 12 0 0) (h3 : Z' 12 3 = Z 12 3) : hR Z' := by
  obtain ⟨kept, mark, k1, k2, k3, k4, k5, k6⟩ := h
  refine ⟨kept, mark, k1, k2, by rw [h11]; exact k3, by rw [h11]; exact k4, by rw [h0]; exact k5, fun j hj => ?_⟩
  have hz : Z' (4 + (mark + 6 - j) % 7) = Z (4 + (mark + 6 - j) % 7) := by
    rcases hm (4 + (mark + 6 - j) % 7) (by omega) (by have := Nat.mod_lt (mark + 6 - j) (show 0 < 7 by decide); omega) with e | ⟨mk, e1, e2, e3⟩
    · exact e
    · exfalso
      rw [k3, i_eq, nI_ti (by omega), nI_ti (by omega)] at e1
      omega
  rw [hz, h3]
  exact k6 j hj
theorem sR_c {Z Z' : wZ} (h : sR Z) (h2 : Z' 2 = Z 2) (h3 : Z' 3 = Z 3) (h11 : Z' 11 4 = Z 11 4) (h4 : Z' 12 4 = Z 12 4) (h5 : Z' 12 5 = Z 12 5) : sR Z' := by
  intro i hi
  have hz : Z' (2 + i) = Z (2 + i) := by
    rcases (show i = 0 ∨ i = 1 by omega) with rfl | rfl
    · exact h2
    · exact h3
  rw [h11, h4, h5, hz]
  exact h i hi
theorem pR_c {Z Z' : wZ} (h : pR Z) (h6 : Z' 11 6 = Z 11 6) (h7 : Z' 11 7 = Z 11 7) (h1 : Z' 12 0 1 = Z 12 0 1) (h12 : Z' 12 6 = Z 12 6) : pR Z' := by
  unfold pR at h ⊢
  rw [h6, h7, h1, h12]
  exact h
theorem ws_h {Z : wZ} {i : Nat} {B : wB} : wset Z i B i = B := if_pos rfl
theorem ws_o {Z : wZ} {i i' : Nat} {B : wB} (h : i' ≠ i) : wset Z i B i' = Z i' := if_neg h
/-- an order on the bench, kept on the history if it isn't refused -/
theorem op_rec {Z : wZ} (hL : LR Z) {P r : wB × Int32} (h : rO (fX7_putAside (Z 12)) P r) (hT : (P.1 0 2).toInt ≤ 99999) : sZ LR Z (fX6_recorded (wset (fX1_mark Z) 0 P.1) P.2) (fX7_change r.1 r.2) := by
  obtain ⟨l1, l2, l3, l4, l5⟩ := hL
  obtain ⟨h1, h2, h3⟩ := h
  have hl3 := l3
  obtain ⟨kept, mark, k1, k2, k3, k4, k5, -⟩ := hl3
  have hm := mark_eq k3 k2
  obtain ⟨-, -, a3⟩ := keep_eq k3 k2 k4 k1
  have hRT : RT P.1 (r.1 1) := ⟨h2, by
    obtain ⟨m, M, T, hB⟩ := h2
    rw [hB.2.1.1, ← hB.2.1.2.1]; exact hT⟩
  have r2 : ∀ q, q < 100 → r.1 2 q = Z 12 1 q := fun q hq => by rw [h3 2 (by decide)]; exact rcq_i (Nat.zero_le _) (by omega)
  have ro : ∀ j, j ≠ 1 → j ≠ 2 → r.1 j = Z 12 j := fun j a b => by rw [h3 j a]; exact rcq_j b
  unfold fX6_recorded fX6_isError fX7_change
  rw [hm, h1]
  dsimp only
  by_cases c : 0 ≤ r.2
  · rw [if_pos c, if_pos rfl, if_pos c]
    have D0 : swp r.1 100 0 = Z 12 0 := by
      rw [← ro 0 (by decide) (by decide)]
      funext q; unfold swp; rw [if_neg (by omega), if_neg (by omega)]
    have D1 : ∀ q, q < 100 → swp r.1 100 1 q = Z 12 1 q := fun q hq => by rw [← r2 q hq]; exact if_pos ⟨rfl, hq⟩
    have D2 : ∀ q, q < 100 → swp r.1 100 2 q = r.1 1 q := fun q hq => by unfold swp; rw [if_neg (by omega), if_pos ⟨rfl, hq⟩]
    have Do : ∀ j, 3 ≤ j → swp r.1 100 j = Z 12 j := fun j hj => by
      rw [← ro j (by omega) (by omega)]
      funext q; unfold swp; rw [if_neg (by omega), if_neg (by omega)]
    generalize swp r.1 100 = D at *
    obtain ⟨s1, s2, s3, s4⟩ := rec_spec (B := D) k1 (by rw [D0]; exact k5)
    have p1 : ∀ q, q < 100 → fX7_putBack (fX7_records D) 1 q = r.1 1 q := fun q hq => by
      unfold fX7_putBack
      rw [rcq_i (Nat.zero_le _) (by omega), Nat.sub_zero, s3 2 (by decide) (by decide), D2 q hq]
    have po : ∀ j, j ≠ 1 → fX7_putBack (fX7_records D) j = fX7_records D j := fun j hj => rcq_j hj
    refine ⟨?_, rfl, ?_⟩
    · dsimp only
      rw [ws_o (by decide), ws_o (by decide), ws_o (by omega)]
    · dsimp only
      have z11 : wset (wset (wset (wset Z (4 + mark) (Z 0)) 0 P.1) 11 (fX1_keepMarked (wset (wset Z (4 + mark) (Z 0)) 0 P.1 11))) 12 (fX7_putBack (fX7_records D)) 11 = fX1_keepMarked (Z 11) := by rw [ws_o (by decide), ws_h, ws_o (by decide), ws_o (by omega)]
      have z12 : wset (wset (wset (wset Z (4 + mark) (Z 0)) 0 P.1) 11 (fX1_keepMarked (wset (wset Z (4 + mark) (Z 0)) 0 P.1 11))) 12 (fX7_putBack (fX7_records D)) 12 = fX7_putBack (fX7_records D) := ws_h
      have z0 : wset (wset (wset (wset Z (4 + mark) (Z 0)) 0 P.1) 11 (fX1_keepMarked (wset (wset Z (4 + mark) (Z 0)) 0 P.1 11))) 12 (fX7_putBack (fX7_records D)) 0 = P.1 := by rw [ws_o (by decide), ws_o (by decide), ws_h]
      have zo : ∀ i, i ≠ 0 → i < 11 → wset (wset (wset (wset Z (4 + mark) (Z 0)) 0 P.1) 11 (fX1_keepMarked (wset (wset Z (4 + mark) (Z 0)) 0 P.1 11))) 12 (fX7_putBack (fX7_records D)) i = wset Z (4 + mark) (Z 0) i := fun i a b => by rw [ws_o (by omega), ws_o (by omega), ws_o a]
      generalize wset (wset (wset (wset Z (4 + mark) (Z 0)) 0 P.1) 11 (fX1_keepMarked (wset (wset Z (4 + mark) (Z 0)) 0 P.1 11))) 12 (fX7_putBack (fX7_records D)) = Z' at *
      refine ⟨by rw [z0, z12]; exact RT_s hRT p1, ?_, ?_, ?_, ?_⟩
      · rw [z12, po 0 (by decide), s2 2 (by decide), D0]; exact l2
      · exact hR_push (D := D) l3 l1 (fun i a b => by rw [hm]; exact zo i (by omega) b) (by rw [z11]) (by rw [D0]) D1 (Do 3 (by decide)) (by rw [z12, po 0 (by decide)]) (by rw [z12, po 3 (by decide)])
      · refine sR_c l4 ?_ ?_ ?_ ?_ ?_
        · rw [zo 2 (by decide) (by decide), ws_o (by omega)]
        · rw [zo 3 (by decide) (by decide), ws_o (by omega)]
        · rw [z11, a3 4 (by decide)]
        · rw [z12, po 4 (by decide), s3 4 (by decide) (by decide), Do 4 (by decide)]
        · rw [z12, po 5 (by decide), s3 5 (by decide) (by decide), Do 5 (by decide)]
      · refine pR_c l5 ?_ ?_ ?_ ?_
        · rw [z11, a3 6 (by decide)]
        · rw [z11, a3 7 (by decide)]
        · rw [z12, po 0 (by decide), s2 1 (by decide), D0]
        · rw [z12, po 6 (by decide), s3 6 (by decide) (by decide), Do 6 (by decide)]
  · rw [if_neg c, if_neg i32_10, if_neg c]
    refine ⟨?_, rfl, ?_⟩
    · dsimp only
      rw [ws_o (by decide), ws_o (by omega)]
    · dsimp only
      have z12 : wset (wset (wset Z (4 + mark) (Z 0)) 0 P.1) 12 r.1 12 = r.1 := ws_h
      have z0 : wset (wset (wset Z (4 + mark) (Z 0)) 0 P.1) 12 r.1 0 = P.1 := by rw [ws_o (by decide), ws_h]
      have zo : ∀ i, i ≠ 0 → i < 12 → wset (wset (wset Z (4 + mark) (Z 0)) 0 P.1) 12 r.1 i = wset Z (4 + mark) (Z 0) i := fun i a b => by rw [ws_o (by omega), ws_o a]
      have z11 : wset (wset (wset Z (4 + mark) (Z 0)) 0 P.1) 12 r.1 11 = Z 11 := by rw [zo 11 (by decide) (by decide), ws_o (by omega)]
      generalize wset (wset (wset Z (4 + mark) (Z 0)) 0 P.1) 12 r.1 = Z' at *
      refine ⟨by rw [z0, z12]; exact hRT, by rw [z12, ro 0 (by decide) (by decide)]; exact l2, ?_, ?_, ?_⟩
      · refine hR_c l3 (fun i a b => ?_) (by rw [z11]) (by rw [z12, ro 0 (by decide) (by decide)]) (by rw [z12, ro 3 (by decide) (by decide)])
        by_cases d : i = 4 + mark
        · exact Or.inr ⟨mark, k3, k2, d⟩
        · exact Or.inl (by rw [zo i (by omega) (by omega), ws_o d])
      · exact sR_c l4 (by rw [zo 2 (by decide) (by decide), ws_o (by omega)]) (by rw [zo 3 (by decide) (by decide), ws_o (by omega)]) (by rw [z11]) (by rw [z12, ro 4 (by decide) (by decide)]) (by rw [z12, ro 5 (by decide) (by decide)])
      · exact pR_c l5 (by rw [z11]) (by rw [z11]) (by rw [z12, ro 0 (by decide) (by decide)]) (by rw [z12, ro 6 (by decide) (by decide)])

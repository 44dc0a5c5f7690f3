/-! the calls that order -/
theorem tm_sh {t : Int32} : ∀ (u : Nat) (B : wB), (LX0_shift t u B).2 0 2 = B 0 2 := by
  intro u
  induction u with
  | zero => intro B; rfl
  | succ u ih =>
    intro B
    simp only [LX0_shift]
    by_cases c : B 11 u ≤ B 0 2 + t
    · rw [if_pos c]
    · rw [if_neg c, ih]
      unfold fX0_copyPlan
      split
      · rfl
      · split
        · rfl
        · split
          · rfl
          · split
            · rw [bput_j (by decide), bput_j (by decide), bput_j (by decide)]
            · rfl
theorem tm_load (B : wB) (a b : Int32) : (fX0_changeLoad B a b).1 0 2 = B 0 2 := by
  unfold fX0_changeLoad
  dsimp only
  split
  · split
    · rfl
    · split
      · exact bput_j (by omega)
      · rfl
  · rfl
theorem tm_begin (n : Nat) (B : wB) (a t : Int32) : fX5_begin n B a t 0 2 = B 0 2 := by
  unfold fX5_begin
  dsimp only
  split <;> split <;> rw [bput_j (by omega), bput_j (by omega), bput_j (by omega), bput_j (by omega)]
theorem tm_bow (n : Nat) (B : wB) (a t : Int32) : fX5_beginOrWait n B a t 0 2 = B 0 2 := by
  unfold fX5_beginOrWait
  dsimp only
  split
  · exact tm_begin _ _ _ _
  · split
    · rfl
    · rw [bput_j (by omega), bput_j (by omega)]
theorem tm_move (B : wB) (a b : Int32) : (fX0_moveTo B a b).1 0 2 = B 0 2 := by
  unfold fX0_moveTo
  dsimp only
  split
  · split
    · rfl
    · split
      · exact tm_bow _ _ _ _
      · split
        · rfl
        · exact tm_bow _ _ _ _
  · rfl
theorem tm_stop (B : wB) (a : Int32) : (fX0_halt B a).1 0 2 = B 0 2 := by
  unfold fX0_halt fX5_slowDown
  dsimp only
  split
  · split
    · rfl
    · dsimp only
      rw [bput_j (by omega), bput_j (by omega)]
  · rfl
theorem tm_home (B : wB) (a : Int32) : (fX0_bringHome B a).1 0 2 = B 0 2 := by
  unfold fX0_bringHome
  dsimp only
  split
  · split
    · exact bput_j (by omega)
    · rfl
  · rfl
theorem tm_plan (B : wB) (a b c : Int32) : (fX0_addPlan B a b c).1 0 2 = B 0 2 := by
  unfold fX0_addPlan
  split
  · split
    · rfl
    · split
      · rfl
      · split
        · rfl
        · split
          · rfl
          · split
            · unfold gX0_ins
              dsimp only
              rw [bput_q (by decide), bput_j (by decide), bput_j (by decide), bput_j (by decide), tm_sh]
            · rfl
  · rfl
theorem tm_shaft (B : wB) (a : Int32) : (fX0_addShaft B a).1 0 2 = B 0 2 := by
  have h : ∀ v w x y : Int32, (if B 0 0 < 0 then (B, v) else if B 0 0 < 4 then (bput (bput B (3 + (B 0 0).toNatClampNeg) 0 a) 0 0 w, x) else (B, y) : wB × Int32).1 0 2 = B 0 2 := by
    intro v w x y
    split
    · rfl
    · split
      · dsimp only
        rw [bput_q (by decide), bput_j (by omega)]
      · rfl
  unfold fX0_addShaft
  split
  · exact h _ _ _ _
  · split
    · exact h _ _ _ _
    · split
      · exact h _ _ _ _
      · rfl
theorem tm_pass {B : wB} (a : Int32) (h : (B 0 2).toInt ≤ 99999) : ((fX0_passTicks B a).1 0 2).toInt ≤ 99999 := by
  have e : (99999 : Int32).toInt = 99999 := by decide
  unfold fX0_passTicks gX0_passEnd
  split
  · exact h
  · split
    · split
      · rename_i c
        dsimp only
        rw [i_le, e] at c
        rw [bput_h]; exact c
      · exact h
    · exact h
/-- what a relation says of the two benches -/
theorem LR_b {Z : wZ} (h : LR Z) : ∃ m M T, RB m M T (Z 0) (Z 12 1) ∧ (T ≤ 99999 ∧ (Z 0 0 2).toInt ≤ 99999) ∧ fX1_mark Z 0 = Z 0 := by
  obtain ⟨⟨⟨m, M, T, h1⟩, h2⟩, -, h3, -⟩ := h
  obtain ⟨kept, mark, k1, k2, k3, -⟩ := h3
  have hT := h1.2.1.2.2
  refine ⟨m, M, T, h1, ⟨?_, ?_⟩, by rw [mark_eq k3 k2, ws_o (by omega)]⟩
  · rw [h1.2.1.1, nI_ti (by omega)] at h2; omega
  · rw [h1.2.1.2.1, ← h1.2.1.1]; exact h2
theorem s_shaft : sT_shaft LR := by
  intro Z a1 hL
  obtain ⟨m, M, T, hB, ⟨-, hT⟩, hm⟩ := LR_b hL
  unfold fX6_shaft fX7_shaft
  dsimp only
  rw [hm]
  exact op_rec hL (d_shaft (pa_RB hB) a1) (by rw [tm_shaft]; exact hT)
theorem s_load : sT_load LR := by
  intro Z a1 a2 hL
  obtain ⟨m, M, T, hB, ⟨-, hT⟩, hm⟩ := LR_b hL
  unfold fX6_load fX7_load
  dsimp only
  rw [hm]
  exact op_rec hL (d_load (pa_RB hB) a1 a2) (by rw [tm_load]; exact hT)
theorem s_move : sT_move LR := by
  intro Z a1 a2 hL
  obtain ⟨m, M, T, hB, ⟨-, hT⟩, hm⟩ := LR_b hL
  unfold fX6_move fX7_move
  dsimp only
  rw [hm]
  exact op_rec hL (d_move (pa_RB hB) a1 a2) (by rw [tm_move]; exact hT)
theorem s_plan : sT_plan LR := by
  intro Z a1 a2 a3 hL
  obtain ⟨m, M, T, hB, ⟨-, hT⟩, hm⟩ := LR_b hL
  unfold fX6_plan fX7_plan
  dsimp only
  rw [hm]
  exact op_rec hL (d_plan (pa_RB hB) a1 a2 a3) (by rw [tm_plan]; exact hT)
theorem s_stop : sT_stop LR := by
  intro Z a1 hL
  obtain ⟨m, M, T, hB, ⟨-, hT⟩, hm⟩ := LR_b hL
  unfold fX6_stop fX7_stop
  dsimp only
  rw [hm]
  exact op_rec hL (d_stop (pa_RB hB) a1) (by rw [tm_stop]; exact hT)
theorem s_home : sT_home LR := by
  intro Z a1 hL
  obtain ⟨m, M, T, hB, ⟨-, hT⟩, hm⟩ := LR_b hL
  unfold fX6_home fX7_home
  dsimp only
  rw [hm]
  exact op_rec hL (d_home (pa_RB hB) a1) (by rw [tm_home]; exact hT)
theorem s_pass : sT_pass LR := by
  intro Z a1 hL
  obtain ⟨m, M, T, hB, ⟨-, hT⟩, hm⟩ := LR_b hL
  unfold fX6_pass fX7_pass
  dsimp only
  rw [hm]
  exact op_rec hL (d_pass (pa_RB hB) (by unfold fX7_putAside; rw [rcq_j (by decide), hL.2.1]; decide) a1) (tm_pass a1 hT)
/-! the calls that ask -/
theorem ask {Z : wZ} {x y : Int32} (hL : LR Z) (h : x = y) : sZ LR Z (Z, x) (Z 12, y) := by
  refine ⟨rfl, h, ?_⟩
  have : wset Z 12 (Z 12) = Z := by
    funext i
    unfold wset
    by_cases c : i = 12
    · rw [if_pos c, c]
    · rw [if_neg c]
  dsimp only
  rw [this]
  exact hL
theorem s_of : sT_of LR := fun Z a b hL => by
  obtain ⟨m, M, T, hB, -⟩ := LR_b hL
  exact ask hL (a_of hB a b)
theorem s_waiting : sT_waiting LR := fun Z a b hL => by
  obtain ⟨m, M, T, hB, -⟩ := LR_b hL
  exact ask hL (a_waiting hB a b)
theorem s_planned : sT_planned LR := fun Z a b hL => by
  obtain ⟨m, M, T, hB, -⟩ := LR_b hL
  exact ask hL (a_planned hB a b)
theorem s_count : sT_count LR := fun Z a hL => by
  obtain ⟨m, M, T, hB, -⟩ := LR_b hL
  obtain ⟨kept, mark, -, -, -, k4, k5, -⟩ := hL.2.2.1
  exact ask hL (a_count hB hL.2.2.2.2.1 (k4.trans k5.symm) a)
theorem s_interval : sT_interval LR := fun Z a hL => by
  obtain ⟨m, M, T, hB, -⟩ := LR_b hL
  exact ask hL (by unfold fX6_interval; exact a_interval hB a)
theorem s_stopsAt : sT_stopsAt LR := fun Z a hL => by
  obtain ⟨m, M, T, hB, -⟩ := LR_b hL
  exact ask hL (a_stopsAt hB a)
theorem s_moveOf : sT_moveOf LR := fun Z a b hL => by
  obtain ⟨m, M, T, hB, -⟩ := LR_b hL
  exact ask hL (a_moveOf hB a b)
theorem s_bears : sT_bears LR := fun Z a hL => by
  obtain ⟨m, M, T, hB, -⟩ := LR_b hL
  exact ask hL (a_bears hB a)
/-- a call that changes the trial bench alone, and nothing that counts of the reference -/
theorem LR_x {Z Z' : wZ} (hL : LR Z) (h1 : ∀ i, i ≠ 1 → i ≠ 12 → Z' i = Z i) (h2 : xC (Z 12) (Z' 12)) : LR Z' := by
  obtain ⟨l1, l2, l3, l4, l5⟩ := hL
  obtain ⟨x1, x2, x3, x4⟩ := h2
  refine ⟨by rw [h1 0 (by decide) (by decide)]; exact RT_s l1 x1, x4, ?_, ?_, ?_⟩
  · exact hR_c l3 (fun i a b => Or.inl (h1 i (by omega) (by omega))) (by rw [h1 11 (by decide) (by decide)]) (x3 0 (by decide) (by decide) (by decide)) (x2 3 (by decide))
  · exact sR_c l4 (h1 2 (by decide) (by decide)) (h1 3 (by decide) (by decide)) (by rw [h1 11 (by decide) (by decide)]) (x2 4 (by decide)) (x2 5 (by decide))
  · exact pR_c l5 (by rw [h1 11 (by decide) (by decide)]) (by rw [h1 11 (by decide) (by decide)]) (x3 1 (by decide) (by decide) (by decide)) (x2 6 (by decide))
theorem s_restsIn : sT_restsIn LR := fun Z a hL => by
  obtain ⟨m, M, T, hB, ⟨hT, -⟩, -⟩ := LR_b hL
  obtain ⟨h1, h2, h3⟩ := a_restsIn hB (by omega) hL.2.1 a
  exact ⟨h2 12 (by decide), h1, LR_x hL (fun i a b => by rw [ws_o b]; exact h2 i a) (by rw [ws_h]; exact h3)⟩
theorem s_nextStep : sT_nextStep LR := fun Z a b hL => by
  obtain ⟨m, M, T, hB, ⟨hT, -⟩, -⟩ := LR_b hL
  obtain ⟨h1, h2, h3⟩ := a_nextStep hB (by omega) hL.2.1 a b
  exact ⟨h2 12 (by decide), h1, LR_x hL (fun i a b => by rw [ws_o b]; exact h2 i a) (by rw [ws_h]; exact h3)⟩
theorem s_bestGain : sT_bestGain LR := fun Z a b hL => by
  obtain ⟨m, M, T, hB, -⟩ := LR_b hL
  obtain ⟨h1, h2⟩ := a_bestGain hB a b
  exact ⟨h2 12 (by decide), h1, LR_x hL (fun i a b => by rw [ws_o b]; exact h2 i a) (by rw [ws_h]; exact xC_refl hL.2.1)⟩

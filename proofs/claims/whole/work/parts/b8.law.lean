/-! the relation is kept by every call, and holds at the start -/
theorem LR_lB {Z : wZ} (hL : LR Z) : lB (Z 12) := by
  obtain ⟨m, M, T, hB, -⟩ := LR_b hL
  obtain ⟨-, -, ⟨kept, mark, k1, k2, k3, k4, k5, -⟩, -, -, p2, -⟩ := hL
  obtain ⟨⟨a1, a2, a3⟩, -, ⟨c1, c2, c3⟩, ⟨-, d2⟩, e, f, -, i⟩ := hB
  refine ⟨⟨m, M, ⟨a1, a3, fun j hj q => ?_, fun j hj => ?_, fun q => ?_⟩, c1, c3, fun p p1 p2 => ?_⟩, ?_, p2⟩
  · have := (e j hj).2.1.1
    rw [q, t0] at this
    omega
  · unfold WB
    by_cases c : j < m
    · exact (e j c).2.2.2.2.1
    · rw [(f j (by omega) hj 0 (by decide)).2]; decide
  · have := d2.2.2.1.1
    rw [q, t0] at this
    omega
  · have hx := plM_get (Z 12 1) M p
    rw [if_pos p2] at hx
    obtain ⟨-, ⟨j, j1, j2⟩, -⟩ := i _ (List.mem_of_getElem? hx)
    exact ⟨j, j1, j2⟩
  · rw [k5, nI_ti (by omega)]; omega
theorem LR_0 : LR Z0 := by
  have hB : RB 0 0 0 (Z0 0) (Z0 12 1) := by
    refine ⟨⟨rfl, rfl, by decide⟩, ⟨rfl, rfl, by decide⟩, ⟨rfl, rfl, by decide⟩, ⟨⟨rfl, rfl, rfl, rfl, rfl⟩, ?_⟩, fun n hn => absurd hn (Nat.not_lt_zero n), fun n h1 h2 q hq => ?_, rfl, fun x hx => absurd hx List.not_mem_nil⟩
    · unfold iR
      decide
    · rcases (show n = 0 ∨ n = 1 ∨ n = 2 ∨ n = 3 by omega) with rfl | rfl | rfl | rfl <;> exact ⟨rfl, rfl⟩
  refine ⟨⟨⟨0, 0, 0, hB⟩, by decide⟩, rfl, ⟨0, 0, by decide, by decide, rfl, rfl, rfl, fun j hj => absurd hj (Nat.not_lt_zero j)⟩, fun i hi => ⟨?_, fun q => absurd ?_ q⟩, rfl, by decide, fun q hq => ?_⟩
  · rfl
  · rfl
  · have h : (Z0 12 0 1).toInt = 0 := by decide
    rw [h] at hq
    omega
theorem LR_S : lS LR :=
  ⟨fun _ h => LR_lB h, s_set, s_shaft, s_load, s_move, s_plan, s_stop, s_home, s_pass, s_of, s_waiting, s_planned, s_count, s_interval, s_restsIn, s_stopsAt, s_nextStep, s_moveOf, s_bestGain, s_bears, s_put, s_wipe, s_fault, s_carryOut, s_undo, s_save, s_restore⟩

theorem z_mov {B : wB} {S : Nat → Int32} {m M T : Nat} (h : RB m M T B S) : ∀ (v k : Nat) (x : Int32), m ≤ k → k + v ≤ 4 → LX0_mov B v k x = x := by
  intro v
  induction v with
  | zero => intro k x _ _; rfl
  | succ v ih =>
    intro k x hk hv
    have e : fX5_moves k B = 0 := by
      unfold fX5_moves
      rw [if_pos (by rw [(h.2.2.2.2.2.1 k hk (by omega) 5 (by decide)).1]; decide)]
    simp only [LX0_mov, e, if_true]
    exact ih (k + 1) x (by omega) (by omega)
theorem e_mov {B C : wB} {m M T : Nat} (h : RB m M T B (C 1)) : ∀ (u k : Nat) (x : Int32), k + u = m → LX0_mov B (u + (4 - m)) k x = LX7_oa5 C u k x := by
  intro u
  induction u with
  | zero =>
    intro k x hk
    rw [Nat.zero_add]
    exact z_mov h _ _ _ (by omega) (by have := h.1.2.2; omega)
  | succ u ih =>
    intro k x hk
    obtain ⟨hr, hi⟩ := h.2.2.2.2.1 k (by omega)
    rw [show u + 1 + (4 - m) = (u + (4 - m)) + 1 by omega]
    simp only [LX0_mov, LX7_oa5]
    rcases q_rests hr hi with ⟨e1, e2, -⟩ | ⟨e1, e2, -⟩
    · rw [e1, e2]; simp only [i32_10, if_true, if_false]; exact ih (k + 1) _ (by omega)
    · rw [e1, e2]; simp only [i32_10, if_true, if_false, Int32.or_zero]; exact ih (k + 1) _ (by omega)
theorem a_mov {B C : wB} {m M T : Nat} (h : RB m M T B (C 1)) : fX0_movingSet B = fX7_overAll5 C := by
  unfold fX0_movingSet fX7_overAll5
  have hm := h.1.2.2
  rw [h.1.1, nI_clamp (show m < 2 ^ 31 by omega), ← e_mov h m 0 0 (by omega), show m + (4 - m) = 4 by omega]
theorem z_dis {B : wB} {S : Nat → Int32} {m M T : Nat} (h : RB m M T B S) : ∀ (v k : Nat) (x : Int32), m ≤ k → k + v ≤ 4 → LX0_dis B v k x = x := by
  intro v
  induction v with
  | zero => intro k x _ _; rfl
  | succ v ih =>
    intro k x hk hv
    have e : B (3 + k) 2 = B (3 + k) 3 := by rw [(h.2.2.2.2.2.1 k hk (by omega) 2 (by decide)).1, (h.2.2.2.2.2.1 k hk (by omega) 3 (by decide)).1]
    simp only [LX0_dis, e, if_true]
    exact ih (k + 1) x (by omega) (by omega)
theorem e_dis {B C : wB} {m M T : Nat} (h : RB m M T B (C 1)) : ∀ (u k : Nat) (x : Int32), k + u = m → LX0_dis B (u + (4 - m)) k x = LX7_oa2 C u k x := by
  intro u
  induction u with
  | zero =>
    intro k x hk
    rw [Nat.zero_add]
    exact z_dis h _ _ _ (by omega) (by have := h.1.2.2; omega)
  | succ u ih =>
    intro k x hk
    obtain ⟨hr, hi⟩ := h.2.2.2.2.1 k (by omega)
    rw [show u + 1 + (4 - m) = (u + (4 - m)) + 1 by omega]
    simp only [LX0_dis, LX7_oa2]
    rw [hr.2.2.1, hr.2.2.2.1]
    by_cases e : C 1 (7 + 14 * k + 2) = C 1 (7 + 14 * k + 3)
    · rw [if_pos e, if_pos e, Int32.or_zero]; exact ih (k + 1) _ (by omega)
    · rw [if_neg e, if_neg e]; exact ih (k + 1) _ (by omega)
theorem a_dis {B C : wB} {m M T : Nat} (h : RB m M T B (C 1)) : fX0_displacedSet B = fX7_overAll2 C := by
  unfold fX0_displacedSet fX7_overAll2
  have hm := h.1.2.2
  rw [h.1.1, nI_clamp (show m < 2 ^ 31 by omega), ← e_dis h m 0 0 (by omega), show m + (4 - m) = 4 by omega]
theorem z_ssf {B : wB} {S : Nat → Int32} {m M T : Nat} (h : RB m M T B S) : ∀ (v k : Nat) (x : Int32), m ≤ k → k + v ≤ 4 → LX0_ssf B v k x = x := by
  intro v
  induction v with
  | zero => intro k x _ _; rfl
  | succ v ih =>
    intro k x hk hv
    simp only [LX0_ssf]
    rw [(h.2.2.2.2.2.1 k hk (by omega) 8 (by decide)).1, Int32.add_zero]
    exact ih (k + 1) x (by omega) (by omega)
theorem e_ssf {B C : wB} {m M T : Nat} (h : RB m M T B (C 1)) : ∀ (u k : Nat) (x : Int32), k + u = m → LX0_ssf B (u + (4 - m)) k x = LX7_oa12 C u k x := by
  intro u
  induction u with
  | zero =>
    intro k x hk
    rw [Nat.zero_add]
    exact z_ssf h _ _ _ (by omega) (by have := h.1.2.2; omega)
  | succ u ih =>
    intro k x hk
    obtain ⟨hr, hi⟩ := h.2.2.2.2.1 k (by omega)
    rw [show u + 1 + (4 - m) = (u + (4 - m)) + 1 by omega]
    simp only [LX0_ssf, LX7_oa12]
    rw [hr.2.2.2.2.2.2.1]
    exact ih (k + 1) _ (by omega)
theorem a_ssf {B C : wB} {m M T : Nat} (h : RB m M T B (C 1)) : fX0_stepsSoFar B = fX7_overAll12 C := by
  unfold fX0_stepsSoFar fX7_overAll12
  have hm := h.1.2.2
  rw [h.1.1, nI_clamp (show m < 2 ^ 31 by omega), ← e_ssf h m 0 0 (by omega), show m + (4 - m) = 4 by omega]
theorem z_lsf {B : wB} {S : Nat → Int32} {m M T : Nat} (h : RB m M T B S) : ∀ (v k : Nat) (x : Int32), m ≤ k → k + v ≤ 4 → LX0_lsf B v k x = x := by
  intro v
  induction v with
  | zero => intro k x _ _; rfl
  | succ v ih =>
    intro k x hk hv
    simp only [LX0_lsf]
    rw [(h.2.2.2.2.2.1 k hk (by omega) 9 (by decide)).1, Int32.add_zero]
    exact ih (k + 1) x (by omega) (by omega)
theorem e_lsf {B C : wB} {m M T : Nat} (h : RB m M T B (C 1)) : ∀ (u k : Nat) (x : Int32), k + u = m → LX0_lsf B (u + (4 - m)) k x = LX7_oa13 C u k x := by
  intro u
  induction u with
  | zero =>
    intro k x hk
    rw [Nat.zero_add]
    exact z_lsf h _ _ _ (by omega) (by have := h.1.2.2; omega)
  | succ u ih =>
    intro k x hk
    obtain ⟨hr, hi⟩ := h.2.2.2.2.1 k (by omega)
    rw [show u + 1 + (4 - m) = (u + (4 - m)) + 1 by omega]
    simp only [LX0_lsf, LX7_oa13]
    rw [hr.2.2.2.2.2.2.2.1]
    exact ih (k + 1) _ (by omega)
theorem a_lsf {B C : wB} {m M T : Nat} (h : RB m M T B (C 1)) : fX0_lostSoFar B = fX7_overAll13 C := by
  unfold fX0_lostSoFar fX7_overAll13
  have hm := h.1.2.2
  rw [h.1.1, nI_clamp (show m < 2 ^ 31 by omega), ← e_lsf h m 0 0 (by omega), show m + (4 - m) = 4 by omega]
theorem a_count {Z : wZ} {m M T : Nat} (h : RB m M T (Z 0) (Z 12 1)) (hl : Z 11 6 0 = Z 12 0 1) (hk : Z 11 1 1 = Z 12 0 0) (a : Int32) : fX6_count Z a = fX7_count (Z 12) a := by
  unfold fX6_count fX7_count
  dsimp only
  obtain ⟨v0, v1, v2, v3, v4⟩ := h.2.2.2.1.1
  rw [a_mov h, a_dis h, a_ssf h, a_lsf h, q_high h.2.2.2.1.1 h.2.2.2.1.2, h.1.1, h.1.2.1, h.2.1.1, h.2.1.2.1, h.2.2.1.1, h.2.2.1.2.1, hl, hk]
  unfold fX3_valueOf
  rw [v0, v1, v2, v3, v4]
  refine ite_congr rfl (fun _ => rfl) fun _ => ?_
  refine ite_congr rfl (fun _ => rfl) fun _ => ?_
  refine ite_congr rfl (fun _ => rfl) fun _ => ?_
  refine ite_congr rfl (fun _ => rfl) fun _ => ?_
  refine ite_congr rfl (fun _ => rfl) fun _ => ?_
  refine ite_congr rfl (fun _ => rfl) fun _ => ?_
  refine ite_congr rfl (fun _ => rfl) fun _ => ?_
  refine ite_congr rfl (fun _ => rfl) fun _ => ?_
  refine ite_congr rfl (fun e => by subst e; rfl) fun _ => ?_
  refine ite_congr rfl (fun e => by subst e; rfl) fun _ => ?_
  refine ite_congr rfl (fun e => by subst e; rfl) fun _ => ?_
  refine ite_congr rfl (fun e => by subst e; rfl) fun _ => ?_
  refine ite_congr rfl (fun e => by subst e; rfl) fun _ => ?_
  rfl
theorem g_not {B C : wB} (h : rR B (C 1)) (y a : Int32) : fX3_grips B y a = 0 ↔ fX7_intervalBy C y (C 1 2) < fX7_needs C a := by
  rw [q_grips h]
  by_cases e : fX7_needs C a ≤ fX7_intervalBy C y (C 1 2)
  · rw [if_pos e]
    exact ⟨fun q => absurd q i32_10, fun q => by rw [i_le] at e; rw [i_lt] at q; omega⟩
  · rw [if_neg e]
    exact ⟨fun _ => by rw [i_le] at e; rw [i_lt]; omega, fun _ => rfl⟩
theorem a_bears {Z : wZ} {m M T : Nat} (h : RB m M T (Z 0) (Z 12 1)) (a : Int32) : fX6_bears Z a = fX7_bears (Z 12) a := by
  unfold fX6_bears fX7_bears
  dsimp only
  rcases q_find h a with ⟨h1, h2, h3, h4⟩ | ⟨h1, h2⟩
  · rw [if_pos h1, if_neg h2]
    obtain ⟨hr, hi⟩ := h.2.2.2.2.1 _ h3
    generalize a.toNatClampNeg = n at *
    rw [hr.2.2.2.2.2.1]
    have e : (if fX7_rests (Z 12) n = 0 then LX7_be (Z 12) (fX7_intervalBy (Z 12) (Z 12 1 (7 + 14 * n + 6)) (Z 12 1 2)) 10 0 (-6) else LX7_be (Z 12) (fX7_intervalBy (Z 12) 0 (Z 12 1 2)) 10 0 (-6)) = LX7_be (Z 12) (fX7_intervalBy (Z 12) (Z 12 1 (7 + 14 * n + 6)) (Z 12 1 2)) 10 0 (-6) := by
      rcases q_rests hr hi with ⟨e1, e2, e3⟩ | ⟨e1, e2, e3⟩
      · rw [if_pos e1]
      · rw [(hi.2.2.2.2.1 e3).1, ite_self]
    rw [e]
    simp only [g_not h.2.2.2.1.1, LX7_be, Nat.zero_add, Nat.reduceAdd]
    rfl
  · rw [if_neg h1, if_pos h2]

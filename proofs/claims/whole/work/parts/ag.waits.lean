theorem q_rests0 {B C : wB} {n : Nat} (h : rS B (C 1) n) (h0 : 0 ≤ (C 1 (7 + 14 * n + 5)).toInt) : (fX7_rests C n = 0 ∧ fX5_moves n B = 1 ∧ ¬ C 1 (7 + 14 * n + 5) = 0) ∨ (fX7_rests C n = 1 ∧ fX5_moves n B = 0 ∧ C 1 (7 + 14 * n + 5) = 0) := by
  unfold fX7_rests fX5_moves
  rw [h.2.2.2.2.1]
  by_cases c : C 1 (7 + 14 * n + 5) = 0
  · right
    rw [if_pos c, c, if_pos (by decide)]; exact ⟨rfl, rfl, rfl⟩
  · left
    rw [if_neg c, if_neg]
    · exact ⟨rfl, rfl, c⟩
    · rw [i_le, t0]
      rw [i_eq, t0] at c
      omega
theorem rR_c2 {B B' : wB} {S S' : Nat → Int32} (h : rR B S) (hB : ∀ q, B' 1 q = B 1 q) (hS : ∀ q, q < 7 → S' q = S q) : rR B' S' := by
  unfold rR at h ⊢
  rw [hB, hB, hB, hB, hB, hS 0 (by decide), hS 1 (by decide), hS 2 (by decide), hS 3 (by decide), hS 4 (by decide)]
  exact h
theorem iR_c {S S' : Nat → Int32} (h : iR S) (hS : ∀ q, q < 7 → S' q = S q) : iR S' := by
  unfold iR at h ⊢
  rw [hS 0 (by decide), hS 1 (by decide), hS 2 (by decide), hS 3 (by decide), hS 4 (by decide)]
  exact h
/-- those that wait begin, until one moves -/
theorem d_sw {T n : Nat} (hT : T ≤ 125000) : ∀ (u : Nat) (B C : wB), rR B (C 1) → iR (C 1) → C 1 5 = nI T → rS B (C 1) n → hS (C 1) T n → (C 1 (7 + 14 * n + 8)).toInt ≤ u →
    rS (cSW n (nI T) u B) (LX7_sw n u C 1) n ∧ iS (LX7_sw n u C 1) T n ∧ (∀ k, k < 7 + 14 * n ∨ 7 + 14 * n + 14 ≤ k → LX7_sw n u C 1 k = C 1 k) ∧ (∀ j, j ≠ 1 → LX7_sw n u C j = C j) ∧ ∀ j q, j ≠ 3 + n → j ≠ 7 + n → cSW n (nI T) u B j q = B j q := by
  intro u
  induction u with
  | zero =>
    intro B C hR hi hT5 hr hh hw
    simp only [cSW, LX7_sw]
    have h0 := hh.1.2.2.1.1
    exact ⟨hr, hS_to hh fun _ => by rw [i_eq, t0]; omega, fun _ _ => trivial, fun _ _ => trivial, fun _ _ _ _ => trivial⟩
  | succ u ih =>
    intro B C hR hi hT5 hr hh hw
    simp only [cSW, LX7_sw]
    have h0 := hh.1.2.2.1.1
    rw [hr.2.2.2.2.2.2.2.2.1]
    by_cases c : C 1 (7 + 14 * n + 8) ≤ 0
    · have hz : C 1 (7 + 14 * n + 8) = 0 := by rw [i_le, t0] at c; rw [i_eq, t0]; omega
      rw [if_pos c, if_pos c, ite_self]
      exact ⟨hr, hS_to hh fun _ => hz, fun _ _ => rfl, fun _ _ => rfl, fun _ _ _ _ => rfl⟩
    · rw [if_neg c, if_neg c]
      rw [i_le, t0] at c
      rcases q_rests0 hr hh.1.2.1.1 with ⟨e1, e2, e3⟩ | ⟨e1, e2, e3⟩
      · rw [e1, e2, if_neg i32_10, if_pos rfl]
        exact ⟨hr, hS_to hh fun q => absurd q e3, fun _ _ => rfl, fun _ _ => rfl, fun _ _ _ _ => rfl⟩
      · rw [e1, e2, if_pos rfl, if_neg i32_10]
        obtain ⟨f1, f2, f3, f4, f5, f6, f7, f8⟩ := d_first hr hh.1 (by omega) e3
        rw [f4]
        generalize hx : (fX7_takesFirst C n).2 = x at *
        generalize hD : (fX7_takesFirst C n).1 = D at *
        have hS7 : ∀ q, q < 7 → D 1 q = C 1 q := fun q hq => f6 q (by omega)
        have hR2 : rR (cSh n B) (D 1) := rR_c2 hR (fun q => f8 1 q (by omega) (by omega)) hS7
        have hi2 : iR (D 1) := iR_c hi hS7
        have hT2 : D 1 5 = nI T := (hS7 5 (by decide)).trans hT5
        obtain ⟨k1, k2, k3, k4, k5, k6, k7⟩ := d_begin hR2 hi2 hT2 hT f1 f2 f5
        have hk7 : ∀ q, q < 7 → fX7_begins D n x 1 q = D 1 q := fun q hq => k5 q (by omega) (by omega) (by omega) (by omega)
        obtain ⟨g1, g2, g3, g4, g5⟩ := ih (fX5_begin n (cSh n B) x (nI T)) (fX7_begins D n x) (rR_c2 hR2 (fun q => k7 1 q (by omega)) hk7) (iR_c hi2 hk7) ((hk7 5 (by decide)).trans hT2) k1 ⟨k2, by rw [k3, t0]; omega, fun _ => k3, k4⟩ (by rw [k5 _ (by omega) (by omega) (by omega) (by omega), f3]; omega)
        refine ⟨g1, g2, fun k hk => ?_, fun j hj => ?_, fun j q h1 h2 => ?_⟩
        · rw [g3 k hk, k5 k (by omega) (by omega) (by omega) (by omega), f6 k (by omega)]
        · rw [g4 j hj, k6 j hj, f7 j hj]
        · rw [g5 j q h1 h2, k7 j q h1, f8 j q h1 h2]

/-! an order to move comes to a shaft. gS: iS, or what holds in the midst of a tick before the shaft's step (d = 0, e = 1) -/
def gS (S : Nat → Int32) (T : Nat) (d e : Int) (n : Nat) : Prop :=
  jS S T n ∧ (0 ≤ (S (7 + 14 * n + 6)).toInt ∧ (S (7 + 14 * n + 6)).toInt ≤ 200) ∧ (S (7 + 14 * n + 12)).toInt + e ≤ T ∧
  (S (7 + 14 * n + 5) = 0 → S (7 + 14 * n + 6) = 0 ∧ S (7 + 14 * n + 8) = 0) ∧
  (¬ S (7 + 14 * n + 5) = 0 → (S (7 + 14 * n + 4) = 1 ∨ S (7 + 14 * n + 4) = -1) ∧ T + d ≤ (S (7 + 14 * n + 7)).toInt ∧ (S (7 + 14 * n + 7)).toInt ≤ T + 200)
theorem gS_of {S : Nat → Int32} {T n : Nat} (h : iS S T n) : gS S T 1 0 n :=
  ⟨jS_of h, h.2.2.1, by have := h.2.2.2.2.2.2.1.2; omega, h.2.2.2.2.1, fun q => by have := h.2.2.2.2.2.1 q; exact ⟨this.1, by omega, this.2.2⟩⟩
theorem gS_to {S : Nat → Int32} {T n : Nat} {e : Int} (h : gS S T 1 e n) : iS S T n :=
  ⟨h.1.1, h.1.2.1, h.2.1, h.1.2.2.1, h.2.2.2.1, fun q => by have := h.2.2.2.2 q; exact ⟨this.1, by omega, this.2.2⟩, h.1.2.2.2.1, h.1.2.2.2.2.1, h.1.2.2.2.2.2.1, h.1.2.2.2.2.2.2⟩
/-- the next tick has come: T is one more -/
theorem gS_tick {S S' : Nat → Int32} {T n : Nat} (h : iS S T n) (hS : ∀ q, q < 14 → S' (7 + 14 * n + q) = S (7 + 14 * n + q)) : gS S' (T + 1) 0 1 n := by
  have h' := iS_c h hS
  unfold iS at h'
  refine ⟨⟨h'.1, h'.2.1, h'.2.2.2.1, by omega, h'.2.2.2.2.2.2.2.1, h'.2.2.2.2.2.2.2.2.1, h'.2.2.2.2.2.2.2.2.2⟩, h'.2.2.1, by omega, h'.2.2.2.2.1, fun q => ?_⟩
  have := h'.2.2.2.2.2.1 q
  exact ⟨this.1, by omega, by omega⟩
theorem q_restsg {B C : wB} {T n : Nat} {d e : Int} (h : rS B (C 1) n) (hi : gS (C 1) T d e n) : (fX7_rests C n = 0 ∧ fX5_moves n B = 1 ∧ ¬ C 1 (7 + 14 * n + 5) = 0) ∨ (fX7_rests C n = 1 ∧ fX5_moves n B = 0 ∧ C 1 (7 + 14 * n + 5) = 0) := by
  have h0 := hi.1.2.1.1
  unfold fX7_rests fX5_moves
  rw [h.2.2.2.2.1]
  by_cases c : C 1 (7 + 14 * n + 5) = 0
  · right
    rw [if_pos c, c, if_pos (by decide)]; exact ⟨rfl, rfl, rfl⟩
  · left
    rw [if_neg c, if_neg]
    · exact ⟨rfl, rfl, c⟩
    · rw [i_le, t0]
      rw [i_eq, t0] at c
      omega
theorem d_comes {B C : wB} {T n : Nat} {d e : Int} (hd : d ≤ 1) (hR : rR B (C 1)) (hi : iR (C 1)) (hT5 : C 1 5 = nI T) (hT : T ≤ 125000) (hr : rS B (C 1) n) (hg : gS (C 1) T d e n) {a : Int32} (ha : a.toInt ≤ 9999 ∧ -9999 ≤ a.toInt) :
    rS (fX5_beginOrWait n B a (nI T)) (fX7_comes C n a 1) n ∧ gS (fX7_comes C n a 1) T d e n ∧
    (∀ k, k < 7 + 14 * n ∨ 7 + 14 * n + 14 ≤ k → fX7_comes C n a 1 k = C 1 k) ∧ (∀ j, j ≠ 1 → fX7_comes C n a j = C j) ∧ ∀ j q, j ≠ 3 + n → j ≠ 7 + n → fX5_beginOrWait n B a (nI T) j q = B j q := by
  unfold fX5_beginOrWait fX7_comes
  dsimp only
  rcases q_restsg hr hg with ⟨e1, e2, e3⟩ | ⟨e1, e2, e3⟩
  · rw [e1, e2, if_neg i32_10, if_pos rfl]
    have hw := hg.1.2.2.1
    have e3' : (3 : Int32).toInt = 3 := by decide
    have hcw : fX5_canWait n B = if 3 ≤ C 1 (7 + 14 * n + 8) then 0 else 1 := by
      unfold fX5_canWait
      rw [hr.2.2.2.2.2.2.2.2.1, if_neg (by rw [i_lt, t0]; omega)]
    rw [hcw]
    by_cases c : 3 ≤ C 1 (7 + 14 * n + 8)
    · rw [if_pos c, if_pos rfl, if_pos c]
      exact ⟨hr, hg, fun _ _ => rfl, fun _ _ => rfl, fun _ _ _ _ => rfl⟩
    · rw [if_neg c, if_neg i32_10, if_neg c, hr.2.2.2.2.2.2.2.2.1]
      rw [i_le, e3'] at c
      have hk := (tn_of hw.1).2
      generalize hW : (C 1 (7 + 14 * n + 8)).toNatClampNeg = W at *
      have hb : bput C 1 (7 + 14 * n + (9 + W)) a 1 (7 + 14 * n + 8) = C 1 (7 + 14 * n + 8) := by rw [bp_row, if_neg (by omega)]
      rw [hb]
      have e4 : (C 1 (7 + 14 * n + 8) + 1).toInt = (C 1 (7 + 14 * n + 8)).toInt + 1 := (ti_add (by rw [t1]; omega) (by rw [t1]; omega)).trans (by rw [t1])
      generalize hS : bput (bput C 1 (7 + 14 * n + (9 + W)) a) 1 (7 + 14 * n + 8) (C 1 (7 + 14 * n + 8) + 1) = D
      have hD : ∀ k, k ≠ 7 + 14 * n + 8 → k ≠ 7 + 14 * n + (9 + W) → D 1 k = C 1 k := fun k q1 q2 => by rw [← hS, bp_row, if_neg q1, bp_row, if_neg q2]
      have h8 : D 1 (7 + 14 * n + 8) = C 1 (7 + 14 * n + 8) + 1 := by rw [← hS, bp_row, if_pos rfl]
      have h9 : D 1 (7 + 14 * n + (9 + W)) = a := by rw [← hS, bp_row, if_neg (by omega), bp_row, if_pos rfl]
      have ho : ∀ j, j ≠ 1 → D j = C j := fun j hj => by rw [← hS, bp_off hj, bp_off hj]
      obtain ⟨r0, r1, r2, r3, r5, r6, r8, r9, r10, r47, rw'⟩ := hr
      have hB : ∀ q, q ≠ 10 → bput (bput B (7 + n) W a) (3 + n) 10 (C 1 (7 + 14 * n + 8) + 1) (3 + n) q = B (3 + n) q := fun q hq => by rw [bput_q hq, bput_j (by omega)]
      refine ⟨⟨?_, ?_, ?_, ?_, ?_, ?_, ?_, ?_, ?_, ?_, ?_⟩, ⟨?_, ?_, ?_, ?_, ?_⟩, fun k hk => hD k (by omega) (by omega), ho, fun j q h1 h2 => by rw [bput_j h1, bput_j h2]⟩
      · rw [hD _ (by omega) (by omega), hB _ (by decide)]; exact r0
      · rw [hD _ (by omega) (by omega), hB _ (by decide)]; exact r1
      · rw [hD _ (by omega) (by omega), hB _ (by decide)]; exact r2
      · rw [hD _ (by omega) (by omega), hB _ (by decide)]; exact r3
      · rw [hD _ (by omega) (by omega), hB _ (by decide)]; exact r5
      · rw [hD _ (by omega) (by omega), hB _ (by decide)]; exact r6
      · rw [hD _ (by omega) (by omega), hB _ (by decide)]; exact r8
      · rw [hD _ (by omega) (by omega), hB _ (by decide)]; exact r9
      · rw [h8, bput_h]
      · rw [hD _ (by omega) (by omega), hD _ (by omega) (by omega), hD _ (by omega) (by omega), hB _ (by decide), hB _ (by decide)]; exact r47
      · intro q hq
        rw [h8, e4] at hq
        rw [bput_j (by omega)]
        by_cases c2 : q = W
        · subst c2; rw [h9, bput_h]
        · rw [hD _ (by omega) (by omega), bput_q c2]
          exact rw' q (by omega)
      · have hj := hg.1
        unfold jS at hj ⊢
        rw [hD (7 + 14 * n + 0) (by omega) (by omega), hD (7 + 14 * n + 5) (by omega) (by omega), hD (7 + 14 * n + 12) (by omega) (by omega), hD (7 + 14 * n + 2) (by omega) (by omega), hD (7 + 14 * n + 3) (by omega) (by omega), h8, e4]
        refine ⟨hj.1, hj.2.1, by omega, hj.2.2.2.1, hj.2.2.2.2.1, hj.2.2.2.2.2.1, fun q hq => ?_⟩
        by_cases c2 : q = W
        · subst c2; rw [h9]; exact ha
        · rw [hD _ (by omega) (by omega)]
          exact hj.2.2.2.2.2.2 q (by omega)
      · rw [hD _ (by omega) (by omega)]; exact hg.2.1
      · rw [hD _ (by omega) (by omega)]; exact hg.2.2.1
      · rw [hD _ (by omega) (by omega)]; exact fun q => absurd q e3
      · rw [hD _ (by omega) (by omega), hD _ (by omega) (by omega), hD _ (by omega) (by omega)]; exact hg.2.2.2.2
  · rw [e1, e2, if_pos rfl, if_neg i32_10]
    obtain ⟨k1, k2, k3, k4, k5, k6, k7⟩ := d_begin hR hi hT5 hT hr hg.1 ha
    have hw0 := (hg.2.2.2.1 e3).2
    refine ⟨k1, ⟨k2, by rw [k3, t0]; omega, ?_, fun _ => ⟨k3, ?_⟩, fun q => ?_⟩, fun k hk => k5 k (by omega) (by omega) (by omega) (by omega), k6, fun j q h1 _ => k7 j q h1⟩
    · rw [k5 _ (by omega) (by omega) (by omega) (by omega)]; exact hg.2.2.1
    · rw [k5 _ (by omega) (by omega) (by omega) (by omega)]; exact hw0
    · have := k4 q
      exact ⟨this.1, by omega, this.2.2⟩

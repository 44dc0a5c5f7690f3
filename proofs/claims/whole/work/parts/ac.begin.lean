/-! a shaft begins a move: said of the one shaft, for in the midst of a tick the others aren't as iS has them -/
def jS (S : Nat → Int32) (T : Nat) (n : Nat) : Prop :=
  (1 ≤ (S (7 + 14 * n + 0)).toInt ∧ (S (7 + 14 * n + 0)).toInt ≤ 4) ∧
  (0 ≤ (S (7 + 14 * n + 5)).toInt ∧ (S (7 + 14 * n + 5)).toInt ≤ 1000000) ∧
  (0 ≤ (S (7 + 14 * n + 8)).toInt ∧ (S (7 + 14 * n + 8)).toInt ≤ 3) ∧
  (0 ≤ (S (7 + 14 * n + 12)).toInt ∧ (S (7 + 14 * n + 12)).toInt ≤ T) ∧
  ((S (7 + 14 * n + 2)).toInt ≤ 4 * (S (7 + 14 * n + 12)).toInt ∧ -(4 * (S (7 + 14 * n + 12)).toInt) ≤ (S (7 + 14 * n + 2)).toInt) ∧
  ((S (7 + 14 * n + 3)).toInt ≤ 4 * (S (7 + 14 * n + 12)).toInt ∧ -(4 * (S (7 + 14 * n + 12)).toInt) ≤ (S (7 + 14 * n + 3)).toInt) ∧
  ∀ q : Nat, (q : Int) < (S (7 + 14 * n + 8)).toInt → (S (7 + 14 * n + (9 + q))).toInt ≤ 9999 ∧ -9999 ≤ (S (7 + 14 * n + (9 + q))).toInt
theorem jS_of {S : Nat → Int32} {T n : Nat} (h : iS S T n) : jS S T n := ⟨h.1, h.2.1, h.2.2.2.1, h.2.2.2.2.2.2.1, h.2.2.2.2.2.2.2.1, h.2.2.2.2.2.2.2.2.1, h.2.2.2.2.2.2.2.2.2⟩
/-- the way's length -/
theorem way_len {x y z : Int32} {T : Nat} (hT : T ≤ 125000) (hx : x.toInt ≤ 9999 ∧ -9999 ≤ x.toInt) (hy : y.toInt ≤ 4 * T ∧ -(4 * (T : Int)) ≤ y.toInt) (hz : 1 ≤ z.toInt ∧ z.toInt ≤ 4) :
    (x - y).toInt = x.toInt - y.toInt ∧ fX7_size (x - y) = (if 0 ≤ x - y then x - y else 0 - (x - y)) ∧ 0 ≤ (fX7_size (x - y) / z).toInt ∧ (fX7_size (x - y) / z).toInt ≤ 1000000 ∧ ((x - y).toInt = 0 → fX7_size (x - y) / z = 0) := by
  have e : (x - y).toInt = x.toInt - y.toInt := ti_sub (by omega) (by omega)
  have en : (0 - (x - y)).toInt = -((x - y).toInt) := (ti_sub (by rw [t0, e]; omega) (by rw [t0, e]; omega)).trans (by rw [t0]; omega)
  have hs : fX7_size (x - y) = (if 0 ≤ x - y then x - y else 0 - (x - y)) := by
    unfold fX7_size
    by_cases c : 0 ≤ x - y
    · rw [if_pos c, if_pos c]
    · rw [if_neg c, if_neg c, Int32.zero_sub]
  have ht : 0 ≤ (fX7_size (x - y)).toInt ∧ (fX7_size (x - y)).toInt ≤ 1000000 := by
    rw [hs]
    by_cases c : 0 ≤ x - y
    · rw [if_pos c]; rw [i_le, t0] at c; omega
    · rw [if_neg c, en]; rw [i_le, t0] at c; omega
  have hd := i_div (x := fX7_size (x - y)) (y := z) ht.1 hz.1
  refine ⟨e, hs, ?_, ?_, fun h0 => ?_⟩
  · rw [hd]; exact Int.ediv_nonneg ht.1 (by omega)
  · rw [hd]; exact Int.le_trans (Int.ediv_le_self _ ht.1) ht.2
  · have h1 : fX7_size (x - y) = 0 := by
      rw [hs, if_pos (by rw [i_le, t0]; omega), i_eq, h0, t0]
    rw [i_eq, hd, h1, t0, Int.zero_ediv]
/-- the first interval isn't touched by what is put into a shaft -/
theorem rR_c {B B' C : wB} (h : rR B (C 1)) (hB : ∀ q, B' 1 q = B 1 q) : rR B' (C 1) := by
  unfold rR at h ⊢
  rw [hB, hB, hB, hB, hB]
  exact h
theorem intBy_c {C C' : wB} {y g : Int32} (h0 : C' 1 0 = C 1 0) (h1 : C' 1 1 = C 1 1) : fX7_intervalBy C' y g = fX7_intervalBy C y g := by
  unfold fX7_intervalBy
  rw [h0, h1]
/-- begin, on the class's side -/
theorem beg_c {B C : wB} {T n : Nat} (hR : rR B (C 1)) (hr : rS B (C 1) n) (hj : jS (C 1) T n) (hT : T ≤ 125000) {a : Int32} (ha : a.toInt ≤ 9999 ∧ -9999 ≤ a.toInt) :
    fX5_begin n B a (nI T) = bput (bput (bput (bput B (3 + n) 4 (if C 1 (7 + 14 * n + 2) ≤ a then 1 else -1)) (3 + n) 5 (fX7_size (a - C 1 (7 + 14 * n + 2)) / C 1 (7 + 14 * n + 0))) (3 + n) 6 0) (3 + n) 7 (nI T + fX7_intervalBy C 0 (C 1 2)) := by
  obtain ⟨e1, e2, -⟩ := way_len (T := T) (z := C 1 (7 + 14 * n + 0)) hT ha (y := C 1 (7 + 14 * n + 2)) ⟨by have := hj.2.2.2.2.1.1; have := hj.2.2.2.1.2; omega, by have := hj.2.2.2.2.1.2; have := hj.2.2.2.1.2; omega⟩ hj.1
  have hm : (1 : Int32) ≤ C 1 (7 + 14 * n + 0) := by rw [i_le, t1]; exact hj.1.1
  unfold fX5_begin
  dsimp only
  rw [hr.2.2.1, hr.1, ← e2]
  by_cases c : C 1 (7 + 14 * n + 2) ≤ a
  · rw [if_pos c, if_pos c, if_pos hm, q_int (rR_c hR fun q => by rw [bput_j (by omega), bput_j (by omega), bput_j (by omega)])]
  · rw [if_neg c, if_neg c, if_pos hm, q_int (rR_c hR fun q => by rw [bput_j (by omega), bput_j (by omega), bput_j (by omega)])]
/-- begins, on the reference's side -/
theorem beg_m {C : wB} {T n : Nat} (hT5 : C 1 5 = nI T) (a : Int32) :
    fX7_begins C n a = bput (bput (bput (bput C 1 (7 + 14 * n + 5) (fX7_size (a - C 1 (7 + 14 * n + 2)) / C 1 (7 + 14 * n + 0))) 1 (7 + 14 * n + 4) (if fX7_size (a - C 1 (7 + 14 * n + 2)) / C 1 (7 + 14 * n + 0) = 0 then 0 else if a - C 1 (7 + 14 * n + 2) ≤ 0 then -1 else 1)) 1 (7 + 14 * n + 6) 0) 1 (7 + 14 * n + 7) (if fX7_size (a - C 1 (7 + 14 * n + 2)) / C 1 (7 + 14 * n + 0) = 0 then 0 else nI T + fX7_intervalBy C 0 (C 1 2)) := by
  unfold fX7_begins
  dsimp only
  by_cases c : fX7_size (a - C 1 (7 + 14 * n + 2)) / C 1 (7 + 14 * n + 0) = 0
  · rw [if_pos c, if_pos c, if_pos c]
  · rw [if_neg c, if_neg c, if_neg c, hT5]
    by_cases d : a - C 1 (7 + 14 * n + 2) ≤ 0
    · rw [if_pos d, if_pos d, intBy_c (by rw [bp_row, if_neg (by omega), bp_row, if_neg (by omega), bp_row, if_neg (by omega)]) (by rw [bp_row, if_neg (by omega), bp_row, if_neg (by omega), bp_row, if_neg (by omega)])]
    · rw [if_neg d, if_neg d, intBy_c (by rw [bp_row, if_neg (by omega), bp_row, if_neg (by omega), bp_row, if_neg (by omega)]) (by rw [bp_row, if_neg (by omega), bp_row, if_neg (by omega), bp_row, if_neg (by omega)])]
/-- a shaft begins a move, on both sides -/
theorem d_begin {B C : wB} {T n : Nat} (hR : rR B (C 1)) (hi : iR (C 1)) (hT5 : C 1 5 = nI T) (hT : T ≤ 125000) (hr : rS B (C 1) n) (hj : jS (C 1) T n) {a : Int32} (ha : a.toInt ≤ 9999 ∧ -9999 ≤ a.toInt) :
    rS (fX5_begin n B a (nI T)) (fX7_begins C n a 1) n ∧ jS (fX7_begins C n a 1) T n ∧ fX7_begins C n a 1 (7 + 14 * n + 6) = 0 ∧
    (¬ fX7_begins C n a 1 (7 + 14 * n + 5) = 0 → (fX7_begins C n a 1 (7 + 14 * n + 4) = 1 ∨ fX7_begins C n a 1 (7 + 14 * n + 4) = -1) ∧ (T : Int) < (fX7_begins C n a 1 (7 + 14 * n + 7)).toInt ∧ (fX7_begins C n a 1 (7 + 14 * n + 7)).toInt ≤ T + 200) ∧
    (∀ k, k ≠ 7 + 14 * n + 4 → k ≠ 7 + 14 * n + 5 → k ≠ 7 + 14 * n + 6 → k ≠ 7 + 14 * n + 7 → fX7_begins C n a 1 k = C 1 k) ∧ (∀ j, j ≠ 1 → fX7_begins C n a j = C j) ∧ ∀ j q, j ≠ 3 + n → fX5_begin n B a (nI T) j q = B j q := by
  obtain ⟨w1, w2, w3, w4, w5⟩ := way_len (T := T) (z := C 1 (7 + 14 * n + 0)) hT ha (y := C 1 (7 + 14 * n + 2)) ⟨by have := hj.2.2.2.2.1.1; have := hj.2.2.2.1.2; omega, by have := hj.2.2.2.2.1.2; have := hj.2.2.2.1.2; omega⟩ hj.1
  have hint := int_ti (C := C) (y := 0) hi hi.2.2.1 (by rw [t0]; omega)
  rw [t0, Int.mul_zero] at hint
  have hir := hi
  unfold iR at hir
  have eT : (nI T).toInt = (T : Int) := nI_ti (by omega)
  have en : (nI T + fX7_intervalBy C 0 (C 1 2)).toInt = T + (fX7_intervalBy C 0 (C 1 2)).toInt := (ti_add (by rw [eT]; omega) (by rw [eT]; omega)).trans (by rw [eT])
  rw [beg_c hR hr hj hT ha, beg_m hT5]
  generalize fX7_size (a - C 1 (7 + 14 * n + 2)) / C 1 (7 + 14 * n + 0) = L at *
  have hw : ¬ L = 0 → (if C 1 (7 + 14 * n + 2) ≤ a then (1 : Int32) else -1) = (if L = 0 then 0 else if a - C 1 (7 + 14 * n + 2) ≤ 0 then -1 else 1) := by
    intro hL
    rw [if_neg hL]
    have hne : ¬ (a - C 1 (7 + 14 * n + 2)).toInt = 0 := fun q => hL (w5 q)
    by_cases d : a - C 1 (7 + 14 * n + 2) ≤ 0
    · rw [if_pos d, if_neg]
      rw [i_le, t0] at d
      rw [i_le]
      omega
    · rw [if_neg d, if_pos]
      rw [i_le, t0] at d
      rw [i_le]
      omega
  have hv : ¬ L = 0 → (if L = 0 then (0 : Int32) else if a - C 1 (7 + 14 * n + 2) ≤ 0 then -1 else 1) = 1 ∨ (if L = 0 then (0 : Int32) else if a - C 1 (7 + 14 * n + 2) ≤ 0 then -1 else 1) = -1 := by
    intro hL
    rw [if_neg hL]
    by_cases d : a - C 1 (7 + 14 * n + 2) ≤ 0
    · rw [if_pos d]; exact Or.inr rfl
    · rw [if_neg d]; exact Or.inl rfl
  generalize (if L = 0 then (0 : Int32) else if a - C 1 (7 + 14 * n + 2) ≤ 0 then -1 else 1) = W at *
  generalize (if C 1 (7 + 14 * n + 2) ≤ a then (1 : Int32) else -1) = W2 at *
  have hN : ¬ L = 0 → (if L = 0 then 0 else nI T + fX7_intervalBy C 0 (C 1 2)) = nI T + fX7_intervalBy C 0 (C 1 2) := fun hL => if_neg hL
  generalize (if L = 0 then 0 else nI T + fX7_intervalBy C 0 (C 1 2)) = N at *
  generalize hN2 : nI T + fX7_intervalBy C 0 (C 1 2) = N2 at *
  generalize hS : bput (bput (bput (bput C 1 (7 + 14 * n + 5) L) 1 (7 + 14 * n + 4) W) 1 (7 + 14 * n + 6) 0) 1 (7 + 14 * n + 7) N = D
  have hk : ∀ k, k ≠ 7 + 14 * n + 4 → k ≠ 7 + 14 * n + 5 → k ≠ 7 + 14 * n + 6 → k ≠ 7 + 14 * n + 7 → D 1 k = C 1 k := by
    intro k q1 q2 q3 q4
    rw [← hS, bp_row, if_neg q4, bp_row, if_neg q3, bp_row, if_neg q1, bp_row, if_neg q2]
  have h4 : D 1 (7 + 14 * n + 4) = W := by rw [← hS, bp_row, if_neg (by omega), bp_row, if_neg (by omega), bp_row, if_pos rfl]
  have h5 : D 1 (7 + 14 * n + 5) = L := by rw [← hS, bp_row, if_neg (by omega), bp_row, if_neg (by omega), bp_row, if_neg (by omega), bp_row, if_pos rfl]
  have h6 : D 1 (7 + 14 * n + 6) = 0 := by rw [← hS, bp_row, if_neg (by omega), bp_row, if_pos rfl]
  have h7 : D 1 (7 + 14 * n + 7) = N := by rw [← hS, bp_row, if_pos rfl]
  have ho : ∀ j, j ≠ 1 → D j = C j := fun j hj => by rw [← hS, bp_off hj, bp_off hj, bp_off hj, bp_off hj]
  obtain ⟨r0, r1, r2, r3, r5, r6, r8, r9, r10, r47, rw'⟩ := hr
  refine ⟨⟨?_, ?_, ?_, ?_, ?_, ?_, ?_, ?_, ?_, ?_, ?_⟩, ?_, h6, fun hL => ?_, hk, ho, fun j q hj => by rw [bput_j hj, bput_j hj, bput_j hj, bput_j hj]⟩
  · rw [hk _ (by omega) (by omega) (by omega) (by omega), bput_q (by decide), bput_q (by decide), bput_q (by decide), bput_q (by decide)]; exact r0
  · rw [hk _ (by omega) (by omega) (by omega) (by omega), bput_q (by decide), bput_q (by decide), bput_q (by decide), bput_q (by decide)]; exact r1
  · rw [hk _ (by omega) (by omega) (by omega) (by omega), bput_q (by decide), bput_q (by decide), bput_q (by decide), bput_q (by decide)]; exact r2
  · rw [hk _ (by omega) (by omega) (by omega) (by omega), bput_q (by decide), bput_q (by decide), bput_q (by decide), bput_q (by decide)]; exact r3
  · rw [h5, bput_q (by decide), bput_q (by decide), bput_h]
  · rw [h6, bput_q (by decide), bput_h]
  · rw [hk _ (by omega) (by omega) (by omega) (by omega), bput_q (by decide), bput_q (by decide), bput_q (by decide), bput_q (by decide)]; exact r8
  · rw [hk _ (by omega) (by omega) (by omega) (by omega), bput_q (by decide), bput_q (by decide), bput_q (by decide), bput_q (by decide)]; exact r9
  · rw [hk _ (by omega) (by omega) (by omega) (by omega), bput_q (by decide), bput_q (by decide), bput_q (by decide), bput_q (by decide)]; exact r10
  · rw [h5, h4, h7, bput_q (by decide), bput_q (by decide), bput_q (by decide), bput_h, bput_h]
    exact fun hL => ⟨hw hL, (hN hL).symm⟩
  · intro q hq
    rw [hk _ (by omega) (by omega) (by omega) (by omega)] at hq
    rw [hk _ (by omega) (by omega) (by omega) (by omega), bput_j (by omega), bput_j (by omega), bput_j (by omega), bput_j (by omega)]
    exact rw' q hq
  · unfold jS at hj ⊢
    rw [hk (7 + 14 * n + 0) (by omega) (by omega) (by omega) (by omega), hk (7 + 14 * n + 8) (by omega) (by omega) (by omega) (by omega), hk (7 + 14 * n + 12) (by omega) (by omega) (by omega) (by omega), hk (7 + 14 * n + 2) (by omega) (by omega) (by omega) (by omega), hk (7 + 14 * n + 3) (by omega) (by omega) (by omega) (by omega), h5]
    refine ⟨hj.1, ⟨w3, w4⟩, hj.2.2.1, hj.2.2.2.1, hj.2.2.2.2.1, hj.2.2.2.2.2.1, fun q hq => ?_⟩
    rw [hk _ (by omega) (by omega) (by omega) (by omega)]
    exact hj.2.2.2.2.2.2 q hq
  · rw [h5] at hL
    rw [h4, h7, hN hL, en]
    exact ⟨hv hL, by omega, by omega⟩

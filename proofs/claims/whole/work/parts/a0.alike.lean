/-! THE RELATION of a bench of the class (cells B) and a bench of the reference (a row of 100 numbers S) -/
/-- what a shaft of the reference keeps at the time T: micro, left, level, waits, way, next, steps, says, stands -/
def iS (S : Nat → Int32) (T : Nat) (n : Nat) : Prop :=
  (1 ≤ (S (7 + 14 * n + 0)).toInt ∧ (S (7 + 14 * n + 0)).toInt ≤ 4) ∧
  (0 ≤ (S (7 + 14 * n + 5)).toInt ∧ (S (7 + 14 * n + 5)).toInt ≤ 1000000) ∧
  (0 ≤ (S (7 + 14 * n + 6)).toInt ∧ (S (7 + 14 * n + 6)).toInt ≤ 200) ∧
  (0 ≤ (S (7 + 14 * n + 8)).toInt ∧ (S (7 + 14 * n + 8)).toInt ≤ 3) ∧
  (S (7 + 14 * n + 5) = 0 → S (7 + 14 * n + 6) = 0 ∧ S (7 + 14 * n + 8) = 0) ∧
  (¬ S (7 + 14 * n + 5) = 0 → (S (7 + 14 * n + 4) = 1 ∨ S (7 + 14 * n + 4) = -1) ∧ (T : Int) < (S (7 + 14 * n + 7)).toInt ∧ (S (7 + 14 * n + 7)).toInt ≤ T + 200) ∧
  (0 ≤ (S (7 + 14 * n + 12)).toInt ∧ (S (7 + 14 * n + 12)).toInt ≤ T) ∧
  ((S (7 + 14 * n + 2)).toInt ≤ 4 * (S (7 + 14 * n + 12)).toInt ∧ -(4 * (S (7 + 14 * n + 12)).toInt) ≤ (S (7 + 14 * n + 2)).toInt) ∧
  ((S (7 + 14 * n + 3)).toInt ≤ 4 * (S (7 + 14 * n + 12)).toInt ∧ -(4 * (S (7 + 14 * n + 12)).toInt) ≤ (S (7 + 14 * n + 3)).toInt) ∧
  ∀ q : Nat, (q : Int) < (S (7 + 14 * n + 8)).toInt → (S (7 + 14 * n + (9 + q))).toInt ≤ 9999 ∧ -9999 ≤ (S (7 + 14 * n + (9 + q))).toInt
/-- a shaft of the class and one of the reference, alike -/
def rS (B : wB) (S : Nat → Int32) (n : Nat) : Prop :=
  B (3 + n) 0 = S (7 + 14 * n + 0) ∧ B (3 + n) 1 = S (7 + 14 * n + 1) ∧ B (3 + n) 2 = S (7 + 14 * n + 2) ∧ B (3 + n) 3 = S (7 + 14 * n + 3) ∧
  B (3 + n) 5 = S (7 + 14 * n + 5) ∧ B (3 + n) 6 = S (7 + 14 * n + 6) ∧ B (3 + n) 8 = S (7 + 14 * n + 12) ∧ B (3 + n) 9 = S (7 + 14 * n + 13) ∧ B (3 + n) 10 = S (7 + 14 * n + 8) ∧
  (¬ S (7 + 14 * n + 5) = 0 → B (3 + n) 4 = S (7 + 14 * n + 4) ∧ B (3 + n) 7 = S (7 + 14 * n + 7)) ∧
  ∀ q : Nat, (q : Int) < (S (7 + 14 * n + 8)).toInt → B (7 + n) q = S (7 + 14 * n + (9 + q))
/-- the settings of the reference, and their ranges -/
def iR (S : Nat → Int32) : Prop :=
  (10 ≤ (S 0).toInt ∧ (S 0).toInt ≤ 200) ∧ (2 ≤ (S 1).toInt ∧ (S 1).toInt ≤ 50) ∧ (1 ≤ (S 2).toInt ∧ (S 2).toInt ≤ 40) ∧ (0 ≤ (S 3).toInt ∧ (S 3).toInt ≤ 40) ∧ (0 ≤ (S 4).toInt ∧ (S 4).toInt ≤ 20)
def rR (B : wB) (S : Nat → Int32) : Prop := B 1 0 = S 0 ∧ B 1 1 = S 1 ∧ B 1 2 = S 2 ∧ B 1 3 = S 3 ∧ B 1 4 = S 4
/-- a plan: time, shaft, place -/
abbrev wP : Type := Int32 × Int32 × Int32
/-- a plan is put behind those that come before it or with it -/
def pIns (x : wP) : List wP → List wP
  | [] => [x]
  | y :: r => if x.1.toInt < y.1.toInt then x :: y :: r else y :: pIns x r
def pSort (l : List wP) : List wP := l.foldl (fun r x => pIns x r) []
def plM (S : Nat → Int32) (M : Nat) : List wP := (List.range M).map fun k => (S (64 + 3 * k), S (64 + 3 * k + 1), S (64 + 3 * k + 2))
def plC (B : wB) (M : Nat) : List wP := (List.range M).map fun k => (B 11 k, B 12 k, B 13 k)
/-- what a plan keeps: its time is to come, its shaft is there, its place is a place -/
def iP (m T : Nat) (x : wP) : Prop := ((T : Int) < x.1.toInt ∧ x.1.toInt ≤ T + 9999) ∧ (∃ j : Nat, j < m ∧ x.2.1 = nI j) ∧ (x.2.2.toInt ≤ 9999 ∧ -9999 ≤ x.2.2.toInt)
/-- a bench of the class and one of the reference, alike: m shafts, M plans, the time T -/
def RB (m M T : Nat) (B : wB) (S : Nat → Int32) : Prop :=
  (S 6 = nI m ∧ B 0 0 = nI m ∧ m ≤ 4) ∧ (S 5 = nI T ∧ B 0 2 = nI T ∧ T ≤ 125000) ∧ (S 63 = nI M ∧ B 0 1 = nI M ∧ M ≤ 12) ∧
  (rR B S ∧ iR S) ∧ (∀ n, n < m → rS B S n ∧ iS S T n) ∧ (∀ n, m ≤ n → n < 4 → ∀ q, q < 11 → B (3 + n) q = 0 ∧ S (7 + 14 * n + 8) = 0) ∧
  plC B M = pSort (plM S M) ∧ ∀ x ∈ plM S M, iP m T x
def RE (B : wB) (S : Nat → Int32) : Prop := ∃ m M T, RB m M T B S
/-! equal where it counts -/
theorem rS_c {B B' : wB} {S S' : Nat → Int32} {n : Nat} (h : rS B S n) (h1 : ∀ q, q < 11 → B' (3 + n) q = B (3 + n) q) (h2 : ∀ q, q < 3 → B' (7 + n) q = B (7 + n) q) (hw : (S (7 + 14 * n + 8)).toInt ≤ 3) (h3 : ∀ q, q < 14 → S' (7 + 14 * n + q) = S (7 + 14 * n + q)) : rS B' S' n := by
  obtain ⟨a0, a1, a2, a3, a5, a6, a8, a9, a10, a4, aw⟩ := h
  refine ⟨?_, ?_, ?_, ?_, ?_, ?_, ?_, ?_, ?_, ?_, ?_⟩
  · rw [h1 0 (by decide), h3 0 (by decide)]; exact a0
  · rw [h1 1 (by decide), h3 1 (by decide)]; exact a1
  · rw [h1 2 (by decide), h3 2 (by decide)]; exact a2
  · rw [h1 3 (by decide), h3 3 (by decide)]; exact a3
  · rw [h1 5 (by decide), h3 5 (by decide)]; exact a5
  · rw [h1 6 (by decide), h3 6 (by decide)]; exact a6
  · rw [h1 8 (by decide), h3 12 (by decide)]; exact a8
  · rw [h1 9 (by decide), h3 13 (by decide)]; exact a9
  · rw [h1 10 (by decide), h3 8 (by decide)]; exact a10
  · rw [h3 5 (by decide), h1 4 (by decide), h1 7 (by decide), h3 4 (by decide), h3 7 (by decide)]; exact a4
  · intro q hq
    rw [h3 8 (by decide)] at hq
    rw [h2 q (by omega), h3 (9 + q) (by omega)]
    exact aw q hq
theorem iS_c {S S' : Nat → Int32} {T n : Nat} (h : iS S T n) (h3 : ∀ q, q < 14 → S' (7 + 14 * n + q) = S (7 + 14 * n + q)) : iS S' T n := by
  unfold iS at h ⊢
  rw [h3 0 (by decide), h3 5 (by decide), h3 6 (by decide), h3 8 (by decide), h3 4 (by decide), h3 7 (by decide), h3 12 (by decide), h3 2 (by decide), h3 3 (by decide)]
  refine ⟨h.1, h.2.1, h.2.2.1, h.2.2.2.1, h.2.2.2.2.1, h.2.2.2.2.2.1, h.2.2.2.2.2.2.1, h.2.2.2.2.2.2.2.1, h.2.2.2.2.2.2.2.2.1, fun q hq => ?_⟩
  rw [h3 (9 + q) (by have := h.2.2.2.1.2; omega)]
  exact h.2.2.2.2.2.2.2.2.2 q hq
theorem plM_c {S S' : Nat → Int32} {M : Nat} (h : ∀ q, 64 ≤ q → q < 64 + 3 * M → S' q = S q) : plM S' M = plM S M := by
  unfold plM
  refine List.map_congr_left fun k hk => ?_
  have hk := List.mem_range.mp hk
  rw [h _ (by omega) (by omega), h (64 + 3 * k + 1) (by omega) (by omega), h (64 + 3 * k + 2) (by omega) (by omega)]
theorem plC_c {B B' : wB} {M : Nat} (h : ∀ q, q < M → B' 11 q = B 11 q ∧ B' 12 q = B 12 q ∧ B' 13 q = B 13 q) : plC B' M = plC B M := by
  unfold plC
  refine List.map_congr_left fun k hk => ?_
  obtain ⟨h1, h2, h3⟩ := h k (List.mem_range.mp hk)
  rw [h1, h2, h3]
/-- benches that agree on their numbers -/
theorem RB_c {m M T : Nat} {B B' : wB} {S S' : Nat → Int32} (h : RB m M T B S) (hB : ∀ j q, bval j q → B' j q = B j q) (hS : ∀ q, q < 100 → S' q = S q) : RB m M T B' S' := by
  obtain ⟨⟨a1, a2, a3⟩, ⟨b1, b2, b3⟩, ⟨c1, c2, c3⟩, ⟨d1, d2⟩, e, f, g, i⟩ := h
  have v0 : ∀ q, q < 3 → bval 0 q := fun q hq => Or.inl ⟨rfl, hq⟩
  have v1 : ∀ q, q < 5 → bval 1 q := fun q hq => Or.inr (Or.inl ⟨rfl, hq⟩)
  have vs : ∀ n q, n < 4 → q < 11 → bval (3 + n) q := fun n q hn hq => Or.inr (Or.inr (Or.inl ⟨by omega, by omega, hq⟩))
  have vw : ∀ n q, n < 4 → q < 3 → bval (7 + n) q := fun n q hn hq => Or.inr (Or.inr (Or.inr (Or.inl ⟨by omega, by omega, hq⟩)))
  have vp : ∀ j q, 11 ≤ j → j < 14 → q < 12 → bval j q := fun j q h1 h2 hq => Or.inr (Or.inr (Or.inr (Or.inr ⟨h1, h2, hq⟩)))
  have hM : plM S' M = plM S M := plM_c fun q h1 h2 => hS q (by omega)
  refine ⟨⟨by rw [hS 6 (by decide)]; exact a1, by rw [hB 0 0 (v0 0 (by decide))]; exact a2, a3⟩, ⟨by rw [hS 5 (by decide)]; exact b1, by rw [hB 0 2 (v0 2 (by decide))]; exact b2, b3⟩, ⟨by rw [hS 63 (by decide)]; exact c1, by rw [hB 0 1 (v0 1 (by decide))]; exact c2, c3⟩, ⟨?_, ?_⟩, fun n hn => ?_, fun n h1 h2 q hq => ?_, ?_, ?_⟩
  · unfold rR
    rw [hB 1 0 (v1 0 (by decide)), hB 1 1 (v1 1 (by decide)), hB 1 2 (v1 2 (by decide)), hB 1 3 (v1 3 (by decide)), hB 1 4 (v1 4 (by decide)), hS 0 (by decide), hS 1 (by decide), hS 2 (by decide), hS 3 (by decide), hS 4 (by decide)]
    exact d1
  · unfold iR
    rw [hS 0 (by decide), hS 1 (by decide), hS 2 (by decide), hS 3 (by decide), hS 4 (by decide)]
    exact d2
  · exact ⟨rS_c (e n hn).1 (fun q hq => hB _ _ (vs n q (by omega) hq)) (fun q hq => hB _ _ (vw n q (by omega) hq)) (e n hn).2.2.2.2.1.2 (fun q hq => hS _ (by omega)), iS_c (e n hn).2 (fun q hq => hS _ (by omega))⟩
  · rw [hB _ _ (vs n q h2 hq), hS _ (by omega)]
    exact f n h1 h2 q hq
  · rw [hM, ← g]
    exact plC_c fun q hq => ⟨hB _ _ (vp 11 q (by decide) (by decide) (by omega)), hB _ _ (vp 12 q (by decide) (by decide) (by omega)), hB _ _ (vp 13 q (by decide) (by decide) (by omega))⟩
  · rw [hM]
    exact i

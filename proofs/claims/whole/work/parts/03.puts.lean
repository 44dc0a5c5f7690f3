theorem vB {i j : Nat} (hi : i < 11) (hj : j < 14) : wV i j := Or.inl ⟨hi, hj⟩
theorem vBs {i n : Nat} (hi : i < 11) (hn : n < 4) : wV i (3 + n) := Or.inl ⟨hi, by omega⟩
theorem vBw {i n : Nat} (hi : i < 11) (hn : n < 4) : wV i (7 + n) := Or.inl ⟨hi, by omega⟩
theorem vS {j : Nat} (hj : j < 8) : wV 11 j := Or.inr (Or.inl ⟨rfl, hj⟩)
theorem vM {j : Nat} (hj : j < 7) : wV 12 j := Or.inr (Or.inr ⟨rfl, hj⟩)
theorem wset_off {Z : wZ} {i j q : Nat} {B : wB} {v : Int32} : ∀ i' j' : Nat, ¬ (i' = i ∧ j' = j) → wset Z i (bput B j q v) i' j' = wset Z i B i' j' := by
  intro i' j' h
  by_cases h1 : i' = i
  · subst h1
    rw [wset_get, wset_get]
    exact bput_off fun e => h ⟨rfl, e⟩
  · rw [wset_ne _ _ h1, wset_ne _ _ h1]
theorem pu_b0_0 {G : wG} {Z : wZ} {i : Nat} {B : wB} {v : Int32} (hi : i < 11) : wE G (wset Z i (bput B 0 0 v)) i 0 = .inr (0, ([.ref (G.2.2.1 i 1), .ref (G.2.2.1 i 2), .ref (G.2.2.1 i 11), .ref (G.2.2.1 i 12), .ref (G.2.2.1 i 13), .int (B 0 0), .int (B 0 1), .int (B 0 2)] : List Value).set 5 (.int v)) := by
  rw [ce_b0 hi]
  simp [bput]
theorem pu_b0_1 {G : wG} {Z : wZ} {i : Nat} {B : wB} {v : Int32} (hi : i < 11) : wE G (wset Z i (bput B 0 1 v)) i 0 = .inr (0, ([.ref (G.2.2.1 i 1), .ref (G.2.2.1 i 2), .ref (G.2.2.1 i 11), .ref (G.2.2.1 i 12), .ref (G.2.2.1 i 13), .int (B 0 0), .int (B 0 1), .int (B 0 2)] : List Value).set 6 (.int v)) := by
  rw [ce_b0 hi]
  simp [bput]
theorem pu_b0_2 {G : wG} {Z : wZ} {i : Nat} {B : wB} {v : Int32} (hi : i < 11) : wE G (wset Z i (bput B 0 2 v)) i 0 = .inr (0, ([.ref (G.2.2.1 i 1), .ref (G.2.2.1 i 2), .ref (G.2.2.1 i 11), .ref (G.2.2.1 i 12), .ref (G.2.2.1 i 13), .int (B 0 0), .int (B 0 1), .int (B 0 2)] : List Value).set 7 (.int v)) := by
  rw [ce_b0 hi]
  simp [bput]
theorem pu_b1_0 {G : wG} {Z : wZ} {i : Nat} {B : wB} {v : Int32} (hi : i < 11) : wE G (wset Z i (bput B 1 0 v)) i 1 = .inr (3, ([.int (B 1 0), .int (B 1 1), .int (B 1 2), .int (B 1 3), .int (B 1 4)] : List Value).set 0 (.int v)) := by
  rw [ce_b1 hi]
  simp [bput]
theorem pu_b1_1 {G : wG} {Z : wZ} {i : Nat} {B : wB} {v : Int32} (hi : i < 11) : wE G (wset Z i (bput B 1 1 v)) i 1 = .inr (3, ([.int (B 1 0), .int (B 1 1), .int (B 1 2), .int (B 1 3), .int (B 1 4)] : List Value).set 1 (.int v)) := by
  rw [ce_b1 hi]
  simp [bput]
theorem pu_b1_2 {G : wG} {Z : wZ} {i : Nat} {B : wB} {v : Int32} (hi : i < 11) : wE G (wset Z i (bput B 1 2 v)) i 1 = .inr (3, ([.int (B 1 0), .int (B 1 1), .int (B 1 2), .int (B 1 3), .int (B 1 4)] : List Value).set 2 (.int v)) := by
  rw [ce_b1 hi]
  simp [bput]
theorem pu_b1_3 {G : wG} {Z : wZ} {i : Nat} {B : wB} {v : Int32} (hi : i < 11) : wE G (wset Z i (bput B 1 3 v)) i 1 = .inr (3, ([.int (B 1 0), .int (B 1 1), .int (B 1 2), .int (B 1 3), .int (B 1 4)] : List Value).set 3 (.int v)) := by
  rw [ce_b1 hi]
  simp [bput]
theorem pu_b1_4 {G : wG} {Z : wZ} {i : Nat} {B : wB} {v : Int32} (hi : i < 11) : wE G (wset Z i (bput B 1 4 v)) i 1 = .inr (3, ([.int (B 1 0), .int (B 1 1), .int (B 1 2), .int (B 1 3), .int (B 1 4)] : List Value).set 4 (.int v)) := by
  rw [ce_b1 hi]
  simp [bput]
theorem pu_bs_0 {G : wG} {Z : wZ} {i n : Nat} {B : wB} {v : Int32} (hi : i < 11) (hn : n < 4) : wE G (wset Z i (bput B (3 + n) 0 v)) i (3 + n) = .inr (5, ([.int (B (3 + n) 0), .int (B (3 + n) 1), .int (B (3 + n) 2), .int (B (3 + n) 3), .int (B (3 + n) 4), .int (B (3 + n) 5), .int (B (3 + n) 6), .int (B (3 + n) 7), .int (B (3 + n) 8), .int (B (3 + n) 9), .int (B (3 + n) 10), .ref (G.2.2.1 i (7 + n))] : List Value).set 0 (.int v)) := by
  rw [ce_bs hi hn]
  simp [bput]
theorem pu_bs_1 {G : wG} {Z : wZ} {i n : Nat} {B : wB} {v : Int32} (hi : i < 11) (hn : n < 4) : wE G (wset Z i (bput B (3 + n) 1 v)) i (3 + n) = .inr (5, ([.int (B (3 + n) 0), .int (B (3 + n) 1), .int (B (3 + n) 2), .int (B (3 + n) 3), .int (B (3 + n) 4), .int (B (3 + n) 5), .int (B (3 + n) 6), .int (B (3 + n) 7), .int (B (3 + n) 8), .int (B (3 + n) 9), .int (B (3 + n) 10), .ref (G.2.2.1 i (7 + n))] : List Value).set 1 (.int v)) := by
  rw [ce_bs hi hn]
  simp [bput]
theorem pu_bs_2 {G : wG} {Z : wZ} {i n : Nat} {B : wB} {v : Int32} (hi : i < 11) (hn : n < 4) : wE G (wset Z i (bput B (3 + n) 2 v)) i (3 + n) = .inr (5, ([.int (B (3 + n) 0), .int (B (3 + n) 1), .int (B (3 + n) 2), .int (B (3 + n) 3), .int (B (3 + n) 4), .int (B (3 + n) 5), .int (B (3 + n) 6), .int (B (3 + n) 7), .int (B (3 + n) 8), .int (B (3 + n) 9), .int (B (3 + n) 10), .ref (G.2.2.1 i (7 + n))] : List Value).set 2 (.int v)) := by
  rw [ce_bs hi hn]
  simp [bput]
theorem pu_bs_3 {G : wG} {Z : wZ} {i n : Nat} {B : wB} {v : Int32} (hi : i < 11) (hn : n < 4) : wE G (wset Z i (bput B (3 + n) 3 v)) i (3 + n) = .inr (5, ([.int (B (3 + n) 0), .int (B (3 + n) 1), .int (B (3 + n) 2), .int (B (3 + n) 3), .int (B (3 + n) 4), .int (B (3 + n) 5), .int (B (3 + n) 6), .int (B (3 + n) 7), .int (B (3 + n) 8), .int (B (3 + n) 9), .int (B (3 + n) 10), .ref (G.2.2.1 i (7 + n))] : List Value).set 3 (.int v)) := by
  rw [ce_bs hi hn]
  simp [bput]
theorem pu_bs_4 {G : wG} {Z : wZ} {i n : Nat} {B : wB} {v : Int32} (hi : i < 11) (hn : n < 4) : wE G (wset Z i (bput B (3 + n) 4 v)) i (3 + n) = .inr (5, ([.int (B (3 + n) 0), .int (B (3 + n) 1), .int (B (3 + n) 2), .int (B (3 + n) 3), .int (B (3 + n) 4), .int (B (3 + n) 5), .int (B (3 + n) 6), .int (B (3 + n) 7), .int (B (3 + n) 8), .int (B (3 + n) 9), .int (B (3 + n) 10), .ref (G.2.2.1 i (7 + n))] : List Value).set 4 (.int v)) := by
  rw [ce_bs hi hn]
  simp [bput]
theorem pu_bs_5 {G : wG} {Z : wZ} {i n : Nat} {B : wB} {v : Int32} (hi : i < 11) (hn : n < 4) : wE G (wset Z i (bput B (3 + n) 5 v)) i (3 + n) = .inr (5, ([.int (B (3 + n) 0), .int (B (3 + n) 1), .int (B (3 + n) 2), .int (B (3 + n) 3), .int (B (3 + n) 4), .int (B (3 + n) 5), .int (B (3 + n) 6), .int (B (3 + n) 7), .int (B (3 + n) 8), .int (B (3 + n) 9), .int (B (3 + n) 10), .ref (G.2.2.1 i (7 + n))] : List Value).set 5 (.int v)) := by
  rw [ce_bs hi hn]
  simp [bput]
theorem pu_bs_6 {G : wG} {Z : wZ} {i n : Nat} {B : wB} {v : Int32} (hi : i < 11) (hn : n < 4) : wE G (wset Z i (bput B (3 + n) 6 v)) i (3 + n) = .inr (5, ([.int (B (3 + n) 0), .int (B (3 + n) 1), .int (B (3 + n) 2), .int (B (3 + n) 3), .int (B (3 + n) 4), .int (B (3 + n) 5), .int (B (3 + n) 6), .int (B (3 + n) 7), .int (B (3 + n) 8), .int (B (3 + n) 9), .int (B (3 + n) 10), .ref (G.2.2.1 i (7 + n))] : List Value).set 6 (.int v)) := by
  rw [ce_bs hi hn]
  simp [bput]
theorem pu_bs_7 {G : wG} {Z : wZ} {i n : Nat} {B : wB} {v : Int32} (hi : i < 11) (hn : n < 4) : wE G (wset Z i (bput B (3 + n) 7 v)) i (3 + n) = .inr (5, ([.int (B (3 + n) 0), .int (B (3 + n) 1), .int (B (3 + n) 2), .int (B (3 + n) 3), .int (B (3 + n) 4), .int (B (3 + n) 5), .int (B (3 + n) 6), .int (B (3 + n) 7), .int (B (3 + n) 8), .int (B (3 + n) 9), .int (B (3 + n) 10), .ref (G.2.2.1 i (7 + n))] : List Value).set 7 (.int v)) := by
  rw [ce_bs hi hn]
  simp [bput]
theorem pu_bs_8 {G : wG} {Z : wZ} {i n : Nat} {B : wB} {v : Int32} (hi : i < 11) (hn : n < 4) : wE G (wset Z i (bput B (3 + n) 8 v)) i (3 + n) = .inr (5, ([.int (B (3 + n) 0), .int (B (3 + n) 1), .int (B (3 + n) 2), .int (B (3 + n) 3), .int (B (3 + n) 4), .int (B (3 + n) 5), .int (B (3 + n) 6), .int (B (3 + n) 7), .int (B (3 + n) 8), .int (B (3 + n) 9), .int (B (3 + n) 10), .ref (G.2.2.1 i (7 + n))] : List Value).set 8 (.int v)) := by
  rw [ce_bs hi hn]
  simp [bput]
theorem pu_bs_9 {G : wG} {Z : wZ} {i n : Nat} {B : wB} {v : Int32} (hi : i < 11) (hn : n < 4) : wE G (wset Z i (bput B (3 + n) 9 v)) i (3 + n) = .inr (5, ([.int (B (3 + n) 0), .int (B (3 + n) 1), .int (B (3 + n) 2), .int (B (3 + n) 3), .int (B (3 + n) 4), .int (B (3 + n) 5), .int (B (3 + n) 6), .int (B (3 + n) 7), .int (B (3 + n) 8), .int (B (3 + n) 9), .int (B (3 + n) 10), .ref (G.2.2.1 i (7 + n))] : List Value).set 9 (.int v)) := by
  rw [ce_bs hi hn]
  simp [bput]
theorem pu_bs_10 {G : wG} {Z : wZ} {i n : Nat} {B : wB} {v : Int32} (hi : i < 11) (hn : n < 4) : wE G (wset Z i (bput B (3 + n) 10 v)) i (3 + n) = .inr (5, ([.int (B (3 + n) 0), .int (B (3 + n) 1), .int (B (3 + n) 2), .int (B (3 + n) 3), .int (B (3 + n) 4), .int (B (3 + n) 5), .int (B (3 + n) 6), .int (B (3 + n) 7), .int (B (3 + n) 8), .int (B (3 + n) 9), .int (B (3 + n) 10), .ref (G.2.2.1 i (7 + n))] : List Value).set 10 (.int v)) := by
  rw [ce_bs hi hn]
  simp [bput]
theorem pu_s1_0 {G : wG} {Z : wZ} {B : wB} {v : Int32}  : wE G (wset Z 11 (bput B 1 0 v)) 11 1 = .inr (1, ([.ref (G.2.2.1 11 2), .int (B 1 0), .int (B 1 1)] : List Value).set 1 (.int v)) := by
  rw [ce_s1]
  simp [bput]
theorem pu_s1_1 {G : wG} {Z : wZ} {B : wB} {v : Int32}  : wE G (wset Z 11 (bput B 1 1 v)) 11 1 = .inr (1, ([.ref (G.2.2.1 11 2), .int (B 1 0), .int (B 1 1)] : List Value).set 2 (.int v)) := by
  rw [ce_s1]
  simp [bput]
theorem pu_s5_0 {G : wG} {Z : wZ} {B : wB} {v : Int32}  : wE G (wset Z 11 (bput B 5 0 v)) 11 5 = .inr (4, ([.ref (G.2.2.1 11 6), .int (B 5 0), .int (B 5 1), .int (B 5 2), .int (B 5 3), .int (B 5 4)] : List Value).set 1 (.int v)) := by
  rw [ce_s5]
  simp [bput]
theorem pu_s5_1 {G : wG} {Z : wZ} {B : wB} {v : Int32}  : wE G (wset Z 11 (bput B 5 1 v)) 11 5 = .inr (4, ([.ref (G.2.2.1 11 6), .int (B 5 0), .int (B 5 1), .int (B 5 2), .int (B 5 3), .int (B 5 4)] : List Value).set 2 (.int v)) := by
  rw [ce_s5]
  simp [bput]
theorem pu_s5_2 {G : wG} {Z : wZ} {B : wB} {v : Int32}  : wE G (wset Z 11 (bput B 5 2 v)) 11 5 = .inr (4, ([.ref (G.2.2.1 11 6), .int (B 5 0), .int (B 5 1), .int (B 5 2), .int (B 5 3), .int (B 5 4)] : List Value).set 3 (.int v)) := by
  rw [ce_s5]
  simp [bput]
theorem pu_s5_3 {G : wG} {Z : wZ} {B : wB} {v : Int32}  : wE G (wset Z 11 (bput B 5 3 v)) 11 5 = .inr (4, ([.ref (G.2.2.1 11 6), .int (B 5 0), .int (B 5 1), .int (B 5 2), .int (B 5 3), .int (B 5 4)] : List Value).set 4 (.int v)) := by
  rw [ce_s5]
  simp [bput]
theorem pu_s5_4 {G : wG} {Z : wZ} {B : wB} {v : Int32}  : wE G (wset Z 11 (bput B 5 4 v)) 11 5 = .inr (4, ([.ref (G.2.2.1 11 6), .int (B 5 0), .int (B 5 1), .int (B 5 2), .int (B 5 3), .int (B 5 4)] : List Value).set 5 (.int v)) := by
  rw [ce_s5]
  simp [bput]
theorem pu_s6_0 {G : wG} {Z : wZ} {B : wB} {v : Int32}  : wE G (wset Z 11 (bput B 6 0 v)) 11 6 = .inr (2, ([.ref (G.2.2.1 11 7), .int (B 6 0)] : List Value).set 1 (.int v)) := by
  rw [ce_s6]
  simp [bput]
theorem pu_m0_0 {G : wG} {Z : wZ} {B : wB} {v : Int32}  : wE G (wset Z 12 (bput B 0 0 v)) 12 0 = .inr (7, ([.ref (G.2.2.1 12 1), .ref (G.2.2.1 12 2), .ref (G.2.2.1 12 3), .int (B 0 0), .ref (G.2.2.1 12 4), .ref (G.2.2.1 12 5), .ref (G.2.2.1 12 6), .int (B 0 1), .int (B 0 2), .int (B 0 3), .int (B 0 4), .int (B 0 5), .int (B 0 6), .int (B 0 7), .int (B 0 8), .int (B 0 9), .int (B 0 10)] : List Value).set 3 (.int v)) := by
  rw [ce_m0]
  simp [bput]
theorem pu_m0_1 {G : wG} {Z : wZ} {B : wB} {v : Int32}  : wE G (wset Z 12 (bput B 0 1 v)) 12 0 = .inr (7, ([.ref (G.2.2.1 12 1), .ref (G.2.2.1 12 2), .ref (G.2.2.1 12 3), .int (B 0 0), .ref (G.2.2.1 12 4), .ref (G.2.2.1 12 5), .ref (G.2.2.1 12 6), .int (B 0 1), .int (B 0 2), .int (B 0 3), .int (B 0 4), .int (B 0 5), .int (B 0 6), .int (B 0 7), .int (B 0 8), .int (B 0 9), .int (B 0 10)] : List Value).set 7 (.int v)) := by
  rw [ce_m0]
  simp [bput]
theorem pu_m0_2 {G : wG} {Z : wZ} {B : wB} {v : Int32}  : wE G (wset Z 12 (bput B 0 2 v)) 12 0 = .inr (7, ([.ref (G.2.2.1 12 1), .ref (G.2.2.1 12 2), .ref (G.2.2.1 12 3), .int (B 0 0), .ref (G.2.2.1 12 4), .ref (G.2.2.1 12 5), .ref (G.2.2.1 12 6), .int (B 0 1), .int (B 0 2), .int (B 0 3), .int (B 0 4), .int (B 0 5), .int (B 0 6), .int (B 0 7), .int (B 0 8), .int (B 0 9), .int (B 0 10)] : List Value).set 8 (.int v)) := by
  rw [ce_m0]
  simp [bput]
theorem pu_m0_3 {G : wG} {Z : wZ} {B : wB} {v : Int32}  : wE G (wset Z 12 (bput B 0 3 v)) 12 0 = .inr (7, ([.ref (G.2.2.1 12 1), .ref (G.2.2.1 12 2), .ref (G.2.2.1 12 3), .int (B 0 0), .ref (G.2.2.1 12 4), .ref (G.2.2.1 12 5), .ref (G.2.2.1 12 6), .int (B 0 1), .int (B 0 2), .int (B 0 3), .int (B 0 4), .int (B 0 5), .int (B 0 6), .int (B 0 7), .int (B 0 8), .int (B 0 9), .int (B 0 10)] : List Value).set 9 (.int v)) := by
  rw [ce_m0]
  simp [bput]
theorem pu_m0_4 {G : wG} {Z : wZ} {B : wB} {v : Int32}  : wE G (wset Z 12 (bput B 0 4 v)) 12 0 = .inr (7, ([.ref (G.2.2.1 12 1), .ref (G.2.2.1 12 2), .ref (G.2.2.1 12 3), .int (B 0 0), .ref (G.2.2.1 12 4), .ref (G.2.2.1 12 5), .ref (G.2.2.1 12 6), .int (B 0 1), .int (B 0 2), .int (B 0 3), .int (B 0 4), .int (B 0 5), .int (B 0 6), .int (B 0 7), .int (B 0 8), .int (B 0 9), .int (B 0 10)] : List Value).set 10 (.int v)) := by
  rw [ce_m0]
  simp [bput]
theorem pu_m0_5 {G : wG} {Z : wZ} {B : wB} {v : Int32}  : wE G (wset Z 12 (bput B 0 5 v)) 12 0 = .inr (7, ([.ref (G.2.2.1 12 1), .ref (G.2.2.1 12 2), .ref (G.2.2.1 12 3), .int (B 0 0), .ref (G.2.2.1 12 4), .ref (G.2.2.1 12 5), .ref (G.2.2.1 12 6), .int (B 0 1), .int (B 0 2), .int (B 0 3), .int (B 0 4), .int (B 0 5), .int (B 0 6), .int (B 0 7), .int (B 0 8), .int (B 0 9), .int (B 0 10)] : List Value).set 11 (.int v)) := by
  rw [ce_m0]
  simp [bput]
theorem pu_m0_6 {G : wG} {Z : wZ} {B : wB} {v : Int32}  : wE G (wset Z 12 (bput B 0 6 v)) 12 0 = .inr (7, ([.ref (G.2.2.1 12 1), .ref (G.2.2.1 12 2), .ref (G.2.2.1 12 3), .int (B 0 0), .ref (G.2.2.1 12 4), .ref (G.2.2.1 12 5), .ref (G.2.2.1 12 6), .int (B 0 1), .int (B 0 2), .int (B 0 3), .int (B 0 4), .int (B 0 5), .int (B 0 6), .int (B 0 7), .int (B 0 8), .int (B 0 9), .int (B 0 10)] : List Value).set 12 (.int v)) := by
  rw [ce_m0]
  simp [bput]
theorem pu_m0_7 {G : wG} {Z : wZ} {B : wB} {v : Int32}  : wE G (wset Z 12 (bput B 0 7 v)) 12 0 = .inr (7, ([.ref (G.2.2.1 12 1), .ref (G.2.2.1 12 2), .ref (G.2.2.1 12 3), .int (B 0 0), .ref (G.2.2.1 12 4), .ref (G.2.2.1 12 5), .ref (G.2.2.1 12 6), .int (B 0 1), .int (B 0 2), .int (B 0 3), .int (B 0 4), .int (B 0 5), .int (B 0 6), .int (B 0 7), .int (B 0 8), .int (B 0 9), .int (B 0 10)] : List Value).set 13 (.int v)) := by
  rw [ce_m0]
  simp [bput]
theorem pu_m0_8 {G : wG} {Z : wZ} {B : wB} {v : Int32}  : wE G (wset Z 12 (bput B 0 8 v)) 12 0 = .inr (7, ([.ref (G.2.2.1 12 1), .ref (G.2.2.1 12 2), .ref (G.2.2.1 12 3), .int (B 0 0), .ref (G.2.2.1 12 4), .ref (G.2.2.1 12 5), .ref (G.2.2.1 12 6), .int (B 0 1), .int (B 0 2), .int (B 0 3), .int (B 0 4), .int (B 0 5), .int (B 0 6), .int (B 0 7), .int (B 0 8), .int (B 0 9), .int (B 0 10)] : List Value).set 14 (.int v)) := by
  rw [ce_m0]
  simp [bput]
theorem pu_m0_9 {G : wG} {Z : wZ} {B : wB} {v : Int32}  : wE G (wset Z 12 (bput B 0 9 v)) 12 0 = .inr (7, ([.ref (G.2.2.1 12 1), .ref (G.2.2.1 12 2), .ref (G.2.2.1 12 3), .int (B 0 0), .ref (G.2.2.1 12 4), .ref (G.2.2.1 12 5), .ref (G.2.2.1 12 6), .int (B 0 1), .int (B 0 2), .int (B 0 3), .int (B 0 4), .int (B 0 5), .int (B 0 6), .int (B 0 7), .int (B 0 8), .int (B 0 9), .int (B 0 10)] : List Value).set 15 (.int v)) := by
  rw [ce_m0]
  simp [bput]
theorem pu_m0_10 {G : wG} {Z : wZ} {B : wB} {v : Int32}  : wE G (wset Z 12 (bput B 0 10 v)) 12 0 = .inr (7, ([.ref (G.2.2.1 12 1), .ref (G.2.2.1 12 2), .ref (G.2.2.1 12 3), .int (B 0 0), .ref (G.2.2.1 12 4), .ref (G.2.2.1 12 5), .ref (G.2.2.1 12 6), .int (B 0 1), .int (B 0 2), .int (B 0 3), .int (B 0 4), .int (B 0 5), .int (B 0 6), .int (B 0 7), .int (B 0 8), .int (B 0 9), .int (B 0 10)] : List Value).set 16 (.int v)) := by
  rw [ce_m0]
  simp [bput]
theorem pu_bw {G : wG} {Z : wZ} {i n : Nat} {B : wB} {q : Nat} {v : Int32} (hi : i < 11) (hn : n < 4) : wE G (wset Z i (bput B (7 + n) q v)) i (7 + n) = .inl (G.2.1 0, 3, .inl (upd (B (7 + n)) q v)) := by
  rw [ce_bw hi hn, bput_row]
theorem pu_bp {G : wG} {Z : wZ} {i j : Nat} {B : wB} {q : Nat} {v : Int32} (hi : i < 11) (hj : 11 ≤ j) : wE G (wset Z i (bput B j q v)) i j = .inl (G.2.1 0, 12, .inl (upd (B j) q v)) := by
  rw [ce_bp hi hj, bput_row]
theorem pu_s4 {G : wG} {Z : wZ} {B : wB} {q : Nat} {v : Int32}  : wE G (wset Z 11 (bput B 4 q v)) 11 4 = .inl (G.2.1 1, 2, .inl (upd (B 4) q v)) := by
  rw [ce_s4, bput_row]
theorem pu_m1 {G : wG} {Z : wZ} {B : wB} {q : Nat} {v : Int32}  : wE G (wset Z 12 (bput B 1 q v)) 12 1 = .inl (G.2.1 0, 100, .inl (upd (B 1) q v)) := by
  rw [ce_m1, bput_row]
theorem pu_m2 {G : wG} {Z : wZ} {B : wB} {q : Nat} {v : Int32}  : wE G (wset Z 12 (bput B 2 q v)) 12 2 = .inl (G.2.1 0, 100, .inl (upd (B 2) q v)) := by
  rw [ce_m2, bput_row]
theorem pu_m3 {G : wG} {Z : wZ} {B : wB} {q : Nat} {v : Int32}  : wE G (wset Z 12 (bput B 3 q v)) 12 3 = .inl (G.2.1 0, 600, .inl (upd (B 3) q v)) := by
  rw [ce_m3, bput_row]
theorem pu_m4 {G : wG} {Z : wZ} {B : wB} {q : Nat} {v : Int32}  : wE G (wset Z 12 (bput B 4 q v)) 12 4 = .inl (G.2.1 0, 200, .inl (upd (B 4) q v)) := by
  rw [ce_m4, bput_row]
theorem pu_m5 {G : wG} {Z : wZ} {B : wB} {q : Nat} {v : Int32}  : wE G (wset Z 12 (bput B 5 q v)) 12 5 = .inl (G.2.1 1, 2, .inl (upd (B 5) q v)) := by
  rw [ce_m5, bput_row]
theorem pu_m6 {G : wG} {Z : wZ} {B : wB} {q : Nat} {v : Int32}  : wE G (wset Z 12 (bput B 6 q v)) 12 6 = .inl (G.2.1 0, 80, .inl (upd (B 6) q v)) := by
  rw [ce_m6, bput_row]
theorem pu_s7 {G : wG} {Z : wZ} {B : wB} {q : Nat} {v : Int32} : wE G (wset Z 11 (bput B 7 q v)) 11 7 = .inl (G.2.1 2, 80, .inl (upd (fun q => vp_nar .char (B 7 q)) q (vp_nar .char v))) := by
  rw [ce_s7, bput_row]
  refine congrArg (fun f : Nat → Int32 => (Sum.inl (G.2.1 2, 80, Sum.inl f) : va_E)) (funext fun q9 => ?_)
  by_cases h : q9 = q <;> simp [upd, h]

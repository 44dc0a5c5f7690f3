/-! THE START: the world of a new RampShafts and a new reference -/
def zr1 : Nat → Int32 := fun q => match q with
  | 0 => 60
  | 1 => 10
  | 2 => 10
  | 3 => 4
  | 4 => 2
  | _ => 0
def zb0 : wB := fun j => match j with
  | 1 => zr1
  | _ => fun _ => 0
def zm0 : wB := fun j => match j with
  | 0 => fun q => match q with
    | 2 => -1
    | _ => 0
  | 1 => ms0
  | _ => fun _ => 0
def zs0 : wB := fun _ _ => 0
/-- the world at the start -/
def Z0 : wZ := fun i => if i = 12 then zm0 else if i = 11 then zs0 else zb0
def lx (i j : Nat) : Nat := if i = 12 then 162 + j else if i = 11 then j else 8 + 14 * i + j
def lad (u : Nat → Nat → Nat) (v : Nat → Nat) : Nat → Nat → Nat := fun i j => if i = 12 then v j else u i j
theorem lx_1 {i j : Nat} (h : i < 11) : lx i j = 8 + 14 * i + j := by
  unfold lx
  rw [if_neg (by omega), if_neg (by omega)]
theorem lx_11 (j : Nat) : lx 11 j = j := rfl
theorem lx_12 (j : Nat) : lx 12 j = 162 + j := rfl
theorem lx_in {i j i' j' : Nat} (h : wV i j) (h' : wV i' j') (e : lx i j = lx i' j') : i = i' ∧ j = j' := by
  rcases h with ⟨hi, hj⟩ | ⟨rfl, hj⟩ | ⟨rfl, hj⟩ <;> rcases h' with ⟨hi', hj'⟩ | ⟨rfl, hj'⟩ | ⟨rfl, hj'⟩
  · rw [lx_1 hi, lx_1 hi'] at e; omega
  · rw [lx_1 hi, lx_11] at e; omega
  · rw [lx_1 hi, lx_12] at e; omega
  · rw [lx_11, lx_1 hi'] at e; omega
  · rw [lx_11, lx_11] at e; omega
  · rw [lx_11, lx_12] at e; omega
  · rw [lx_12, lx_1 hi'] at e; omega
  · rw [lx_12, lx_11] at e; omega
  · rw [lx_12, lx_12] at e; omega
theorem nar_c0 : (fun _ : Nat => vp_nar .char (0 : Int32)) = fun _ => 0 := by
  funext q
  decide
set_option maxRecDepth 100000 in
theorem lx_b0 (G : wG) (u : Nat → Nat → Nat) (v : Nat → Nat) (j : Nat) (hj : j < 14) : (hl6 G u ++ hl7 G v)[lx 0 j]? = some (lad u v 0 j, wE (G.1, G.2.1, lad u v, G.2.2.2) Z0 0 j) := by
  rcases (show j = 0 ∨ j = 1 ∨ j = 2 ∨ j = 3 ∨ j = 4 ∨ j = 5 ∨ j = 6 ∨ j = 7 ∨ j = 8 ∨ j = 9 ∨ j = 10 ∨ j = 11 ∨ j = 12 ∨ j = 13 by omega) with rfl | rfl | rfl | rfl | rfl | rfl | rfl | rfl | rfl | rfl | rfl | rfl | rfl | rfl <;> rfl
set_option maxRecDepth 100000 in
theorem lx_b1 (G : wG) (u : Nat → Nat → Nat) (v : Nat → Nat) (j : Nat) (hj : j < 14) : (hl6 G u ++ hl7 G v)[lx 1 j]? = some (lad u v 1 j, wE (G.1, G.2.1, lad u v, G.2.2.2) Z0 1 j) := by
  rcases (show j = 0 ∨ j = 1 ∨ j = 2 ∨ j = 3 ∨ j = 4 ∨ j = 5 ∨ j = 6 ∨ j = 7 ∨ j = 8 ∨ j = 9 ∨ j = 10 ∨ j = 11 ∨ j = 12 ∨ j = 13 by omega) with rfl | rfl | rfl | rfl | rfl | rfl | rfl | rfl | rfl | rfl | rfl | rfl | rfl | rfl <;> rfl
set_option maxRecDepth 100000 in
theorem lx_b2 (G : wG) (u : Nat → Nat → Nat) (v : Nat → Nat) (j : Nat) (hj : j < 14) : (hl6 G u ++ hl7 G v)[lx 2 j]? = some (lad u v 2 j, wE (G.1, G.2.1, lad u v, G.2.2.2) Z0 2 j) := by
  rcases (show j = 0 ∨ j = 1 ∨ j = 2 ∨ j = 3 ∨ j = 4 ∨ j = 5 ∨ j = 6 ∨ j = 7 ∨ j = 8 ∨ j = 9 ∨ j = 10 ∨ j = 11 ∨ j = 12 ∨ j = 13 by omega) with rfl | rfl | rfl | rfl | rfl | rfl | rfl | rfl | rfl | rfl | rfl | rfl | rfl | rfl <;> rfl
set_option maxRecDepth 100000 in
theorem lx_b3 (G : wG) (u : Nat → Nat → Nat) (v : Nat → Nat) (j : Nat) (hj : j < 14) : (hl6 G u ++ hl7 G v)[lx 3 j]? = some (lad u v 3 j, wE (G.1, G.2.1, lad u v, G.2.2.2) Z0 3 j) := by
  rcases (show j = 0 ∨ j = 1 ∨ j = 2 ∨ j = 3 ∨ j = 4 ∨ j = 5 ∨ j = 6 ∨ j = 7 ∨ j = 8 ∨ j = 9 ∨ j = 10 ∨ j = 11 ∨ j = 12 ∨ j = 13 by omega) with rfl | rfl | rfl | rfl | rfl | rfl | rfl | rfl | rfl | rfl | rfl | rfl | rfl | rfl <;> rfl
set_option maxRecDepth 100000 in
theorem lx_b4 (G : wG) (u : Nat → Nat → Nat) (v : Nat → Nat) (j : Nat) (hj : j < 14) : (hl6 G u ++ hl7 G v)[lx 4 j]? = some (lad u v 4 j, wE (G.1, G.2.1, lad u v, G.2.2.2) Z0 4 j) := by
  rcases (show j = 0 ∨ j = 1 ∨ j = 2 ∨ j = 3 ∨ j = 4 ∨ j = 5 ∨ j = 6 ∨ j = 7 ∨ j = 8 ∨ j = 9 ∨ j = 10 ∨ j = 11 ∨ j = 12 ∨ j = 13 by omega) with rfl | rfl | rfl | rfl | rfl | rfl | rfl | rfl | rfl | rfl | rfl | rfl | rfl | rfl <;> rfl
set_option maxRecDepth 100000 in
theorem lx_b5 (G : wG) (u : Nat → Nat → Nat) (v : Nat → Nat) (j : Nat) (hj : j < 14) : (hl6 G u ++ hl7 G v)[lx 5 j]? = some (lad u v 5 j, wE (G.1, G.2.1, lad u v, G.2.2.2) Z0 5 j) := by
  rcases (show j = 0 ∨ j = 1 ∨ j = 2 ∨ j = 3 ∨ j = 4 ∨ j = 5 ∨ j = 6 ∨ j = 7 ∨ j = 8 ∨ j = 9 ∨ j = 10 ∨ j = 11 ∨ j = 12 ∨ j = 13 by omega) with rfl | rfl | rfl | rfl | rfl | rfl | rfl | rfl | rfl | rfl | rfl | rfl | rfl | rfl <;> rfl
set_option maxRecDepth 100000 in
theorem lx_b6 (G : wG) (u : Nat → Nat → Nat) (v : Nat → Nat) (j : Nat) (hj : j < 14) : (hl6 G u ++ hl7 G v)[lx 6 j]? = some (lad u v 6 j, wE (G.1, G.2.1, lad u v, G.2.2.2) Z0 6 j) := by
  rcases (show j = 0 ∨ j = 1 ∨ j = 2 ∨ j = 3 ∨ j = 4 ∨ j = 5 ∨ j = 6 ∨ j = 7 ∨ j = 8 ∨ j = 9 ∨ j = 10 ∨ j = 11 ∨ j = 12 ∨ j = 13 by omega) with rfl | rfl | rfl | rfl | rfl | rfl | rfl | rfl | rfl | rfl | rfl | rfl | rfl | rfl <;> rfl
set_option maxRecDepth 100000 in
theorem lx_b7 (G : wG) (u : Nat → Nat → Nat) (v : Nat → Nat) (j : Nat) (hj : j < 14) : (hl6 G u ++ hl7 G v)[lx 7 j]? = some (lad u v 7 j, wE (G.1, G.2.1, lad u v, G.2.2.2) Z0 7 j) := by
  rcases (show j = 0 ∨ j = 1 ∨ j = 2 ∨ j = 3 ∨ j = 4 ∨ j = 5 ∨ j = 6 ∨ j = 7 ∨ j = 8 ∨ j = 9 ∨ j = 10 ∨ j = 11 ∨ j = 12 ∨ j = 13 by omega) with rfl | rfl | rfl | rfl | rfl | rfl | rfl | rfl | rfl | rfl | rfl | rfl | rfl | rfl <;> rfl
set_option maxRecDepth 100000 in
theorem lx_b8 (G : wG) (u : Nat → Nat → Nat) (v : Nat → Nat) (j : Nat) (hj : j < 14) : (hl6 G u ++ hl7 G v)[lx 8 j]? = some (lad u v 8 j, wE (G.1, G.2.1, lad u v, G.2.2.2) Z0 8 j) := by
  rcases (show j = 0 ∨ j = 1 ∨ j = 2 ∨ j = 3 ∨ j = 4 ∨ j = 5 ∨ j = 6 ∨ j = 7 ∨ j = 8 ∨ j = 9 ∨ j = 10 ∨ j = 11 ∨ j = 12 ∨ j = 13 by omega) with rfl | rfl | rfl | rfl | rfl | rfl | rfl | rfl | rfl | rfl | rfl | rfl | rfl | rfl <;> rfl
set_option maxRecDepth 100000 in
theorem lx_b9 (G : wG) (u : Nat → Nat → Nat) (v : Nat → Nat) (j : Nat) (hj : j < 14) : (hl6 G u ++ hl7 G v)[lx 9 j]? = some (lad u v 9 j, wE (G.1, G.2.1, lad u v, G.2.2.2) Z0 9 j) := by
  rcases (show j = 0 ∨ j = 1 ∨ j = 2 ∨ j = 3 ∨ j = 4 ∨ j = 5 ∨ j = 6 ∨ j = 7 ∨ j = 8 ∨ j = 9 ∨ j = 10 ∨ j = 11 ∨ j = 12 ∨ j = 13 by omega) with rfl | rfl | rfl | rfl | rfl | rfl | rfl | rfl | rfl | rfl | rfl | rfl | rfl | rfl <;> rfl
set_option maxRecDepth 100000 in
theorem lx_b10 (G : wG) (u : Nat → Nat → Nat) (v : Nat → Nat) (j : Nat) (hj : j < 14) : (hl6 G u ++ hl7 G v)[lx 10 j]? = some (lad u v 10 j, wE (G.1, G.2.1, lad u v, G.2.2.2) Z0 10 j) := by
  rcases (show j = 0 ∨ j = 1 ∨ j = 2 ∨ j = 3 ∨ j = 4 ∨ j = 5 ∨ j = 6 ∨ j = 7 ∨ j = 8 ∨ j = 9 ∨ j = 10 ∨ j = 11 ∨ j = 12 ∨ j = 13 by omega) with rfl | rfl | rfl | rfl | rfl | rfl | rfl | rfl | rfl | rfl | rfl | rfl | rfl | rfl <;> rfl
set_option maxRecDepth 100000 in
theorem lx_s (G : wG) (u : Nat → Nat → Nat) (v : Nat → Nat) (j : Nat) (hj : j < 7) (h2 : j ≠ 2) (h3 : j ≠ 3) : (hl6 G u ++ hl7 G v)[lx 11 j]? = some (lad u v 11 j, wE (G.1, G.2.1, lad u v, G.2.2.2) Z0 11 j) := by
  rcases (show j = 0 ∨ j = 1 ∨ j = 4 ∨ j = 5 ∨ j = 6 by omega) with rfl | rfl | rfl | rfl | rfl <;> rfl
set_option maxRecDepth 100000 in
theorem lx_s7 (G : wG) (u : Nat → Nat → Nat) (v : Nat → Nat) : (hl6 G u ++ hl7 G v)[lx 11 7]? = some (lad u v 11 7, wE (G.1, G.2.1, lad u v, G.2.2.2) Z0 11 7) := by
  show _ = some (lad u v 11 7, (Sum.inl (G.2.1 2, 80, Sum.inl (fun _ : Nat => vp_nar .char (0 : Int32))) : va_E))
  rw [nar_c0]
  rfl
set_option maxRecDepth 100000 in
theorem lx_m (G : wG) (u : Nat → Nat → Nat) (v : Nat → Nat) (j : Nat) (hj : j < 7) : (hl6 G u ++ hl7 G v)[lx 12 j]? = some (lad u v 12 j, wE (G.1, G.2.1, lad u v, G.2.2.2) Z0 12 j) := by
  rcases (show j = 0 ∨ j = 1 ∨ j = 2 ∨ j = 3 ∨ j = 4 ∨ j = 5 ∨ j = 6 by omega) with rfl | rfl | rfl | rfl | rfl | rfl | rfl <;> rfl
theorem lx_get (G : wG) (u : Nat → Nat → Nat) (v : Nat → Nat) {i j : Nat} (h : wV i j) (h2 : ¬ (i = 11 ∧ j = 2)) (h3 : ¬ (i = 11 ∧ j = 3)) : (hl6 G u ++ hl7 G v)[lx i j]? = some (lad u v i j, wE (G.1, G.2.1, lad u v, G.2.2.2) Z0 i j) := by
  rcases h with ⟨hi, hj⟩ | ⟨rfl, hj⟩ | ⟨rfl, hj⟩
  · rcases (show i = 0 ∨ i = 1 ∨ i = 2 ∨ i = 3 ∨ i = 4 ∨ i = 5 ∨ i = 6 ∨ i = 7 ∨ i = 8 ∨ i = 9 ∨ i = 10 by omega) with rfl | rfl | rfl | rfl | rfl | rfl | rfl | rfl | rfl | rfl | rfl
    · exact lx_b0 G u v j hj
    · exact lx_b1 G u v j hj
    · exact lx_b2 G u v j hj
    · exact lx_b3 G u v j hj
    · exact lx_b4 G u v j hj
    · exact lx_b5 G u v j hj
    · exact lx_b6 G u v j hj
    · exact lx_b7 G u v j hj
    · exact lx_b8 G u v j hj
    · exact lx_b9 G u v j hj
    · exact lx_b10 G u v j hj
  · by_cases e : j = 7
    · subst e; exact lx_s7 G u v
    · exact lx_s G u v j (by omega) (fun e => h2 ⟨rfl, e⟩) (fun e => h3 ⟨rfl, e⟩)
  · exact lx_m G u v j hj
theorem lx_adr (G : wG) (u : Nat → Nat → Nat) (v : Nat → Nat) {i j : Nat} (h : wV i j) : ∃ e : va_E, (hl6 G u ++ hl7 G v)[lx i j]? = some (lad u v i j, e) := by
  by_cases h2 : i = 11 ∧ j = 2
  · obtain ⟨rfl, rfl⟩ := h2; exact ⟨_, rfl⟩
  by_cases h3 : i = 11 ∧ j = 3
  · obtain ⟨rfl, rfl⟩ := h3; exact ⟨_, rfl⟩
  exact ⟨_, lx_get G u v h h2 h3⟩
theorem Z0_world {G : wG} {u : Nat → Nat → Nat} {v : Nat → Nat} {H : Heap} (hP : va_P G.1 vwCl (hl6 G u ++ hl7 G v) H) : wW (G.1, G.2.1, lad u v, G.2.2.2) Z0 H := by
  intro i j h
  by_cases h2 : i = 11 ∧ j = 2
  · obtain ⟨rfl, rfl⟩ := h2
    exact va_P_arr (g := fun q => some (lad u v (4 + q) 0)) hP (i := 2) rfl (fun q hq => (congrArg some (if_neg (by omega))).symm) 2 _ rfl
  by_cases h3 : i = 11 ∧ j = 3
  · obtain ⟨rfl, rfl⟩ := h3
    exact va_P_arr (g := fun q => some (lad u v (2 + q) 0)) hP (i := 3) rfl (fun q hq => (congrArg some (if_neg (by omega))).symm) 3 _ rfl
  exact hP _ _ (lx_get G u v h h2 h3)
theorem Z0_lies {G : wG} {u : Nat → Nat → Nat} {v : Nat → Nat} (hD : va_D (fun q : Nat => G.2.2.2 ≤ q) (hl6 G u ++ hl7 G v)) : wL (G.1, G.2.1, lad u v, G.2.2.2) := by
  refine ⟨fun i j i' j' h h' e => ?_, fun i j h => ?_⟩
  · obtain ⟨e1, h1⟩ := lx_adr G u v h
    obtain ⟨e2, h2⟩ := lx_adr G u v h'
    exact lx_in h h' (hD.1 _ _ _ _ h1 h2 e)
  · obtain ⟨e1, h1⟩ := lx_adr G u v h
    exact hD.2 _ _ h1

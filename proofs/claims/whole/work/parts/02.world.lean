/-! THE WORLD: thirteen groups of cells. Groups 0 to 10 are benches (0 the bench, 1 the trial, 2 and 3 the slots, 4 to 10 the ring); 11 what else the class has; 12 the reference.
   A state of the world is Z : group, cell, number in the cell. -/
abbrev wB : Type := Nat → Nat → Int32
abbrev wZ : Type := Nat → Nat → Nat → Int32
/-- what is fixed: classes and slots; the array classes (0 int, 1 boolean, 2 char, 3 Shaft, 4 Bench); the address of a cell; the least address -/
abbrev wG : Type := va_G × (Nat → ClassId) × (Nat → Nat → Nat) × Nat
abbrev wT (G : wG) : List (ClassId × FieldType) := [(G.2.1 0, .int), (G.2.1 1, .boolean), (G.2.1 2, .char), (G.2.1 3, .object RX5), (G.2.1 4, .object RX0)]
def wset (Z : wZ) (i : Nat) (B : wB) : wZ := fun i' => if i' = i then B else Z i'
def bput (B : wB) (j q : Nat) (v : Int32) : wB := fun j' q' => if j' = j ∧ q' = q then v else B j' q'
theorem wset_get (Z : wZ) (i : Nat) (B : wB) : wset Z i B i = B := if_pos rfl
theorem wset_ne (Z : wZ) {i i' : Nat} (B : wB) (h : i' ≠ i) : wset Z i B i' = Z i' := if_neg h
theorem wset_set (Z : wZ) (i : Nat) (B B' : wB) : wset (wset Z i B) i B' = wset Z i B' := by
  funext i'
  by_cases h : i' = i <;> simp [wset, h]
theorem wset_self (Z : wZ) (i : Nat) : wset Z i (Z i) = Z := by
  funext i'
  by_cases h : i' = i <;> simp [wset, h]
theorem wset_comm (Z : wZ) {i k : Nat} (B C : wB) (h : i ≠ k) : wset (wset Z i B) k C = wset (wset Z k C) i B := by
  funext i'
  by_cases h1 : i' = i <;> by_cases h2 : i' = k <;> simp [wset, h1, h2]
  · exact absurd (h1.symm.trans h2) h
  · intro e; exact absurd e h
  · intro e; exact absurd e.symm h
theorem bput_h {B : wB} {j q : Nat} {v : Int32} : bput B j q v j q = v := if_pos ⟨rfl, rfl⟩
theorem bput_q {B : wB} {j j' q q' : Nat} {v : Int32} (h : q' ≠ q) : bput B j q v j' q' = B j' q' := if_neg fun e => h e.2
theorem bput_j {B : wB} {j j' q q' : Nat} {v : Int32} (h : j' ≠ j) : bput B j q v j' q' = B j' q' := if_neg fun e => h e.1
theorem bput_row {B : wB} {j q : Nat} {v : Int32} : bput B j q v j = upd (B j) q v := by
  funext q'
  by_cases h : q' = q <;> simp [bput, upd, h]
theorem bput_off {B : wB} {j j' q : Nat} {v : Int32} (h : j' ≠ j) : bput B j q v j' = B j' := by
  funext q'
  exact bput_j h
/-- the cells of a bench -/
def bE (G : wG) (i : Nat) (B : wB) (j : Nat) : va_E :=
  if j = 0 then .inr (0, [.ref (G.2.2.1 i 1), .ref (G.2.2.1 i 2), .ref (G.2.2.1 i 11), .ref (G.2.2.1 i 12), .ref (G.2.2.1 i 13), .int (B j 0), .int (B j 1), .int (B j 2)])
  else if j = 1 then .inr (3, [.int (B j 0), .int (B j 1), .int (B j 2), .int (B j 3), .int (B j 4)])
  else if j = 2 then .inl (G.2.1 3, 4, .inr (.inr (.inr (.inr (fun q => some (G.2.2.1 i (3 + q)))))))
  else if j < 7 then .inr (5, [.int (B j 0), .int (B j 1), .int (B j 2), .int (B j 3), .int (B j 4), .int (B j 5), .int (B j 6), .int (B j 7), .int (B j 8), .int (B j 9), .int (B j 10), .ref (G.2.2.1 i (j + 4))])
  else if j < 11 then .inl (G.2.1 0, 3, .inl (B j))
  else .inl (G.2.1 0, 12, .inl (B j))
/-- the cells of group 11: RampShafts, History, ring, slots, saved, Reader, Pad, signs -/
def sE (G : wG) (B : wB) (j : Nat) : va_E :=
  if j = 0 then .inr (6, [.ref (G.2.2.1 0 0), .ref (G.2.2.1 1 0), .ref (G.2.2.1 11 1), .ref (G.2.2.1 11 3), .ref (G.2.2.1 11 4), .ref (G.2.2.1 11 5), .ref (G.2.2.1 11 6)])
  else if j = 1 then .inr (1, [.ref (G.2.2.1 11 2), .int (B j 0), .int (B j 1)])
  else if j = 2 then .inl (G.2.1 4, 7, .inr (.inr (.inr (.inr (fun q => some (G.2.2.1 (4 + q) 0))))))
  else if j = 3 then .inl (G.2.1 4, 2, .inr (.inr (.inr (.inr (fun q => some (G.2.2.1 (2 + q) 0))))))
  else if j = 4 then .inl (G.2.1 1, 2, .inl (B j))
  else if j = 5 then .inr (4, [.ref (G.2.2.1 11 6), .int (B j 0), .int (B j 1), .int (B j 2), .int (B j 3), .int (B j 4)])
  else if j = 6 then .inr (2, [.ref (G.2.2.1 11 7), .int (B j 0)])
  else .inl (G.2.1 2, 80, .inl (fun q => vp_nar .char (B j q)))
/-- the cells of group 12: the reference, s, aside, before, slots, isSaved, pad -/
def mE (G : wG) (B : wB) (j : Nat) : va_E :=
  if j = 0 then .inr (7, [.ref (G.2.2.1 12 1), .ref (G.2.2.1 12 2), .ref (G.2.2.1 12 3), .int (B j 0), .ref (G.2.2.1 12 4), .ref (G.2.2.1 12 5), .ref (G.2.2.1 12 6), .int (B j 1), .int (B j 2), .int (B j 3), .int (B j 4), .int (B j 5), .int (B j 6), .int (B j 7), .int (B j 8), .int (B j 9), .int (B j 10)])
  else if j = 1 then .inl (G.2.1 0, 100, .inl (B j))
  else if j = 2 then .inl (G.2.1 0, 100, .inl (B j))
  else if j = 3 then .inl (G.2.1 0, 600, .inl (B j))
  else if j = 4 then .inl (G.2.1 0, 200, .inl (B j))
  else if j = 5 then .inl (G.2.1 1, 2, .inl (B j))
  else .inl (G.2.1 0, 80, .inl (B j))
def wE (G : wG) (Z : wZ) (i j : Nat) : va_E := if i = 11 then sE G (Z i) j else if i = 12 then mE G (Z i) j else bE G i (Z i) j
def wV (i j : Nat) : Prop := (i < 11 ∧ j < 14) ∨ (i = 11 ∧ j < 8) ∨ (i = 12 ∧ j < 7)
def wL (G : wG) : Prop := (∀ i j i' j' : Nat, wV i j → wV i' j' → G.2.2.1 i j = G.2.2.1 i' j' → i = i' ∧ j = j') ∧ ∀ i j : Nat, wV i j → G.2.2.2 ≤ G.2.2.1 i j
def wW (G : wG) (Z : wZ) (H : Heap) : Prop := ∀ i j : Nat, wV i j → va_at G.1 vwCl (G.2.2.1 i j, wE G Z i j) H
def wU (G : wG) (Z : wZ) (U : State) : Prop := wW G Z U.heap ∧ va_K G.1 vwCl (wT G) U ∧ wL G
abbrev wA (G : wG) : Nat → Prop := fun q => G.2.2.2 ≤ q
def wX (p : Program) (s : State) (m : MethodId) (c : Code) (cc : ByteArray) (args : Array Value) (Ts : List Cond) (own : String) (G : wG) : Prop :=
  p.tables.exec = Jvm.exec ∧ c.code = cc ∧ s.vm.findClass own = some m.cls ∧ (∀ w ∈ Ts, w.before args s = true) ∧ va_K G.1 vwCl (wT G) s ∧ wL G
theorem bE_c {G : wG} {i : Nat} {B B' : wB} {j : Nat} (h : B j = B' j) : bE G i B j = bE G i B' j := by
  unfold bE; rw [h]
theorem sE_c {G : wG} {B B' : wB} {j : Nat} (h : B j = B' j) : sE G B j = sE G B' j := by
  unfold sE; rw [h]
theorem mE_c {G : wG} {B B' : wB} {j : Nat} (h : B j = B' j) : mE G B j = mE G B' j := by
  unfold mE; rw [h]
theorem wE_c {G : wG} {Z Z' : wZ} {i j : Nat} (h : Z i j = Z' i j) : wE G Z i j = wE G Z' i j := by
  unfold wE
  rw [sE_c h, mE_c h, bE_c h]
theorem wE_b {G : wG} {Z : wZ} {i j : Nat} {B : wB} (hi : i < 11) : wE G (wset Z i B) i j = bE G i B j := by
  unfold wE
  rw [if_neg (by omega), if_neg (by omega), wset_get]
theorem wE_s {G : wG} {Z : wZ} {j : Nat} {B : wB} : wE G (wset Z 11 B) 11 j = sE G B j := by
  unfold wE
  rw [if_pos rfl, wset_get]
theorem wE_m {G : wG} {Z : wZ} {j : Nat} {B : wB} : wE G (wset Z 12 B) 12 j = mE G B j := by
  unfold wE
  rw [if_neg (by decide), if_pos rfl, wset_get]
-- the cells of a bench in a world whose group i is B
theorem ce_b0 {G : wG} {Z : wZ} {i : Nat} {B : wB} (hi : i < 11) : wE G (wset Z i B) i 0 = .inr (0, [.ref (G.2.2.1 i 1), .ref (G.2.2.1 i 2), .ref (G.2.2.1 i 11), .ref (G.2.2.1 i 12), .ref (G.2.2.1 i 13), .int (B 0 0), .int (B 0 1), .int (B 0 2)]) := (wE_b hi).trans rfl
theorem ce_b1 {G : wG} {Z : wZ} {i : Nat} {B : wB} (hi : i < 11) : wE G (wset Z i B) i 1 = .inr (3, [.int (B 1 0), .int (B 1 1), .int (B 1 2), .int (B 1 3), .int (B 1 4)]) := (wE_b hi).trans rfl
theorem ce_b2 {G : wG} {Z : wZ} {i : Nat} {B : wB} (hi : i < 11) : wE G (wset Z i B) i 2 = .inl (G.2.1 3, 4, .inr (.inr (.inr (.inr (fun q => some (G.2.2.1 i (3 + q))))))) := (wE_b hi).trans rfl
theorem ce_bs {G : wG} {Z : wZ} {i n : Nat} {B : wB} (hi : i < 11) (hn : n < 4) : wE G (wset Z i B) i (3 + n) = .inr (5, [.int (B (3 + n) 0), .int (B (3 + n) 1), .int (B (3 + n) 2), .int (B (3 + n) 3), .int (B (3 + n) 4), .int (B (3 + n) 5), .int (B (3 + n) 6), .int (B (3 + n) 7), .int (B (3 + n) 8), .int (B (3 + n) 9), .int (B (3 + n) 10), .ref (G.2.2.1 i (7 + n))]) := by
  rw [wE_b hi]
  unfold bE
  rw [if_neg (by omega), if_neg (by omega), if_neg (by omega), if_pos (by omega), show 3 + n + 4 = 7 + n by omega]
theorem ce_bw {G : wG} {Z : wZ} {i n : Nat} {B : wB} (hi : i < 11) (hn : n < 4) : wE G (wset Z i B) i (7 + n) = .inl (G.2.1 0, 3, .inl (B (7 + n))) := by
  rw [wE_b hi]
  unfold bE
  rw [if_neg (by omega), if_neg (by omega), if_neg (by omega), if_neg (by omega), if_pos (by omega)]
theorem ce_bp {G : wG} {Z : wZ} {i j : Nat} {B : wB} (hi : i < 11) (hj : 11 ≤ j) : wE G (wset Z i B) i j = .inl (G.2.1 0, 12, .inl (B j)) := by
  rw [wE_b hi]
  unfold bE
  rw [if_neg (by omega), if_neg (by omega), if_neg (by omega), if_neg (by omega), if_neg (by omega)]
theorem ce_s0 {G : wG} {Z : wZ} {B : wB} : wE G (wset Z 11 B) 11 0 = .inr (6, [.ref (G.2.2.1 0 0), .ref (G.2.2.1 1 0), .ref (G.2.2.1 11 1), .ref (G.2.2.1 11 3), .ref (G.2.2.1 11 4), .ref (G.2.2.1 11 5), .ref (G.2.2.1 11 6)]) := wE_s.trans rfl
theorem ce_s1 {G : wG} {Z : wZ} {B : wB} : wE G (wset Z 11 B) 11 1 = .inr (1, [.ref (G.2.2.1 11 2), .int (B 1 0), .int (B 1 1)]) := wE_s.trans rfl
theorem ce_s2 {G : wG} {Z : wZ} {B : wB} : wE G (wset Z 11 B) 11 2 = .inl (G.2.1 4, 7, .inr (.inr (.inr (.inr (fun q => some (G.2.2.1 (4 + q) 0)))))) := wE_s.trans rfl
theorem ce_s3 {G : wG} {Z : wZ} {B : wB} : wE G (wset Z 11 B) 11 3 = .inl (G.2.1 4, 2, .inr (.inr (.inr (.inr (fun q => some (G.2.2.1 (2 + q) 0)))))) := wE_s.trans rfl
theorem ce_s4 {G : wG} {Z : wZ} {B : wB} : wE G (wset Z 11 B) 11 4 = .inl (G.2.1 1, 2, .inl (B 4)) := wE_s.trans rfl
theorem ce_s5 {G : wG} {Z : wZ} {B : wB} : wE G (wset Z 11 B) 11 5 = .inr (4, [.ref (G.2.2.1 11 6), .int (B 5 0), .int (B 5 1), .int (B 5 2), .int (B 5 3), .int (B 5 4)]) := wE_s.trans rfl
theorem ce_s6 {G : wG} {Z : wZ} {B : wB} : wE G (wset Z 11 B) 11 6 = .inr (2, [.ref (G.2.2.1 11 7), .int (B 6 0)]) := wE_s.trans rfl
theorem ce_s7 {G : wG} {Z : wZ} {B : wB} : wE G (wset Z 11 B) 11 7 = .inl (G.2.1 2, 80, .inl (fun q => vp_nar .char (B 7 q))) := wE_s.trans rfl
theorem ce_m0 {G : wG} {Z : wZ} {B : wB} : wE G (wset Z 12 B) 12 0 = .inr (7, [.ref (G.2.2.1 12 1), .ref (G.2.2.1 12 2), .ref (G.2.2.1 12 3), .int (B 0 0), .ref (G.2.2.1 12 4), .ref (G.2.2.1 12 5), .ref (G.2.2.1 12 6), .int (B 0 1), .int (B 0 2), .int (B 0 3), .int (B 0 4), .int (B 0 5), .int (B 0 6), .int (B 0 7), .int (B 0 8), .int (B 0 9), .int (B 0 10)]) := wE_m.trans rfl
theorem ce_m1 {G : wG} {Z : wZ} {B : wB} : wE G (wset Z 12 B) 12 1 = .inl (G.2.1 0, 100, .inl (B 1)) := wE_m.trans rfl
theorem ce_m2 {G : wG} {Z : wZ} {B : wB} : wE G (wset Z 12 B) 12 2 = .inl (G.2.1 0, 100, .inl (B 2)) := wE_m.trans rfl
theorem ce_m3 {G : wG} {Z : wZ} {B : wB} : wE G (wset Z 12 B) 12 3 = .inl (G.2.1 0, 600, .inl (B 3)) := wE_m.trans rfl
theorem ce_m4 {G : wG} {Z : wZ} {B : wB} : wE G (wset Z 12 B) 12 4 = .inl (G.2.1 0, 200, .inl (B 4)) := wE_m.trans rfl
theorem ce_m5 {G : wG} {Z : wZ} {B : wB} : wE G (wset Z 12 B) 12 5 = .inl (G.2.1 1, 2, .inl (B 5)) := wE_m.trans rfl
theorem ce_m6 {G : wG} {Z : wZ} {B : wB} : wE G (wset Z 12 B) 12 6 = .inl (G.2.1 0, 80, .inl (B 6)) := wE_m.trans rfl
theorem wW_one {G : wG} {Z : wZ} {H : Heap} {i j : Nat} {e : va_E} (hW : wW G Z H) (hV : wV i j) (he : wE G Z i j = e) : va_P G.1 vwCl [(G.2.2.1 i j, e)] H := by
  intro k q hq
  match k, hq with
  | 0, hq =>
    cases hq
    have h := hW i j hV
    rw [he] at h
    exact h
/-- a cell of the world is written: the others stay -/
theorem wW_set {G : wG} {Z Z' : wZ} {H H1 : Heap} {i j : Nat} {e : va_E} (hW : wW G Z H) (hL : wL G) (hV : wV i j) (hZ : ∀ i' j' : Nat, ¬ (i' = i ∧ j' = j) → Z' i' j' = Z i' j') (he : wE G Z' i j = e) (ha : va_at G.1 vwCl (G.2.2.1 i j, e) H1) (ho : ∀ q : Nat, q ≠ G.2.2.1 i j → H1[q]? = H[q]?) : wW G Z' H1 := by
  intro i' j' hV'
  by_cases h : i' = i ∧ j' = j
  · obtain ⟨rfl, rfl⟩ := h
    rw [he]
    exact ha
  · rw [wE_c (hZ i' j' h)]
    exact (hW i' j' hV').kept (ho _ fun q => h (hL.1 _ _ _ _ hV' hV q))
theorem wU_blind {G : wG} {Z : wZ} {av : List Value} : FrameBlind (va_Pc av (wU G Z)) := fun a U g mk q => ⟨q.1, q.2.1, va_K.moved (u := U) (U := U.calling g mk a) (Vm.Alike.refl U.vm) q.2.2.1, q.2.2.2⟩
section WR
variable {p : Program} {l : Launch} {e : Env} {R : Room} {s : State} {m : MethodId} {args : Array Value} {below : List Frame} {meth : Method} {c : Code} {H : Heap} {locs : List Loc} {cells slots : Nat} {Q : State → Prop}
variable {cc : ByteArray} {pc : Nat} {ls : Array Slot} {rest : List Value} {Ts : List Cond} {own : String} {G : wG} {Z Z' : wZ} {i j ci : Nat} {H0 : Heap}
theorem wr_get (hC : wX p s m c cc args Ts own G) {C : String} {T : u_T} {N index : Nat} (hin : ∀ w ∈ u_ws C T N, w ∈ Ts) (hW : wW G Z H) (hV : wV i j) {fs : List Value} (he : wE G Z i j = .inr (ci, fs)) (hc : vwCl[ci]? = some (C, T, N)) (k : Nat) (hk : k < N) (hlink : (Cond.fieldLink own index (T k).1 (T k).2.1 (T k).2.2.1).before args s = true) {v : Value} (hv : fs[k]? = some v) (hdg : decode cc pc = .ok (.getfield index, 3))
    (kk : W p l e R s m args below meth c H locs cells slots Q (F0 m (pc + 3) ls (v :: rest))) : W p l e R s m args below meth c H locs cells slots Q (F0 m pc ls (.ref (G.2.2.1 i j) :: rest)) :=
  va_get (D := G.1) (cl := vwCl) (tys := wT G) hC.1 hC.2.1 hC.2.2.2.1 hin hC.2.2.1 hC.2.2.2.2.1 (wW_one hW hV he) 0 rfl hc k hk hlink (fun _ h => h) hv hdg kk
theorem wr_put (hC : wX p s m c cc args Ts own G) {C : String} {T : u_T} {N index : Nat} (hin : ∀ w ∈ u_ws C T N, w ∈ Ts) (ty0 : Nat → FieldType) (hty : ∀ k, k < N → parseFieldDescriptor (T k).2.2.1 = some (ty0 k)) (hnm : ∀ a, a < N → ∀ b, b < N → a ≠ b → (T a).2.1 ≠ (T b).2.1) (hW : wW G Z H) (hS0 : va_S (wA G) H0 H locs) (hV : wV i j) {fs : List Value} (he : wE G Z i j = .inr (ci, fs)) (hc : vwCl[ci]? = some (C, T, N)) (k : Nat) (hk : k < N) (hlink : (Cond.fieldLink own index (T k).1 (T k).2.1 (T k).2.2.1).before args s = true) (hfin : (T k).2.2.2 = false) {ty : FieldType} {v : Value} (hd : parseFieldDescriptor (T k).2.2.1 = some ty) (hn : narrow ty v = v) (hfit : fits ty v = true) (hl : k < fs.length)
    (hZ : ∀ i' j' : Nat, ¬ (i' = i ∧ j' = j) → Z' i' j' = Z i' j') (he' : wE G Z' i j = .inr (ci, fs.set k v)) (hdg : decode cc pc = .ok (.putfield index, 3))
    (kk : ∀ (H1 : Heap) (locs1 : List Loc), wW G Z' H1 → va_S (wA G) H0 H1 locs1 → W p l e R s m args below meth c H1 locs1 cells slots Q (F0 m (pc + 3) ls rest)) : W p l e R s m args below meth c H locs cells slots Q (F0 m pc ls (v :: .ref (G.2.2.1 i j) :: rest)) := by
  obtain ⟨hx, hb, hown, hts, hK, hL⟩ := hC
  have hap := va_apart (own := own) hts hin ty0 hty hnm hK hc
  obtain ⟨r, h1, cell, q1, q2, q3, q4⟩ := (wW_one hW hV he) 0 _ rfl
  have hr : r = (C, T, N) := Option.some.inj (h1.symm.trans hc)
  subst hr
  obtain ⟨hS, hfc, kC, hkC, hkind⟩ := hK.1 ci _ hc
  obtain ⟨cf, kf, fi, f, hi, hsl⟩ := hS k hk
  have hlay := hts _ (hin _ (u_in_lay hk))
  unfold u_lay at hlay
  rw [if_neg (by rw [hfin]; decide)] at hlay
  have hst := (u_facts hfc hkC (u_lays hts hin hk) hi).1
  have h6 := u_store hfc hkC hkind hlay hi hd hn hfit
  refine W.putK hx hb (f := f) ⟨hown, hlink, ⟨_, _, _, hi⟩, hst⟩ (by rw [q2]; exact h6) q1 q3 (by rw [hsl]; exact k2_hasslot (q4 k hk)) rfl rfl hdg fun H' e1 e2 e3 => ?_
  rw [hsl] at e1 ⊢
  exact kk H' _ (wW_set hW hL hV hZ he' ⟨_, hc, t_OB.to (V := updV (vp_V fs) k v) ⟨_, e1, q2, q3, t_set q4 hap hk v⟩ (fun j _ => vp_updV_set hl v j)⟩ e3) (hS0.put e2 e3 (hL.2 _ _ hV))
theorem wr_ald (hC : wX p s m c cc args Ts own G) (hW : wW G Z H) (hV : wV i j) {kA n : Nat} {f : Nat → Int32} (he : wE G Z i j = .inl (G.2.1 kA, n, .inl f)) (hk : (wT G)[kA]? = some (G.2.1 kA, .int)) {x : Int32} (hin : vp_in x n) (hdg : decode cc pc = .ok (.iaload, 1))
    (kk : W p l e R s m args below meth c H locs cells slots Q (F0 m (pc + 1) ls (.int (f x.toNatClampNeg) :: rest))) : W p l e R s m args below meth c H locs cells slots Q (F0 m pc ls (.int x :: .ref (G.2.2.1 i j) :: rest)) :=
  va_iald (D := G.1) (cl := vwCl) (tys := wT G) hC.1 hC.2.1 hC.2.2.2.2.1 (wW_one hW hV he) 0 kA rfl hk hin hdg kk
theorem wr_zald (hC : wX p s m c cc args Ts own G) (hW : wW G Z H) (hV : wV i j) {kA n : Nat} {f : Nat → Int32} (he : wE G Z i j = .inl (G.2.1 kA, n, .inl f)) (hk : (wT G)[kA]? = some (G.2.1 kA, .boolean)) {x : Int32} (hin : vp_in x n) (hdg : decode cc pc = .ok (.baload, 1))
    (kk : W p l e R s m args below meth c H locs cells slots Q (F0 m (pc + 1) ls (.int (f x.toNatClampNeg) :: rest))) : W p l e R s m args below meth c H locs cells slots Q (F0 m pc ls (.int x :: .ref (G.2.2.1 i j) :: rest)) :=
  va_zald (D := G.1) (cl := vwCl) (tys := wT G) hC.1 hC.2.1 hC.2.2.2.2.1 (wW_one hW hV he) 0 kA rfl hk hin hdg kk
theorem wr_cald (hC : wX p s m c cc args Ts own G) (hW : wW G Z H) (hV : wV i j) {kA n : Nat} {f : Nat → Int32} (he : wE G Z i j = .inl (G.2.1 kA, n, .inl f)) (hk : (wT G)[kA]? = some (G.2.1 kA, .char)) {x : Int32} (hin : vp_in x n) (hdg : decode cc pc = .ok (.caload, 1))
    (kk : W p l e R s m args below meth c H locs cells slots Q (F0 m (pc + 1) ls (.int (f x.toNatClampNeg) :: rest))) : W p l e R s m args below meth c H locs cells slots Q (F0 m pc ls (.int x :: .ref (G.2.2.1 i j) :: rest)) :=
  va_cald (D := G.1) (cl := vwCl) (tys := wT G) hC.1 hC.2.1 hC.2.2.2.2.1 (wW_one hW hV he) 0 kA rfl hk hin hdg kk
theorem wr_aald (hC : wX p s m c cc args Ts own G) (hW : wW G Z H) (hV : wV i j) {kA n : Nat} {C : String} {f : Nat → Option Nat} (he : wE G Z i j = .inl (G.2.1 kA, n, .inr (.inr (.inr (.inr f))))) (hk : (wT G)[kA]? = some (G.2.1 kA, .object C)) {x : Int32} (hin : vp_in x n) {v : Value} (hv : va_rf (f x.toNatClampNeg) = v) (hdg : decode cc pc = .ok (.aaload, 1))
    (kk : W p l e R s m args below meth c H locs cells slots Q (F0 m (pc + 1) ls (v :: rest))) : W p l e R s m args below meth c H locs cells slots Q (F0 m pc ls (.int x :: .ref (G.2.2.1 i j) :: rest)) := by
  subst hv
  exact va_aldq (D := G.1) (cl := vwCl) (tys := wT G) hC.1 hC.2.1 hC.2.2.2.2.1 (wW_one hW hV he) 0 kA rfl hk hin hdg kk
theorem wr_alen (hC : wX p s m c cc args Ts own G) (hW : wW G Z H) (hV : wV i j) {kA : Nat} {x : vp_A} (he : wE G Z i j = .inl (G.2.1 kA, x)) {ty : FieldType} (hk : (wT G)[kA]? = some (G.2.1 kA, ty)) {v : Int32} (hv : Int32.ofNat x.1 = v) (hdg : decode cc pc = .ok (.arraylength, 1))
    (kk : W p l e R s m args below meth c H locs cells slots Q (F0 m (pc + 1) ls (.int v :: rest))) : W p l e R s m args below meth c H locs cells slots Q (F0 m pc ls (.ref (G.2.2.1 i j) :: rest)) :=
  va_alen (D := G.1) (cl := vwCl) (tys := wT G) hC.1 hC.2.1 hC.2.2.2.2.1 (wW_one hW hV he) 0 kA rfl hk hv hdg kk
theorem wr_ast (hC : wX p s m c cc args Ts own G) (hW : wW G Z H) (hS0 : va_S (wA G) H0 H locs) (hV : wV i j) {kA n : Nat} {f : Nat → Int32} (he : wE G Z i j = .inl (G.2.1 kA, n, .inl f)) (hk : (wT G)[kA]? = some (G.2.1 kA, .int)) {x y : Int32} (hin : vp_in x n)
    (hZ : ∀ i' j' : Nat, ¬ (i' = i ∧ j' = j) → Z' i' j' = Z i' j') (he' : wE G Z' i j = .inl (G.2.1 kA, n, .inl (upd f x.toNatClampNeg y))) (hdg : decode cc pc = .ok (.iastore, 1))
    (kk : ∀ (H1 : Heap) (locs1 : List Loc), wW G Z' H1 → va_S (wA G) H0 H1 locs1 → W p l e R s m args below meth c H1 locs1 cells slots Q (F0 m (pc + 1) ls rest)) : W p l e R s m args below meth c H locs cells slots Q (F0 m pc ls (.int y :: .int x :: .ref (G.2.2.1 i j) :: rest)) := by
  obtain ⟨hx, hb, hown, hts, hK, hL⟩ := hC
  refine W.iast hx hb ((wW_one hW hV he) 0 _ rfl) ((hK.2 kA _ hk).1 n (fun j => .int (f j))) (fun q => by cases q) (by show ¬ (x < 0 ∨ (arrV _ _ _).slots.size ≤ _); rw [arrV_size]; exact hin) rfl rfl hdg fun H1 e z oq => ?_
  refine kk H1 _ (wW_set hW hL hV hZ he' ?_ oq) (hS0.put z oq (hL.2 _ _ hV))
  show H1[_]? = some (vp_cell _ _)
  rw [e, vp_cell_i, vp_cell_i, arrV_store]
  congr 2
  funext q
  by_cases hq : q = x.toNatClampNeg
  · subst hq
    simp [updV, upd]
  · simp [updV, upd, hq]
theorem wr_zast (hC : wX p s m c cc args Ts own G) (hW : wW G Z H) (hS0 : va_S (wA G) H0 H locs) (hV : wV i j) {kA n : Nat} {f : Nat → Int32} (he : wE G Z i j = .inl (G.2.1 kA, n, .inl f)) (hk : (wT G)[kA]? = some (G.2.1 kA, .boolean)) {x y : Int32} (hin : vp_in x n)
    (hZ : ∀ i' j' : Nat, ¬ (i' = i ∧ j' = j) → Z' i' j' = Z i' j') (he' : wE G Z' i j = .inl (G.2.1 kA, n, .inl (upd f x.toNatClampNeg (vp_nar .boolean y)))) (hdg : decode cc pc = .ok (.bastore, 1))
    (kk : ∀ (H1 : Heap) (locs1 : List Loc), wW G Z' H1 → va_S (wA G) H0 H1 locs1 → W p l e R s m args below meth c H1 locs1 cells slots Q (F0 m (pc + 1) ls rest)) : W p l e R s m args below meth c H locs cells slots Q (F0 m pc ls (.int y :: .int x :: .ref (G.2.2.1 i j) :: rest)) := by
  obtain ⟨hx, hb, hown, hts, hK, hL⟩ := hC
  refine W.zast hx hb ((wW_one hW hV he) 0 _ rfl) ((hK.2 kA _ hk).1 n (fun j => .int (f j))) (fun q => by cases q) (by show ¬ (x < 0 ∨ (arrV _ _ _).slots.size ≤ _); rw [arrV_size]; exact hin) rfl rfl hdg fun H1 e z oq => ?_
  refine kk H1 _ (wW_set hW hL hV hZ he' ?_ oq) (hS0.put z oq (hL.2 _ _ hV))
  show H1[_]? = some (vp_cell _ _)
  rw [e, vp_cell_i, vp_cell_i, arrV_store]
  congr 2
  funext q
  by_cases hq : q = x.toNatClampNeg
  · subst hq
    simp [updV, upd, vp_nar]
    try rfl
  · simp [updV, upd, hq]
theorem wr_cast (hC : wX p s m c cc args Ts own G) (hW : wW G Z H) (hS0 : va_S (wA G) H0 H locs) (hV : wV i j) {kA n : Nat} {f : Nat → Int32} (he : wE G Z i j = .inl (G.2.1 kA, n, .inl f)) (hk : (wT G)[kA]? = some (G.2.1 kA, .char)) {x y : Int32} (hin : vp_in x n)
    (hZ : ∀ i' j' : Nat, ¬ (i' = i ∧ j' = j) → Z' i' j' = Z i' j') (he' : wE G Z' i j = .inl (G.2.1 kA, n, .inl (upd f x.toNatClampNeg (vp_nar .char y)))) (hdg : decode cc pc = .ok (.castore, 1))
    (kk : ∀ (H1 : Heap) (locs1 : List Loc), wW G Z' H1 → va_S (wA G) H0 H1 locs1 → W p l e R s m args below meth c H1 locs1 cells slots Q (F0 m (pc + 1) ls rest)) : W p l e R s m args below meth c H locs cells slots Q (F0 m pc ls (.int y :: .int x :: .ref (G.2.2.1 i j) :: rest)) := by
  obtain ⟨hx, hb, hown, hts, hK, hL⟩ := hC
  refine W.cast hx hb ((wW_one hW hV he) 0 _ rfl) ((hK.2 kA _ hk).1 n (fun j => .int (f j))) (fun q => by cases q) (by show ¬ (x < 0 ∨ (arrV _ _ _).slots.size ≤ _); rw [arrV_size]; exact hin) rfl rfl hdg fun H1 e z oq => ?_
  refine kk H1 _ (wW_set hW hL hV hZ he' ?_ oq) (hS0.put z oq (hL.2 _ _ hV))
  show H1[_]? = some (vp_cell _ _)
  rw [e, vp_cell_i, vp_cell_i, arrV_store]
  congr 2
  funext q
  by_cases hq : q = x.toNatClampNeg
  · subst hq
    simp [updV, upd, vp_nar]
    try rfl
  · simp [updV, upd, hq]
theorem lv_re {x y : Int32} (h : x = y) (k : W p l e R s m args below meth c H locs cells slots Q (F0 m pc ls (.int y :: rest))) : W p l e R s m args below meth c H locs cells slots Q (F0 m pc ls (.int x :: rest)) := h ▸ k
theorem lv_rel {x y : Int64} (h : x = y) (k : W p l e R s m args below meth c H locs cells slots Q (F0 m pc ls (.long y :: rest))) : W p l e R s m args below meth c H locs cells slots Q (F0 m pc ls (.long x :: rest)) := h ▸ k
end WR
/-! the ends of a method, and calls -/
abbrev qI (below : List Frame) (args : Array Value) (s : State) (G : wG) (r : Int32) (Z : wZ) : State → Prop := MQ below (va_Qi (fun (r' : Int32) (_ : Unit) => r' = r) (fun _ t => wU G Z t) (wA G)) args s 0 0 (wA G)
abbrev qV (below : List Frame) (args : Array Value) (s : State) (G : wG) (Z : wZ) : State → Prop := MQ below (va_Qv (fun (_ : Unit) => True) (fun _ t => wU G Z t) (wA G)) args s 0 0 (wA G)
abbrev qQ (below : List Frame) (args : Array Value) (s : State) (G : wG) (r : Option Nat) (Z : wZ) : State → Prop := MQ below (va_Qq (fun (r' : Option Nat) (_ : Unit) => r' = r) (fun _ t => wU G Z t) (wA G)) args s 0 0 (wA G)
/-- contracts: a method answers r (an int, nothing, or a reference), and the world is Z' -/
abbrev mI (l : Launch) (y : MethodName) (ws : List Cond) (rm : Room) (G : wG) (av : List Value) (Z : wZ) (r : Int32) (Z' : wZ) : Prop := Met l y ws rm (va_Pc av (wU G Z)) (va_Qi (fun (r' : Int32) (_ : Unit) => r' = r) (fun _ t => wU G Z' t) (wA G)) 0 0 (wA G)
abbrev mV (l : Launch) (y : MethodName) (ws : List Cond) (rm : Room) (G : wG) (av : List Value) (Z : wZ) (Z' : wZ) : Prop := Met l y ws rm (va_Pc av (wU G Z)) (va_Qv (fun (_ : Unit) => True) (fun _ t => wU G Z' t) (wA G)) 0 0 (wA G)
abbrev mQ (l : Launch) (y : MethodName) (ws : List Cond) (rm : Room) (G : wG) (av : List Value) (Z : wZ) (r : Option Nat) (Z' : wZ) : Prop := Met l y ws rm (va_Pc av (wU G Z)) (va_Qq (fun (r' : Option Nat) (_ : Unit) => r' = r) (fun _ t => wU G Z' t) (wA G)) 0 0 (wA G)
section WQ
variable {p : Program} {l : Launch} {e : Env} {R : Room} {s : State} {m : MethodId} {args : Array Value} {below : List Frame} {meth : Method} {c : Code} {H : Heap} {locs : List Loc} {Q : State → Prop}
variable {cc : ByteArray} {pc : Nat} {ls : Array Slot} {rest : List Value} {Ts : List Cond} {own : String} {G : wG} {Z Z' : wZ} {i j ci : Nat} {H0 : Heap}
theorem we_i (hC : wX p s m c cc args Ts own G) (hr : meth.sig.returnType = some .int) (hlocks : meth.locks = false) {v r : Int32} (hv : v = r) (hZ : Z = Z') (hW : wW G Z H) (hS : va_S (wA G) s.heap H locs) (hdg : decode cc pc = .ok (.ireturn, 1)) : W p l e R s m args below meth c H locs 0 0 (qI below args s G r Z') (F0 m pc ls [.int v]) := by
  subst hv; subst hZ
  exact W.iret hC.1 hC.2.1 hr (fun t ht hWm => ⟨⟨v, (), rfl, rfl, by rw [ht]; exact hW, va_K.moved hWm.alike hC.2.2.2.2.1, hC.2.2.2.2.2⟩, hS.F ht⟩) hS.2.2 hdg
theorem we_z (hC : wX p s m c cc args Ts own G) (hr : meth.sig.returnType = some .boolean) (hlocks : meth.locks = false) {v r : Int32} (hn : narrow .boolean (.int v) = .int v) (hv : v = r) (hZ : Z = Z') (hW : wW G Z H) (hS : va_S (wA G) s.heap H locs) (hdg : decode cc pc = .ok (.ireturn, 1)) : W p l e R s m args below meth c H locs 0 0 (qI below args s G r Z') (F0 m pc ls [.int v]) := by
  subst hv; subst hZ
  exact W.zret hC.1 hC.2.1 hr hn (fun t ht hWm => ⟨⟨v, (), rfl, rfl, by rw [ht]; exact hW, va_K.moved hWm.alike hC.2.2.2.2.1, hC.2.2.2.2.2⟩, hS.F ht⟩) hS.2.2 hdg
theorem we_c (hC : wX p s m c cc args Ts own G) (hr : meth.sig.returnType = some .char) (hlocks : meth.locks = false) {v r : Int32} (hn : narrow .char (.int v) = .int v) (hv : v = r) (hZ : Z = Z') (hW : wW G Z H) (hS : va_S (wA G) s.heap H locs) (hdg : decode cc pc = .ok (.ireturn, 1)) : W p l e R s m args below meth c H locs 0 0 (qI below args s G r Z') (F0 m pc ls [.int v]) := by
  subst hv; subst hZ
  exact W.zret hC.1 hC.2.1 hr hn (fun t ht hWm => ⟨⟨v, (), rfl, rfl, by rw [ht]; exact hW, va_K.moved hWm.alike hC.2.2.2.2.1, hC.2.2.2.2.2⟩, hS.F ht⟩) hS.2.2 hdg
theorem we_v (hC : wX p s m c cc args Ts own G) (hr : meth.sig.returnType = none) (hlocks : meth.locks = false) (hZ : Z = Z') (hW : wW G Z H) (hS : va_S (wA G) s.heap H locs) (hdg : decode cc pc = .ok (.return_, 1)) : W p l e R s m args below meth c H locs 0 0 (qV below args s G Z') (F0 m pc ls []) := by
  subst hZ
  exact W.vret hC.1 hC.2.1 hr (fun t ht hWm => ⟨⟨(), rfl, trivial, by rw [ht]; exact hW, va_K.moved hWm.alike hC.2.2.2.2.1, hC.2.2.2.2.2⟩, hS.F ht⟩) hS.2.2 hdg
theorem we_q (hC : wX p s m c cc args Ts own G) {rt : FieldType} (hr : meth.sig.returnType = some rt) (hrt : ∃ n, rt = .object n) (hlocks : meth.locks = false) {v : Value} {r : Option Nat} (hv : v = va_rf r) (hZ : Z = Z') (hW : wW G Z H) (hS : va_S (wA G) s.heap H locs) (hdg : decode cc pc = .ok (.areturn, 1)) : W p l e R s m args below meth c H locs 0 0 (qQ below args s G r Z') (F0 m pc ls [v]) := by
  subst hv; subst hZ
  exact W.aret hC.1 hC.2.1 hr (Or.inl hrt) (by cases r with | none => exact Or.inl rfl | some a => exact Or.inr ⟨a, rfl⟩) (fun t ht hWm => ⟨⟨r, (), rfl, rfl, by rw [ht]; exact hW, va_K.moved hWm.alike hC.2.2.2.2.1, hC.2.2.2.2.2⟩, hS.F ht⟩) hS.2.2 hdg
variable {y : MethodName} {bytes : ByteArray} {maxL nL n index : Nat} {ret : Option FieldType} {ws : List Cond} {rm : Room} {C : String} {As : List Value} {r : Int32} {Zc : wZ} {ro : Option Nat}
theorem wx_fix (hC : wX p s m c cc args Ts own G) (hml : c.maxLocals = nL) : CallFix p m c cc nL s args Ts own := ⟨hC.1, hC.2.1, hml, hC.2.2.1, hC.2.2.2.1⟩
theorem wx_preV (hC : wX p s m c cc args Ts own G) (hW : wW G Z H) (hV : wV i j) {fs : List Value} (he : wE G Z i j = .inr (ci, fs)) {q : vw_C} (hc : vwCl[ci]? = some q) (hq : q.1 = C) : PreV s H C (G.2.2.1 i j) (va_Pc (.ref (G.2.2.1 i j) :: As) (wU G Z)) As :=
  ⟨wU_blind, hq ▸ va_recv hC.2.2.2.2.1 (wW_one hW hV he) hc (q0 := 0) rfl, fun U hU hWm => ⟨rfl, by rw [hU]; exact hW, va_K.moved hWm.alike hC.2.2.2.2.1, hC.2.2.2.2.2⟩⟩
theorem wx_preS (hC : wX p s m c cc args Ts own G) (hW : wW G Z H) : PreS s H (va_Pc As (wU G Z)) As :=
  ⟨wU_blind, fun U hU hWm => ⟨rfl, by rw [hU]; exact hW, va_K.moved hWm.alike hC.2.2.2.2.1, hC.2.2.2.2.2⟩⟩
/-- calls of an object's method: the answer is r, the world is Z' -/
theorem wc_i (hC : wX p s m c cc args Ts own G) (hml : c.maxLocals = nL) (hM : mI l y ws rm G (.ref (G.2.2.1 i j) :: As) Z r Z') (cw : CallW R s args own C index y bytes maxL ret ws rm 0 0 n) (hW : wW G Z H) (hS : va_S (wA G) H0 H locs) (hV : wV i j) {fs : List Value} (he : wE G Z i j = .inr (ci, fs)) {q : vw_C} (hc : vwCl[ci]? = some q) (hq : q.1 = C) {st : List Value}
    (hn : As.length = n) (hst : st = As.reverse ++ .ref (G.2.2.1 i j) :: rest) (hsz : ls.size = nL) (hr : (rest.map fun v => v.category).sum ≤ 8) (hdg : decode cc pc = .ok (.invokevirtual index, 3))
    (kk : ∀ (H1 : Heap) (locs1 : List Loc), wW G Z' H1 → va_S (wA G) H0 H1 locs1 → W p l e R s m args below meth c H1 locs1 0 0 Q (F0 m (pc + 3) ls (.int r :: rest))) : W p l e R s m args below meth c H locs 0 0 Q (F0 m pc ls st) := by
  refine va_calli (va_runV (wx_fix hC hml) hM cw (wx_preV hC hW hV he hc hq) rfl hn hsz hst (lv_room hr) hdg ⟨Nat.zero_le _, Nat.zero_le _⟩) hS (fun _ _ h => h) (fun _ h => h) (fun r' u t H1 locs1 ht hvm hp hB hz hk hS1 => ?_)
  subst hp; subst ht
  exact kk _ _ hB.1 hS1
theorem wc_v (hC : wX p s m c cc args Ts own G) (hml : c.maxLocals = nL) (hM : mV l y ws rm G (.ref (G.2.2.1 i j) :: As) Z Z') (cw : CallW R s args own C index y bytes maxL ret ws rm 0 0 n) (hW : wW G Z H) (hS : va_S (wA G) H0 H locs) (hV : wV i j) {fs : List Value} (he : wE G Z i j = .inr (ci, fs)) {q : vw_C} (hc : vwCl[ci]? = some q) (hq : q.1 = C) {st : List Value}
    (hn : As.length = n) (hst : st = As.reverse ++ .ref (G.2.2.1 i j) :: rest) (hsz : ls.size = nL) (hr : (rest.map fun v => v.category).sum ≤ 8) (hdg : decode cc pc = .ok (.invokevirtual index, 3))
    (kk : ∀ (H1 : Heap) (locs1 : List Loc), wW G Z' H1 → va_S (wA G) H0 H1 locs1 → W p l e R s m args below meth c H1 locs1 0 0 Q (F0 m (pc + 3) ls rest)) : W p l e R s m args below meth c H locs 0 0 Q (F0 m pc ls st) := by
  refine va_callv (va_runV (wx_fix hC hml) hM cw (wx_preV hC hW hV he hc hq) rfl hn hsz hst (lv_room hr) hdg ⟨Nat.zero_le _, Nat.zero_le _⟩) hS (fun _ _ h => h) (fun _ h => h) (fun u t H1 locs1 ht hvm hp hB hz hk hS1 => ?_)
  subst ht
  exact kk _ _ hB.1 hS1
theorem wc_q (hC : wX p s m c cc args Ts own G) (hml : c.maxLocals = nL) (hM : mQ l y ws rm G (.ref (G.2.2.1 i j) :: As) Z ro Z') (cw : CallW R s args own C index y bytes maxL ret ws rm 0 0 n) (hW : wW G Z H) (hS : va_S (wA G) H0 H locs) (hV : wV i j) {fs : List Value} (he : wE G Z i j = .inr (ci, fs)) {q : vw_C} (hc : vwCl[ci]? = some q) (hq : q.1 = C) {st : List Value}
    (hn : As.length = n) (hst : st = As.reverse ++ .ref (G.2.2.1 i j) :: rest) (hsz : ls.size = nL) (hr : (rest.map fun v => v.category).sum ≤ 8) (hdg : decode cc pc = .ok (.invokevirtual index, 3))
    (kk : ∀ (H1 : Heap) (locs1 : List Loc), wW G Z' H1 → va_S (wA G) H0 H1 locs1 → W p l e R s m args below meth c H1 locs1 0 0 Q (F0 m (pc + 3) ls (va_rf ro :: rest))) : W p l e R s m args below meth c H locs 0 0 Q (F0 m pc ls st) := by
  refine va_callq (va_runV (wx_fix hC hml) hM cw (wx_preV hC hW hV he hc hq) rfl hn hsz hst (lv_room hr) hdg ⟨Nat.zero_le _, Nat.zero_le _⟩) hS (fun _ _ h => h) (fun _ h => h) (fun r' u t H1 locs1 ht hvm hp hB hz hk hS1 => ?_)
  subst hp; subst ht
  exact kk _ _ hB.1 hS1
/-- calls of a static method that answers an int -/
theorem wc_s (hC : wX p s m c cc args Ts own G) (hml : c.maxLocals = nL) (hM : mI l y ws rm G As Z r Z') (cw : CallB R s args own index y bytes maxL ret ws rm 0 0 n ∧ (Cond.static y).before args s = true) (hW : wW G Z H) (hS : va_S (wA G) H0 H locs) {st : List Value}
    (hn : As.length = n) (hst : st = As.reverse ++ rest) (hsz : ls.size = nL) (hr : (rest.map fun v => v.category).sum ≤ 8) (hdg : decode cc pc = .ok (.invokestatic index, 3))
    (kk : ∀ (H1 : Heap) (locs1 : List Loc), wW G Z' H1 → va_S (wA G) H0 H1 locs1 → W p l e R s m args below meth c H1 locs1 0 0 Q (F0 m (pc + 3) ls (.int r :: rest))) : W p l e R s m args below meth c H locs 0 0 Q (F0 m pc ls st) := by
  refine va_calli (va_runS (wx_fix hC hml) hM cw (wx_preS hC hW) rfl hn hsz hst (lv_room hr) hdg ⟨Nat.zero_le _, Nat.zero_le _⟩) hS (fun _ _ h => h) (fun _ h => h) (fun r' u t H1 locs1 ht hvm hp hB hz hk hS1 => ?_)
  subst hp; subst ht
  exact kk _ _ hB.1 hS1
end WQ

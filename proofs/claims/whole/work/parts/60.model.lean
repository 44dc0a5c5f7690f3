/-- a part of a row, put from a list of numbers -/
def rcp (B : wB) (j o : Nat) (f : Nat → Int32) (n : Nat) : wB := fun j' q => if j' = j ∧ o ≤ q ∧ q < o + n then f (q - o) else B j' q
theorem rcp_0 {B : wB} {j o : Nat} {f : Nat → Int32} : rcp B j o f 0 = B := by
  funext j' q
  unfold rcp
  rw [if_neg (by omega)]
theorem rcp_s {B : wB} {j o n q : Nat} {f : Nat → Int32} {v : Int32} (hq : q = o + n) (hv : v = f n) : bput (rcp B j o f n) j q v = rcp B j o f (n + 1) := by
  subst hq; subst hv
  funext j' q
  unfold bput rcp
  by_cases h1 : j' = j
  · by_cases h2 : q = o + n
    · rw [if_pos ⟨h1, h2⟩, if_pos ⟨h1, by omega, by omega⟩, h2, show o + n - o = n by omega]
    · rw [if_neg (fun e => h2 e.2)]
      by_cases h3 : o ≤ q ∧ q < o + n
      · rw [if_pos ⟨h1, h3.1, h3.2⟩, if_pos ⟨h1, h3.1, by omega⟩]
      · rw [if_neg (fun e => h3 e.2), if_neg (fun e => h3 ⟨e.2.1, by omega⟩)]
  · rw [if_neg (fun e => h1 e.1), if_neg (fun e => h1 e.1), if_neg (fun e => h1 e.1)]
theorem rcp_o {B : wB} {j j' o n q : Nat} {f : Nat → Int32} (h : j' ≠ j) : rcp B j o f n j' q = B j' q := if_neg fun e => h e.1
theorem rcp_hi {B : wB} {j j' o n q : Nat} {f : Nat → Int32} (h : o + n ≤ q) : rcp B j o f n j' q = B j' q := if_neg fun e => by omega
theorem rcp_in {B : wB} {j o n q : Nat} {f : Nat → Int32} (h1 : o ≤ q) (h2 : q < o + n) : rcp B j o f n j q = f (q - o) := if_pos ⟨rfl, h1, h2⟩
def fX7_at (k w : Nat) : Int32 := nI (7 + 14 * k + w)
abbrev rX7_at : Room := { frames := 0, cells := 0, slots := 0, locals := 0 }
set_option maxHeartbeats 4000000 in
set_option maxRecDepth 100000 in
theorem kX7_at (l : Launch) (G : wG) (Z : wZ)  (k : Nat) (w : Nat)  : mI l yX7_at wsX7_at rX7_at G [.int (nI k), .int (nI w)] Z (fX7_at k w) Z := by
  refine Met.ofW (cc := cX7_at) (maxL := 2) (ret := (some .int)) (by decide) rfl ?_
  intro p e s m args below meth c s₁ B0 hml hv
  obtain ⟨rfl, hW, hK, hL⟩ := hv
  have hlocks := B0.notSynchronized
  have hr := B0.returns
  have hC : wX p s m c cX7_at _ wsX7_at RX7 G := ⟨B0.exec, B0.bytes, findClass_of_methodNamed B0.named, atoms_spec (ws := wsX7_at) B0.pre, hK, hL⟩
  have hx := hC.1
  have hb := hC.2.1
  have hts := hC.2.2.2.1
  have hS : va_S (wA G) s.heap s.heap [] := va_S.rf
  have hl := lv_entry ([.int (nI k), .int (nI w)]) (n := 2) (Nat.le_of_ble_eq_true rfl)
  rw [lg_entry_eq]
  generalize (lg_sl ([.int (nI k), .int (nI w)]) ++ List.replicate (2 - (lg_sl ([.int (nI k), .int (nI w)])).length) Slot.unset).toArray = ls at hl ⊢
  have hl : lv_has ls 2 [(0, .int (nI k)), (1, .int (nI w))] := hl
  refine lv_bipush (v := 7) hx hb dX7_at_0 (by decide) ?_
  refine lv_bipush (v := 14) hx hb dX7_at_2 (by decide) ?_
  refine lv_iload_n hx hb dX7_at_4 rfl (lv_at hl 0 rfl) ?_
  refine lv_imul hx hb dX7_at_5 ?_
  refine lv_re (y := nI (14 * k)) (pk_mul 14 k) ?_
  refine lv_iadd hx hb dX7_at_6 ?_
  refine lv_re (y := nI (7 + (14 * k))) (nI_add 7 (14 * k)) ?_
  refine lv_iload_n hx hb dX7_at_7 rfl (lv_at hl 1 rfl) ?_
  refine lv_iadd hx hb dX7_at_8 ?_
  refine lv_re (y := nI ((7 + (14 * k)) + w)) (nI_add (7 + (14 * k)) w) ?_
  have hf : fX7_at k w = nI ((7 + (14 * k)) + w) := rfl
  exact we_i hC hr hlocks hf.symm rfl hW hS dX7_at_9
def fX7_in (a1 : Int32) (a2 : Int32) (a3 : Int32) : Int32 :=
  if a1 < a2 then 0
  else if a3 < a1 then 0
  else 1
abbrev rX7_in : Room := { frames := 0, cells := 0, slots := 0, locals := 0 }
set_option maxHeartbeats 4000000 in
set_option maxRecDepth 100000 in
theorem kX7_in (l : Launch) (G : wG) (Z : wZ)  (a1 : Int32) (a2 : Int32) (a3 : Int32)  : mI l yX7_in wsX7_in rX7_in G [.int a1, .int a2, .int a3] Z (fX7_in a1 a2 a3) Z := by
  refine Met.ofW (cc := cX7_in) (maxL := 3) (ret := (some .boolean)) (by decide) rfl ?_
  intro p e s m args below meth c s₁ B0 hml hv
  obtain ⟨rfl, hW, hK, hL⟩ := hv
  have hlocks := B0.notSynchronized
  have hr := B0.returns
  have hC : wX p s m c cX7_in _ wsX7_in RX7 G := ⟨B0.exec, B0.bytes, findClass_of_methodNamed B0.named, atoms_spec (ws := wsX7_in) B0.pre, hK, hL⟩
  have hx := hC.1
  have hb := hC.2.1
  have hts := hC.2.2.2.1
  have hS : va_S (wA G) s.heap s.heap [] := va_S.rf
  have hl := lv_entry ([.int a1, .int a2, .int a3]) (n := 3) (Nat.le_of_ble_eq_true rfl)
  rw [lg_entry_eq]
  generalize (lg_sl ([.int a1, .int a2, .int a3]) ++ List.replicate (3 - (lg_sl ([.int a1, .int a2, .int a3])).length) Slot.unset).toArray = ls at hl ⊢
  have hl : lv_has ls 3 [(0, .int a1), (1, .int a2), (2, .int a3)] := hl
  refine lv_iload_n hx hb dX7_in_0 rfl (lv_at hl 0 rfl) ?_
  refine lv_iload_n hx hb dX7_in_1 rfl (lv_at hl 1 rfl) ?_
  refine lv_icmp_lt (tgt := 14) hx hb dX7_in_2 (by decide) (fun c_1 => ?_) (fun c_1 => ?_)
  · skip
    refine lv_iconst (v := 0) hx hb dX7_in_14 (by decide) ?_
    have hf : fX7_in a1 a2 a3 = 0 := (if_pos c_1).trans rfl
    exact we_z hC hr hlocks (by first | rfl | decide | assumption | exact nar_char_i _) hf.symm rfl hW hS dX7_in_15
  · skip
    refine lv_iload_n hx hb dX7_in_5 rfl (lv_at hl 0 rfl) ?_
    refine lv_iload_n hx hb dX7_in_6 rfl (lv_at hl 2 rfl) ?_
    refine lv_icmp_gt (tgt := 14) hx hb dX7_in_7 (by decide) (fun c_2 => ?_) (fun c_2 => ?_)
    · skip
      refine lv_iconst (v := 0) hx hb dX7_in_14 (by decide) ?_
      have hf : fX7_in a1 a2 a3 = 0 := (if_neg c_1).trans ((if_pos c_2).trans rfl)
      exact we_z hC hr hlocks (by first | rfl | decide | assumption | exact nar_char_i _) hf.symm rfl hW hS dX7_in_15
    · skip
      refine lv_iconst (v := 1) hx hb dX7_in_10 (by decide) ?_
      refine lv_goto (tgt := 15) hx hb dX7_in_11 (by decide) ?_
      have hf : fX7_in a1 a2 a3 = 1 := (if_neg c_1).trans ((if_neg c_2).trans rfl)
      exact we_z hC hr hlocks (by first | rfl | decide | assumption | exact nar_char_i _) hf.symm rfl hW hS dX7_in_15
theorem nbX7_in {a b c : Int32} : narrow .boolean (.int (fX7_in a b c)) = .int (fX7_in a b c) := by
  unfold fX7_in
  split
  · decide
  · split <;> decide
def fX7_size (a1 : Int32) : Int32 :=
  if 0 ≤ a1 then a1
  else -a1
abbrev rX7_size : Room := { frames := 0, cells := 0, slots := 0, locals := 0 }
set_option maxHeartbeats 4000000 in
set_option maxRecDepth 100000 in
theorem kX7_size (l : Launch) (G : wG) (Z : wZ)  (a1 : Int32)  : mI l yX7_size wsX7_size rX7_size G [.int a1] Z (fX7_size a1) Z := by
  refine Met.ofW (cc := cX7_size) (maxL := 1) (ret := (some .int)) (by decide) rfl ?_
  intro p e s m args below meth c s₁ B0 hml hv
  obtain ⟨rfl, hW, hK, hL⟩ := hv
  have hlocks := B0.notSynchronized
  have hr := B0.returns
  have hC : wX p s m c cX7_size _ wsX7_size RX7 G := ⟨B0.exec, B0.bytes, findClass_of_methodNamed B0.named, atoms_spec (ws := wsX7_size) B0.pre, hK, hL⟩
  have hx := hC.1
  have hb := hC.2.1
  have hts := hC.2.2.2.1
  have hS : va_S (wA G) s.heap s.heap [] := va_S.rf
  have hl := lv_entry ([.int a1]) (n := 1) (Nat.le_of_ble_eq_true rfl)
  rw [lg_entry_eq]
  generalize (lg_sl ([.int a1]) ++ List.replicate (1 - (lg_sl ([.int a1])).length) Slot.unset).toArray = ls at hl ⊢
  have hl : lv_has ls 1 [(0, .int a1)] := hl
  refine lv_iload_n hx hb dX7_size_0 rfl (lv_at hl 0 rfl) ?_
  refine lv_if_ge (tgt := 9) hx hb dX7_size_1 (by decide) (fun c_1 => ?_) (fun c_1 => ?_)
  · skip
    refine lv_iload_n hx hb dX7_size_9 rfl (lv_at hl 0 rfl) ?_
    have hf : fX7_size a1 = a1 := (if_pos c_1).trans rfl
    exact we_i hC hr hlocks hf.symm rfl hW hS dX7_size_10
  · skip
    refine lv_iload_n hx hb dX7_size_4 rfl (lv_at hl 0 rfl) ?_
    refine lv_ineg hx hb dX7_size_5 ?_
    refine lv_goto (tgt := 10) hx hb dX7_size_6 (by decide) ?_
    have hf : fX7_size a1 = -a1 := (if_neg c_1).trans rfl
    exact we_i hC hr hlocks hf.symm rfl hW hS dX7_size_10
def fX7_isPlace (a1 : Int32) : Int32 :=
  let x_1 := fX7_in a1 (-9999) 9999
  x_1
abbrev rX7_isPlace : Room := { frames := 1, cells := 0, slots := 0, locals := 22 }
set_option maxHeartbeats 4000000 in
set_option maxRecDepth 100000 in
theorem kX7_isPlace (l : Launch) (G : wG) (Z : wZ)  (a1 : Int32)  : mI l yX7_isPlace wsX7_isPlace rX7_isPlace G [.int a1] Z (fX7_isPlace a1) Z := by
  refine Met.ofW (cc := cX7_isPlace) (maxL := 1) (ret := (some .boolean)) (by decide) rfl ?_
  intro p e s m args below meth c s₁ B0 hml hv
  obtain ⟨rfl, hW, hK, hL⟩ := hv
  have hlocks := B0.notSynchronized
  have hr := B0.returns
  have hC : wX p s m c cX7_isPlace _ wsX7_isPlace RX7 G := ⟨B0.exec, B0.bytes, findClass_of_methodNamed B0.named, atoms_spec (ws := wsX7_isPlace) B0.pre, hK, hL⟩
  have hx := hC.1
  have hb := hC.2.1
  have hts := hC.2.2.2.1
  have hS : va_S (wA G) s.heap s.heap [] := va_S.rf
  have hl := lv_entry ([.int a1]) (n := 1) (Nat.le_of_ble_eq_true rfl)
  rw [lg_entry_eq]
  generalize (lg_sl ([.int a1]) ++ List.replicate (1 - (lg_sl ([.int a1])).length) Slot.unset).toArray = ls at hl ⊢
  have hl : lv_has ls 1 [(0, .int a1)] := hl
  refine lv_iload_n hx hb dX7_isPlace_0 rfl (lv_at hl 0 rfl) ?_
  refine lv_sipush (v := (-9999)) hx hb dX7_isPlace_1 (by decide) ?_
  refine lv_sipush (v := 9999) hx hb dX7_isPlace_4 (by decide) ?_
  refine wc_s hC hml (kX7_in l G Z a1 (-9999) 9999) (cwS 3 hts gX7_isPlace_X7_in rfl rfl rfl (by decide +kernel) ⟨Nat.le_of_ble_eq_true rfl, Nat.le_of_ble_eq_true rfl⟩) hW hS rfl rfl hl.1 (Nat.le_of_ble_eq_true rfl) dX7_isPlace_7 (fun H locs hW hS => ?_)
  refine lv_topi (fun x_1 ex_1 => ?_)
  have hf : fX7_isPlace a1 = x_1 := by
    subst ex_1
    exact rfl
  exact we_z hC hr hlocks (by rw [ex_1]; exact nbX7_in) hf.symm rfl hW hS dX7_isPlace_10
def fX7_isShaft (B : wB) (a1 : Int32) : Int32 :=
  let x_1 := fX7_in a1 0 ((B 1 6) - 1)
  x_1
abbrev rX7_isShaft : Room := { frames := 1, cells := 0, slots := 0, locals := 22 }
set_option maxHeartbeats 4000000 in
set_option maxRecDepth 100000 in
theorem kX7_isShaft (l : Launch) (G : wG) (Z : wZ) (B : wB) (a1 : Int32)  : mI l yX7_isShaft wsX7_isShaft rX7_isShaft G [.ref (G.2.2.1 12 0), .int a1] (wset Z 12 B) (fX7_isShaft B a1) (wset Z 12 B) := by
  refine Met.ofW (cc := cX7_isShaft) (maxL := 2) (ret := (some .boolean)) (by decide) rfl ?_
  intro p e s m args below meth c s₁ B0 hml hv
  obtain ⟨rfl, hW, hK, hL⟩ := hv
  have hlocks := B0.notSynchronized
  have hr := B0.returns
  have hC : wX p s m c cX7_isShaft _ wsX7_isShaft RX7 G := ⟨B0.exec, B0.bytes, findClass_of_methodNamed B0.named, atoms_spec (ws := wsX7_isShaft) B0.pre, hK, hL⟩
  have hx := hC.1
  have hb := hC.2.1
  have hts := hC.2.2.2.1
  have hinRX7 : ∀ w ∈ wsX70, w ∈ wsX7_isShaft := by decide +kernel
  have hk0 := hts (.fieldLink RX7 7 "RampShaftsModel" "s" "[I") (by decide +kernel)
  have hS : va_S (wA G) s.heap s.heap [] := va_S.rf
  have hl := lv_entry ([.ref (G.2.2.1 12 0), .int a1]) (n := 2) (Nat.le_of_ble_eq_true rfl)
  rw [lg_entry_eq]
  generalize (lg_sl ([.ref (G.2.2.1 12 0), .int a1]) ++ List.replicate (2 - (lg_sl ([.ref (G.2.2.1 12 0), .int a1])).length) Slot.unset).toArray = ls at hl ⊢
  have hl : lv_has ls 2 [(0, .ref (G.2.2.1 12 0)), (1, .int a1)] := hl
  refine lv_iload_n hx hb dX7_isShaft_0 rfl (lv_at hl 1 rfl) ?_
  refine lv_iconst (v := 0) hx hb dX7_isShaft_1 (by decide) ?_
  refine lv_aload_n hx hb dX7_isShaft_2 rfl (lv_at hl 0 rfl) ?_
  refine wr_get hC hinRX7 hW (vM (by decide)) ce_m0 rfl 0 (by decide) hk0 rfl dX7_isShaft_3 ?_
  refine lv_bipush (v := 6) hx hb dX7_isShaft_6 (by decide) ?_
  refine wr_ald (kA := 0) hC hW (vM (by decide)) ce_m1 rfl (vp_in_iff.mpr (by decide)) dX7_isShaft_8 ?_
  refine lv_re (y := B 1 6) ((congrArg (B 1) (show (6 : Int32).toNatClampNeg = 6 by decide))) ?_
  refine lv_iconst (v := 1) hx hb dX7_isShaft_9 (by decide) ?_
  refine lv_isub hx hb dX7_isShaft_10 ?_
  refine wc_s hC hml (kX7_in l G (wset Z 12 B) a1 0 ((B 1 6) - 1)) (cwS 3 hts gX7_isShaft_X7_in rfl rfl rfl (by decide +kernel) ⟨Nat.le_of_ble_eq_true rfl, Nat.le_of_ble_eq_true rfl⟩) hW hS rfl rfl hl.1 (Nat.le_of_ble_eq_true rfl) dX7_isShaft_11 (fun H locs hW hS => ?_)
  refine lv_topi (fun x_1 ex_1 => ?_)
  have hf : fX7_isShaft B a1 = x_1 := by
    subst ex_1
    exact rfl
  exact we_z hC hr hlocks (by rw [ex_1]; exact nbX7_in) hf.symm rfl hW hS dX7_isShaft_14
def fX7_nextLevel (a1 : Int32) (a2 : Int32) (a3 : Int32) : Int32 :=
  if a1 < a2 then (if a3 ≤ a1 then a3
    else a1 + 1)
  else if a1 ≤ 0 then 0
  else a1 - 1
abbrev rX7_nextLevel : Room := { frames := 0, cells := 0, slots := 0, locals := 0 }
set_option maxHeartbeats 4000000 in
set_option maxRecDepth 100000 in
theorem kX7_nextLevel (l : Launch) (G : wG) (Z : wZ)  (a1 : Int32) (a2 : Int32) (a3 : Int32)  : mI l yX7_nextLevel wsX7_nextLevel rX7_nextLevel G [.int a1, .int a2, .int a3] Z (fX7_nextLevel a1 a2 a3) Z := by
  refine Met.ofW (cc := cX7_nextLevel) (maxL := 3) (ret := (some .int)) (by decide) rfl ?_
  intro p e s m args below meth c s₁ B0 hml hv
  obtain ⟨rfl, hW, hK, hL⟩ := hv
  have hlocks := B0.notSynchronized
  have hr := B0.returns
  have hC : wX p s m c cX7_nextLevel _ wsX7_nextLevel RX7 G := ⟨B0.exec, B0.bytes, findClass_of_methodNamed B0.named, atoms_spec (ws := wsX7_nextLevel) B0.pre, hK, hL⟩
  have hx := hC.1
  have hb := hC.2.1
  have hts := hC.2.2.2.1
  have hS : va_S (wA G) s.heap s.heap [] := va_S.rf
  have hl := lv_entry ([.int a1, .int a2, .int a3]) (n := 3) (Nat.le_of_ble_eq_true rfl)
  rw [lg_entry_eq]
  generalize (lg_sl ([.int a1, .int a2, .int a3]) ++ List.replicate (3 - (lg_sl ([.int a1, .int a2, .int a3])).length) Slot.unset).toArray = ls at hl ⊢
  have hl : lv_has ls 3 [(0, .int a1), (1, .int a2), (2, .int a3)] := hl
  refine lv_iload_n hx hb dX7_nextLevel_0 rfl (lv_at hl 1 rfl) ?_
  refine lv_iload_n hx hb dX7_nextLevel_1 rfl (lv_at hl 0 rfl) ?_
  refine lv_icmp_gt (tgt := 17) hx hb dX7_nextLevel_2 (by decide) (fun c_1 => ?_) (fun c_1 => ?_)
  · skip
    refine lv_iload_n hx hb dX7_nextLevel_17 rfl (lv_at hl 0 rfl) ?_
    refine lv_iload_n hx hb dX7_nextLevel_18 rfl (lv_at hl 2 rfl) ?_
    refine lv_icmp_ge (tgt := 28) hx hb dX7_nextLevel_19 (by decide) (fun c_2 => ?_) (fun c_2 => ?_)
    · skip
      refine lv_iload_n hx hb dX7_nextLevel_28 rfl (lv_at hl 2 rfl) ?_
      have hf : fX7_nextLevel a1 a2 a3 = a3 := (if_pos c_1).trans ((if_pos c_2).trans rfl)
      exact we_i hC hr hlocks hf.symm rfl hW hS dX7_nextLevel_29
    · skip
      refine lv_iload_n hx hb dX7_nextLevel_22 rfl (lv_at hl 0 rfl) ?_
      refine lv_iconst (v := 1) hx hb dX7_nextLevel_23 (by decide) ?_
      refine lv_iadd hx hb dX7_nextLevel_24 ?_
      refine lv_goto (tgt := 29) hx hb dX7_nextLevel_25 (by decide) ?_
      have hf : fX7_nextLevel a1 a2 a3 = a1 + 1 := (if_pos c_1).trans ((if_neg c_2).trans rfl)
      exact we_i hC hr hlocks hf.symm rfl hW hS dX7_nextLevel_29
  · skip
    refine lv_iload_n hx hb dX7_nextLevel_5 rfl (lv_at hl 0 rfl) ?_
    refine lv_if_le (tgt := 15) hx hb dX7_nextLevel_6 (by decide) (fun c_3 => ?_) (fun c_3 => ?_)
    · skip
      refine lv_iconst (v := 0) hx hb dX7_nextLevel_15 (by decide) ?_
      have hf : fX7_nextLevel a1 a2 a3 = 0 := (if_neg c_1).trans ((if_pos c_3).trans rfl)
      exact we_i hC hr hlocks hf.symm rfl hW hS dX7_nextLevel_16
    · skip
      refine lv_iload_n hx hb dX7_nextLevel_9 rfl (lv_at hl 0 rfl) ?_
      refine lv_iconst (v := 1) hx hb dX7_nextLevel_10 (by decide) ?_
      refine lv_isub hx hb dX7_nextLevel_11 ?_
      refine lv_goto (tgt := 16) hx hb dX7_nextLevel_12 (by decide) ?_
      have hf : fX7_nextLevel a1 a2 a3 = a1 - 1 := (if_neg c_1).trans ((if_neg c_3).trans rfl)
      exact we_i hC hr hlocks hf.symm rfl hW hS dX7_nextLevel_16
def fX7_least (a1 : Int32) : Int32 :=
  if a1 = 0 then 10
  else if a1 = 1 then 2
  else if a1 = 2 then 1
  else 0
abbrev rX7_least : Room := { frames := 0, cells := 0, slots := 0, locals := 0 }
set_option maxHeartbeats 4000000 in
set_option maxRecDepth 100000 in
theorem kX7_least (l : Launch) (G : wG) (Z : wZ)  (a1 : Int32)  : mI l yX7_least wsX7_least rX7_least G [.int a1] Z (fX7_least a1) Z := by
  refine Met.ofW (cc := cX7_least) (maxL := 1) (ret := (some .int)) (by decide) rfl ?_
  intro p e s m args below meth c s₁ B0 hml hv
  obtain ⟨rfl, hW, hK, hL⟩ := hv
  have hlocks := B0.notSynchronized
  have hr := B0.returns
  have hC : wX p s m c cX7_least _ wsX7_least RX7 G := ⟨B0.exec, B0.bytes, findClass_of_methodNamed B0.named, atoms_spec (ws := wsX7_least) B0.pre, hK, hL⟩
  have hx := hC.1
  have hb := hC.2.1
  have hts := hC.2.2.2.1
  have hS : va_S (wA G) s.heap s.heap [] := va_S.rf
  have hl := lv_entry ([.int a1]) (n := 1) (Nat.le_of_ble_eq_true rfl)
  rw [lg_entry_eq]
  generalize (lg_sl ([.int a1]) ++ List.replicate (1 - (lg_sl ([.int a1])).length) Slot.unset).toArray = ls at hl ⊢
  have hl : lv_has ls 1 [(0, .int a1)] := hl
  refine lv_iload_n hx hb dX7_least_0 rfl (lv_at hl 0 rfl) ?_
  refine lv_if_ne (tgt := 9) hx hb dX7_least_1 (by decide) (fun c_1 => ?_) (fun c_1 => ?_)
  · skip
    refine lv_iload_n hx hb dX7_least_9 rfl (lv_at hl 0 rfl) ?_
    refine lv_iconst (v := 1) hx hb dX7_least_10 (by decide) ?_
    refine lv_icmp_ne (tgt := 18) hx hb dX7_least_11 (by decide) (fun c_2 => ?_) (fun c_2 => ?_)
    · skip
      refine lv_iload_n hx hb dX7_least_18 rfl (lv_at hl 0 rfl) ?_
      refine lv_iconst (v := 2) hx hb dX7_least_19 (by decide) ?_
      refine lv_icmp_ne (tgt := 27) hx hb dX7_least_20 (by decide) (fun c_3 => ?_) (fun c_3 => ?_)
      · skip
        refine lv_iconst (v := 0) hx hb dX7_least_27 (by decide) ?_
        have hf : fX7_least a1 = 0 := (if_neg c_1).trans ((if_neg c_2).trans ((if_neg c_3).trans rfl))
        exact we_i hC hr hlocks hf.symm rfl hW hS dX7_least_28
      · skip
        refine lv_iconst (v := 1) hx hb dX7_least_23 (by decide) ?_
        refine lv_goto (tgt := 28) hx hb dX7_least_24 (by decide) ?_
        have hf : fX7_least a1 = 1 := (if_neg c_1).trans ((if_neg c_2).trans ((if_pos c_3).trans rfl))
        exact we_i hC hr hlocks hf.symm rfl hW hS dX7_least_28
    · skip
      refine lv_iconst (v := 2) hx hb dX7_least_14 (by decide) ?_
      refine lv_goto (tgt := 28) hx hb dX7_least_15 (by decide) ?_
      have hf : fX7_least a1 = 2 := (if_neg c_1).trans ((if_pos c_2).trans rfl)
      exact we_i hC hr hlocks hf.symm rfl hW hS dX7_least_28
  · skip
    refine lv_bipush (v := 10) hx hb dX7_least_4 (by decide) ?_
    refine lv_goto (tgt := 28) hx hb dX7_least_6 (by decide) ?_
    have hf : fX7_least a1 = 10 := (if_pos c_1).trans rfl
    exact we_i hC hr hlocks hf.symm rfl hW hS dX7_least_28
def fX7_most (a1 : Int32) : Int32 :=
  if a1 = 0 then 200
  else if a1 = 1 then 50
  else if a1 = 4 then 20
  else 40
abbrev rX7_most : Room := { frames := 0, cells := 0, slots := 0, locals := 0 }
set_option maxHeartbeats 4000000 in
set_option maxRecDepth 100000 in
theorem kX7_most (l : Launch) (G : wG) (Z : wZ)  (a1 : Int32)  : mI l yX7_most wsX7_most rX7_most G [.int a1] Z (fX7_most a1) Z := by
  refine Met.ofW (cc := cX7_most) (maxL := 1) (ret := (some .int)) (by decide) rfl ?_
  intro p e s m args below meth c s₁ B0 hml hv
  obtain ⟨rfl, hW, hK, hL⟩ := hv
  have hlocks := B0.notSynchronized
  have hr := B0.returns
  have hC : wX p s m c cX7_most _ wsX7_most RX7 G := ⟨B0.exec, B0.bytes, findClass_of_methodNamed B0.named, atoms_spec (ws := wsX7_most) B0.pre, hK, hL⟩
  have hx := hC.1
  have hb := hC.2.1
  have hts := hC.2.2.2.1
  have hS : va_S (wA G) s.heap s.heap [] := va_S.rf
  have hl := lv_entry ([.int a1]) (n := 1) (Nat.le_of_ble_eq_true rfl)
  rw [lg_entry_eq]
  generalize (lg_sl ([.int a1]) ++ List.replicate (1 - (lg_sl ([.int a1])).length) Slot.unset).toArray = ls at hl ⊢
  have hl : lv_has ls 1 [(0, .int a1)] := hl
  refine lv_iload_n hx hb dX7_most_0 rfl (lv_at hl 0 rfl) ?_
  refine lv_if_ne (tgt := 10) hx hb dX7_most_1 (by decide) (fun c_1 => ?_) (fun c_1 => ?_)
  · skip
    refine lv_iload_n hx hb dX7_most_10 rfl (lv_at hl 0 rfl) ?_
    refine lv_iconst (v := 1) hx hb dX7_most_11 (by decide) ?_
    refine lv_icmp_ne (tgt := 20) hx hb dX7_most_12 (by decide) (fun c_2 => ?_) (fun c_2 => ?_)
    · skip
      refine lv_iload_n hx hb dX7_most_20 rfl (lv_at hl 0 rfl) ?_
      refine lv_iconst (v := 4) hx hb dX7_most_21 (by decide) ?_
      refine lv_icmp_ne (tgt := 30) hx hb dX7_most_22 (by decide) (fun c_3 => ?_) (fun c_3 => ?_)
      · skip
        refine lv_bipush (v := 40) hx hb dX7_most_30 (by decide) ?_
        have hf : fX7_most a1 = 40 := (if_neg c_1).trans ((if_neg c_2).trans ((if_neg c_3).trans rfl))
        exact we_i hC hr hlocks hf.symm rfl hW hS dX7_most_32
      · skip
        refine lv_bipush (v := 20) hx hb dX7_most_25 (by decide) ?_
        refine lv_goto (tgt := 32) hx hb dX7_most_27 (by decide) ?_
        have hf : fX7_most a1 = 20 := (if_neg c_1).trans ((if_neg c_2).trans ((if_pos c_3).trans rfl))
        exact we_i hC hr hlocks hf.symm rfl hW hS dX7_most_32
    · skip
      refine lv_bipush (v := 50) hx hb dX7_most_15 (by decide) ?_
      refine lv_goto (tgt := 32) hx hb dX7_most_17 (by decide) ?_
      have hf : fX7_most a1 = 50 := (if_neg c_1).trans ((if_pos c_2).trans rfl)
      exact we_i hC hr hlocks hf.symm rfl hW hS dX7_most_32
  · skip
    refine lv_sipush (v := 200) hx hb dX7_most_4 (by decide) ?_
    refine lv_goto (tgt := 32) hx hb dX7_most_7 (by decide) ?_
    have hf : fX7_most a1 = 200 := (if_pos c_1).trans rfl
    exact we_i hC hr hlocks hf.symm rfl hW hS dX7_most_32
def fX7_intervalBy (B : wB) (a1 : Int32) (a2 : Int32) : Int32 :=
  let x_1 := (B 1 0) - (a2 * a1)
  if (B 1 1) ≤ x_1 then x_1
  else B 1 1
abbrev rX7_intervalBy : Room := { frames := 0, cells := 0, slots := 0, locals := 0 }
set_option maxHeartbeats 4000000 in
set_option maxRecDepth 100000 in
theorem kX7_intervalBy (l : Launch) (G : wG) (Z : wZ) (B : wB) (a1 : Int32) (a2 : Int32)  : mI l yX7_intervalBy wsX7_intervalBy rX7_intervalBy G [.ref (G.2.2.1 12 0), .int a1, .int a2] (wset Z 12 B) (fX7_intervalBy B a1 a2) (wset Z 12 B) := by
  refine Met.ofW (cc := cX7_intervalBy) (maxL := 4) (ret := (some .int)) (by decide) rfl ?_
  intro p e s m args below meth c s₁ B0 hml hv
  obtain ⟨rfl, hW, hK, hL⟩ := hv
  have hlocks := B0.notSynchronized
  have hr := B0.returns
  have hC : wX p s m c cX7_intervalBy _ wsX7_intervalBy RX7 G := ⟨B0.exec, B0.bytes, findClass_of_methodNamed B0.named, atoms_spec (ws := wsX7_intervalBy) B0.pre, hK, hL⟩
  have hx := hC.1
  have hb := hC.2.1
  have hts := hC.2.2.2.1
  have hinRX7 : ∀ w ∈ wsX70, w ∈ wsX7_intervalBy := by decide +kernel
  have hk0 := hts (.fieldLink RX7 7 "RampShaftsModel" "s" "[I") (by decide +kernel)
  have hS : va_S (wA G) s.heap s.heap [] := va_S.rf
  have hl := lv_entry ([.ref (G.2.2.1 12 0), .int a1, .int a2]) (n := 4) (Nat.le_of_ble_eq_true rfl)
  rw [lg_entry_eq]
  generalize (lg_sl ([.ref (G.2.2.1 12 0), .int a1, .int a2]) ++ List.replicate (4 - (lg_sl ([.ref (G.2.2.1 12 0), .int a1, .int a2])).length) Slot.unset).toArray = ls at hl ⊢
  have hl : lv_has ls 4 [(0, .ref (G.2.2.1 12 0)), (1, .int a1), (2, .int a2)] := hl
  refine lv_aload_n hx hb dX7_intervalBy_0 rfl (lv_at hl 0 rfl) ?_
  refine wr_get hC hinRX7 hW (vM (by decide)) ce_m0 rfl 0 (by decide) hk0 rfl dX7_intervalBy_1 ?_
  refine lv_iconst (v := 0) hx hb dX7_intervalBy_4 (by decide) ?_
  refine wr_ald (kA := 0) hC hW (vM (by decide)) ce_m1 rfl (vp_in_iff.mpr (by decide)) dX7_intervalBy_5 ?_
  refine lv_re (y := B 1 0) ((congrArg (B 1) (show (0 : Int32).toNatClampNeg = 0 by decide))) ?_
  refine lv_iload_n hx hb dX7_intervalBy_6 rfl (lv_at hl 2 rfl) ?_
  refine lv_iload_n hx hb dX7_intervalBy_7 rfl (lv_at hl 1 rfl) ?_
  refine lv_imul hx hb dX7_intervalBy_8 ?_
  refine lv_isub hx hb dX7_intervalBy_9 ?_
  refine lv_topi (fun x_1 ex_1 => ?_)
  refine lv_istore_n (lv' := [(3, .int x_1), (0, .ref (G.2.2.1 12 0)), (1, .int a1), (2, .int a2)]) hx hb dX7_intervalBy_10 rfl hl (by decide) rfl (fun ls hl => ?_)
  refine lv_iload_n hx hb dX7_intervalBy_11 rfl (lv_at hl 0 rfl) ?_
  refine lv_aload_n hx hb dX7_intervalBy_12 rfl (lv_at hl 1 rfl) ?_
  refine wr_get hC hinRX7 hW (vM (by decide)) ce_m0 rfl 0 (by decide) hk0 rfl dX7_intervalBy_13 ?_
  refine lv_iconst (v := 1) hx hb dX7_intervalBy_16 (by decide) ?_
  refine wr_ald (kA := 0) hC hW (vM (by decide)) ce_m1 rfl (vp_in_iff.mpr (by decide)) dX7_intervalBy_17 ?_
  refine lv_re (y := B 1 1) ((congrArg (B 1) (show (1 : Int32).toNatClampNeg = 1 by decide))) ?_
  refine lv_icmp_ge (tgt := 30) hx hb dX7_intervalBy_18 (by decide) (fun c_2 => ?_) (fun c_2 => ?_)
  · skip
    refine lv_iload_n hx hb dX7_intervalBy_30 rfl (lv_at hl 0 rfl) ?_
    have hf : fX7_intervalBy B a1 a2 = x_1 := by
      subst ex_1
      exact (if_pos c_2).trans rfl
    exact we_i hC hr hlocks hf.symm rfl hW hS dX7_intervalBy_31
  · skip
    refine lv_aload_n hx hb dX7_intervalBy_21 rfl (lv_at hl 1 rfl) ?_
    refine wr_get hC hinRX7 hW (vM (by decide)) ce_m0 rfl 0 (by decide) hk0 rfl dX7_intervalBy_22 ?_
    refine lv_iconst (v := 1) hx hb dX7_intervalBy_25 (by decide) ?_
    refine wr_ald (kA := 0) hC hW (vM (by decide)) ce_m1 rfl (vp_in_iff.mpr (by decide)) dX7_intervalBy_26 ?_
    refine lv_re (y := B 1 1) ((congrArg (B 1) (show (1 : Int32).toNatClampNeg = 1 by decide))) ?_
    refine lv_goto (tgt := 31) hx hb dX7_intervalBy_27 (by decide) ?_
    have hf : fX7_intervalBy B a1 a2 = B 1 1 := by
      subst ex_1
      exact (if_neg c_2).trans rfl
    exact we_i hC hr hlocks hf.symm rfl hW hS dX7_intervalBy_31
def fX7_needs (B : wB) (a1 : Int32) : Int32 :=
  (B 1 3) + ((B 1 4) * a1)
abbrev rX7_needs : Room := { frames := 0, cells := 0, slots := 0, locals := 0 }
set_option maxHeartbeats 4000000 in
set_option maxRecDepth 100000 in
theorem kX7_needs (l : Launch) (G : wG) (Z : wZ) (B : wB) (a1 : Int32)  : mI l yX7_needs wsX7_needs rX7_needs G [.ref (G.2.2.1 12 0), .int a1] (wset Z 12 B) (fX7_needs B a1) (wset Z 12 B) := by
  refine Met.ofW (cc := cX7_needs) (maxL := 2) (ret := (some .int)) (by decide) rfl ?_
  intro p e s m args below meth c s₁ B0 hml hv
  obtain ⟨rfl, hW, hK, hL⟩ := hv
  have hlocks := B0.notSynchronized
  have hr := B0.returns
  have hC : wX p s m c cX7_needs _ wsX7_needs RX7 G := ⟨B0.exec, B0.bytes, findClass_of_methodNamed B0.named, atoms_spec (ws := wsX7_needs) B0.pre, hK, hL⟩
  have hx := hC.1
  have hb := hC.2.1
  have hts := hC.2.2.2.1
  have hinRX7 : ∀ w ∈ wsX70, w ∈ wsX7_needs := by decide +kernel
  have hk0 := hts (.fieldLink RX7 7 "RampShaftsModel" "s" "[I") (by decide +kernel)
  have hS : va_S (wA G) s.heap s.heap [] := va_S.rf
  have hl := lv_entry ([.ref (G.2.2.1 12 0), .int a1]) (n := 2) (Nat.le_of_ble_eq_true rfl)
  rw [lg_entry_eq]
  generalize (lg_sl ([.ref (G.2.2.1 12 0), .int a1]) ++ List.replicate (2 - (lg_sl ([.ref (G.2.2.1 12 0), .int a1])).length) Slot.unset).toArray = ls at hl ⊢
  have hl : lv_has ls 2 [(0, .ref (G.2.2.1 12 0)), (1, .int a1)] := hl
  refine lv_aload_n hx hb dX7_needs_0 rfl (lv_at hl 0 rfl) ?_
  refine wr_get hC hinRX7 hW (vM (by decide)) ce_m0 rfl 0 (by decide) hk0 rfl dX7_needs_1 ?_
  refine lv_iconst (v := 3) hx hb dX7_needs_4 (by decide) ?_
  refine wr_ald (kA := 0) hC hW (vM (by decide)) ce_m1 rfl (vp_in_iff.mpr (by decide)) dX7_needs_5 ?_
  refine lv_re (y := B 1 3) ((congrArg (B 1) (show (3 : Int32).toNatClampNeg = 3 by decide))) ?_
  refine lv_aload_n hx hb dX7_needs_6 rfl (lv_at hl 0 rfl) ?_
  refine wr_get hC hinRX7 hW (vM (by decide)) ce_m0 rfl 0 (by decide) hk0 rfl dX7_needs_7 ?_
  refine lv_iconst (v := 4) hx hb dX7_needs_10 (by decide) ?_
  refine wr_ald (kA := 0) hC hW (vM (by decide)) ce_m1 rfl (vp_in_iff.mpr (by decide)) dX7_needs_11 ?_
  refine lv_re (y := B 1 4) ((congrArg (B 1) (show (4 : Int32).toNatClampNeg = 4 by decide))) ?_
  refine lv_iload_n hx hb dX7_needs_12 rfl (lv_at hl 1 rfl) ?_
  refine lv_imul hx hb dX7_needs_13 ?_
  refine lv_iadd hx hb dX7_needs_14 ?_
  have hf : fX7_needs B a1 = (B 1 3) + ((B 1 4) * a1) := rfl
  exact we_i hC hr hlocks hf.symm rfl hW hS dX7_needs_15
def fX7_highestBy (B : wB) (a1 : Int32) : Int32 :=
  let x_1 := (B 1 0) - (B 1 1)
  if 0 < x_1 then ((x_1 + a1) - 1) / a1
  else 0
abbrev rX7_highestBy : Room := { frames := 0, cells := 0, slots := 0, locals := 0 }
set_option maxHeartbeats 4000000 in
set_option maxRecDepth 100000 in
theorem kX7_highestBy (l : Launch) (G : wG) (Z : wZ) (B : wB) (a1 : Int32) (hg : ¬ a1 = 0) : mI l yX7_highestBy wsX7_highestBy rX7_highestBy G [.ref (G.2.2.1 12 0), .int a1] (wset Z 12 B) (fX7_highestBy B a1) (wset Z 12 B) := by
  refine Met.ofW (cc := cX7_highestBy) (maxL := 3) (ret := (some .int)) (by decide) rfl ?_
  intro p e s m args below meth c s₁ B0 hml hv
  obtain ⟨rfl, hW, hK, hL⟩ := hv
  have hlocks := B0.notSynchronized
  have hr := B0.returns
  have hC : wX p s m c cX7_highestBy _ wsX7_highestBy RX7 G := ⟨B0.exec, B0.bytes, findClass_of_methodNamed B0.named, atoms_spec (ws := wsX7_highestBy) B0.pre, hK, hL⟩
  have hx := hC.1
  have hb := hC.2.1
  have hts := hC.2.2.2.1
  have hinRX7 : ∀ w ∈ wsX70, w ∈ wsX7_highestBy := by decide +kernel
  have hk0 := hts (.fieldLink RX7 7 "RampShaftsModel" "s" "[I") (by decide +kernel)
  have hS : va_S (wA G) s.heap s.heap [] := va_S.rf
  have hl := lv_entry ([.ref (G.2.2.1 12 0), .int a1]) (n := 3) (Nat.le_of_ble_eq_true rfl)
  rw [lg_entry_eq]
  generalize (lg_sl ([.ref (G.2.2.1 12 0), .int a1]) ++ List.replicate (3 - (lg_sl ([.ref (G.2.2.1 12 0), .int a1])).length) Slot.unset).toArray = ls at hl ⊢
  have hl : lv_has ls 3 [(0, .ref (G.2.2.1 12 0)), (1, .int a1)] := hl
  refine lv_aload_n hx hb dX7_highestBy_0 rfl (lv_at hl 0 rfl) ?_
  refine wr_get hC hinRX7 hW (vM (by decide)) ce_m0 rfl 0 (by decide) hk0 rfl dX7_highestBy_1 ?_
  refine lv_iconst (v := 0) hx hb dX7_highestBy_4 (by decide) ?_
  refine wr_ald (kA := 0) hC hW (vM (by decide)) ce_m1 rfl (vp_in_iff.mpr (by decide)) dX7_highestBy_5 ?_
  refine lv_re (y := B 1 0) ((congrArg (B 1) (show (0 : Int32).toNatClampNeg = 0 by decide))) ?_
  refine lv_aload_n hx hb dX7_highestBy_6 rfl (lv_at hl 0 rfl) ?_
  refine wr_get hC hinRX7 hW (vM (by decide)) ce_m0 rfl 0 (by decide) hk0 rfl dX7_highestBy_7 ?_
  refine lv_iconst (v := 1) hx hb dX7_highestBy_10 (by decide) ?_
  refine wr_ald (kA := 0) hC hW (vM (by decide)) ce_m1 rfl (vp_in_iff.mpr (by decide)) dX7_highestBy_11 ?_
  refine lv_re (y := B 1 1) ((congrArg (B 1) (show (1 : Int32).toNatClampNeg = 1 by decide))) ?_
  refine lv_isub hx hb dX7_highestBy_12 ?_
  refine lv_topi (fun x_1 ex_1 => ?_)
  refine lv_istore_n (lv' := [(2, .int x_1), (0, .ref (G.2.2.1 12 0)), (1, .int a1)]) hx hb dX7_highestBy_13 rfl hl (by decide) rfl (fun ls hl => ?_)
  refine lv_iload_n hx hb dX7_highestBy_14 rfl (lv_at hl 0 rfl) ?_
  refine lv_if_gt (tgt := 22) hx hb dX7_highestBy_15 (by decide) (fun c_2 => ?_) (fun c_2 => ?_)
  · skip
    refine lv_iload_n hx hb dX7_highestBy_22 rfl (lv_at hl 0 rfl) ?_
    refine lv_iload_n hx hb dX7_highestBy_23 rfl (lv_at hl 2 rfl) ?_
    refine lv_iadd hx hb dX7_highestBy_24 ?_
    refine lv_iconst (v := 1) hx hb dX7_highestBy_25 (by decide) ?_
    refine lv_isub hx hb dX7_highestBy_26 ?_
    refine lv_iload_n hx hb dX7_highestBy_27 rfl (lv_at hl 2 rfl) ?_
    refine lv_idiv hx hb dX7_highestBy_28 (hg) ?_
    have hf : fX7_highestBy B a1 = ((x_1 + a1) - 1) / a1 := by
      subst ex_1
      exact (if_pos c_2).trans rfl
    exact we_i hC hr hlocks hf.symm rfl hW hS dX7_highestBy_29
  · skip
    refine lv_iconst (v := 0) hx hb dX7_highestBy_18 (by decide) ?_
    refine lv_goto (tgt := 29) hx hb dX7_highestBy_19 (by decide) ?_
    have hf : fX7_highestBy B a1 = 0 := by
      subst ex_1
      exact (if_neg c_2).trans rfl
    exact we_i hC hr hlocks hf.symm rfl hW hS dX7_highestBy_29
def fX7_rests (B : wB) (k : Nat) : Int32 :=
  if (B 1 (7 + 14 * k + 5)) = 0 then 1
  else 0
abbrev rX7_rests : Room := { frames := 1, cells := 0, slots := 0, locals := 21 }
set_option maxHeartbeats 4000000 in
set_option maxRecDepth 100000 in
theorem kX7_rests (l : Launch) (G : wG) (Z : wZ) (B : wB) (k : Nat) (hk : k < 4) : mI l yX7_rests wsX7_rests rX7_rests G [.ref (G.2.2.1 12 0), .int (nI k)] (wset Z 12 B) (fX7_rests B k) (wset Z 12 B) := by
  refine Met.ofW (cc := cX7_rests) (maxL := 2) (ret := (some .boolean)) (by decide) rfl ?_
  intro p e s m args below meth c s₁ B0 hml hv
  obtain ⟨rfl, hW, hK, hL⟩ := hv
  have hlocks := B0.notSynchronized
  have hr := B0.returns
  have hC : wX p s m c cX7_rests _ wsX7_rests RX7 G := ⟨B0.exec, B0.bytes, findClass_of_methodNamed B0.named, atoms_spec (ws := wsX7_rests) B0.pre, hK, hL⟩
  have hx := hC.1
  have hb := hC.2.1
  have hts := hC.2.2.2.1
  have hinRX7 : ∀ w ∈ wsX70, w ∈ wsX7_rests := by decide +kernel
  have hk0 := hts (.fieldLink RX7 7 "RampShaftsModel" "s" "[I") (by decide +kernel)
  have hS : va_S (wA G) s.heap s.heap [] := va_S.rf
  have hl := lv_entry ([.ref (G.2.2.1 12 0), .int (nI k)]) (n := 2) (Nat.le_of_ble_eq_true rfl)
  rw [lg_entry_eq]
  generalize (lg_sl ([.ref (G.2.2.1 12 0), .int (nI k)]) ++ List.replicate (2 - (lg_sl ([.ref (G.2.2.1 12 0), .int (nI k)])).length) Slot.unset).toArray = ls at hl ⊢
  have hl : lv_has ls 2 [(0, .ref (G.2.2.1 12 0)), (1, .int (nI k))] := hl
  refine lv_aload_n hx hb dX7_rests_0 rfl (lv_at hl 0 rfl) ?_
  refine wr_get hC hinRX7 hW (vM (by decide)) ce_m0 rfl 0 (by decide) hk0 rfl dX7_rests_1 ?_
  refine lv_iload_n hx hb dX7_rests_4 rfl (lv_at hl 1 rfl) ?_
  refine lv_iconst (v := 5) hx hb dX7_rests_5 (by decide) ?_
  refine wc_s hC hml (kX7_at l G (wset Z 12 B) k 5) (cwS 2 hts gX7_rests_X7_at rfl rfl rfl (by decide +kernel) ⟨Nat.le_of_ble_eq_true rfl, Nat.le_of_ble_eq_true rfl⟩) hW hS rfl rfl hl.1 (Nat.le_of_ble_eq_true rfl) dX7_rests_6 (fun H locs hW hS => ?_)
  refine lv_re (y := nI (7 + 14 * k + 5)) rfl ?_
  refine wr_ald (kA := 0) hC hW (vM (by decide)) ce_m1 rfl (vp_in_nI (show (7 + 14 * k + 5) < 100 by omega) (by decide)) dX7_rests_9 ?_
  refine lv_re (y := B 1 (7 + 14 * k + 5)) ((congrArg (B 1) (nI_clamp (by omega)))) ?_
  refine lv_if_ne (tgt := 17) hx hb dX7_rests_10 (by decide) (fun c_1 => ?_) (fun c_1 => ?_)
  · skip
    refine lv_iconst (v := 0) hx hb dX7_rests_17 (by decide) ?_
    have hf : fX7_rests B k = 0 := (if_neg c_1).trans rfl
    exact we_z hC hr hlocks (by first | rfl | decide | assumption | exact nar_char_i _) hf.symm rfl hW hS dX7_rests_18
  · skip
    refine lv_iconst (v := 1) hx hb dX7_rests_13 (by decide) ?_
    refine lv_goto (tgt := 18) hx hb dX7_rests_14 (by decide) ?_
    have hf : fX7_rests B k = 1 := (if_pos c_1).trans rfl
    exact we_z hC hr hlocks (by first | rfl | decide | assumption | exact nar_char_i _) hf.symm rfl hW hS dX7_rests_18
def fX7_putAside (B : wB) : wB := rcp B 2 0 (B 1) 100
abbrev rX7_putAside : Room := { frames := 0, cells := 0, slots := 0, locals := 0 }
set_option maxHeartbeats 4000000 in
set_option maxRecDepth 100000 in
theorem kX7_putAside (l : Launch) (G : wG) (Z : wZ) (B : wB)   : mV l yX7_putAside wsX7_putAside rX7_putAside G [.ref (G.2.2.1 12 0)] (wset Z 12 B) (wset Z 12 (fX7_putAside B)) := by
  refine Met.ofW (cc := cX7_putAside) (maxL := 2) (ret := none) (by decide) rfl ?_
  intro p e s m args below meth c s₁ B0 hml hv
  obtain ⟨rfl, hW, hK, hL⟩ := hv
  have hlocks := B0.notSynchronized
  have hr := B0.returns
  have hC : wX p s m c cX7_putAside _ wsX7_putAside RX7 G := ⟨B0.exec, B0.bytes, findClass_of_methodNamed B0.named, atoms_spec (ws := wsX7_putAside) B0.pre, hK, hL⟩
  have hx := hC.1
  have hb := hC.2.1
  have hts := hC.2.2.2.1
  have hinRX7 : ∀ w ∈ wsX70, w ∈ wsX7_putAside := by decide +kernel
  have hk0 := hts (.fieldLink RX7 13 "RampShaftsModel" "aside" "[I") (by decide +kernel)
  have hk1 := hts (.fieldLink RX7 7 "RampShaftsModel" "s" "[I") (by decide +kernel)
  have hS : va_S (wA G) s.heap s.heap [] := va_S.rf
  have hl := lv_entry ([.ref (G.2.2.1 12 0)]) (n := 2) (Nat.le_of_ble_eq_true rfl)
  rw [lg_entry_eq]
  generalize (lg_sl ([.ref (G.2.2.1 12 0)]) ++ List.replicate (2 - (lg_sl ([.ref (G.2.2.1 12 0)])).length) Slot.unset).toArray = ls at hl ⊢
  have hl : lv_has ls 2 [(0, .ref (G.2.2.1 12 0))] := hl
  obtain ⟨R, hR⟩ : ∃ R, R = fX7_putAside B := ⟨_, rfl⟩
  rw [← hR]
  unfold fX7_putAside at hR
  refine lv_iconst (v := 0) hx hb dX7_putAside_0 (by decide) ?_
  rw [show wset Z 12 B = wset Z 12 (rcp B 2 0 (B 1) 0) from by rw [rcp_0]] at hW
  refine lv_istore_n (lv' := [(1, .int 0), (0, .ref (G.2.2.1 12 0))]) hx hb dX7_putAside_1 rfl hl (by decide) rfl (fun ls hl => ?_)
  have hlp_1 : ∀ (u : Nat) (k : Nat), (hk : k + u = 100) → R = rcp B 2 0 (B 1) 100 → ∀ (H : Heap) (locs : List Loc) (ls : Array Slot), wW G (wset Z 12 (rcp B 2 0 (B 1) k)) H → va_S (wA G) s.heap H locs → lv_has ls 2 [(0, .ref (G.2.2.1 12 0)), (1, .int (nI k))] → W p l e (headSpec wsX7_putAside rX7_putAside).room s m ([.ref (G.2.2.1 12 0)] : List Value).toArray below meth c H locs 0 0 (qV below ([.ref (G.2.2.1 12 0)] : List Value).toArray s G (wset Z 12 R)) (F0 m 2 ls []) := by
    intro u
    induction u with
    | zero =>
      intro k hk hR H locs ls hW hS hl
      have hk4 : k = 100 := by omega
      rw [hk4] at hW
      refine lv_iload_n hx hb dX7_putAside_2 rfl (lv_at hl 1 rfl) ?_
      refine lv_bipush (v := 100) hx hb dX7_putAside_3 (by decide) ?_
      refine lv_icmp_ge (tgt := 26) hx hb dX7_putAside_5 (by decide) (fun c_2 => ?_) (fun c_2 => ?_)
      · skip
        exact we_v hC hr hlocks (congrArg (wset Z 12) hR).symm hW hS dX7_putAside_26
      · exact absurd ((nI_leI (a := 100) (by decide) (by omega)).mpr (by omega)) c_2
    | succ u ih =>
      intro k hk hR H locs ls hW hS hl
      refine lv_iload_n hx hb dX7_putAside_2 rfl (lv_at hl 1 rfl) ?_
      refine lv_bipush (v := 100) hx hb dX7_putAside_3 (by decide) ?_
      refine lv_icmp_ge (tgt := 26) hx hb dX7_putAside_5 (by decide) (fun c_3 => ?_) (fun c_3 => ?_)
      · exact absurd ((nI_leI (a := 100) (by decide) (by omega)).mp c_3) (by omega)
      · skip
        refine lv_aload_n hx hb dX7_putAside_8 rfl (lv_at hl 0 rfl) ?_
        refine wr_get hC hinRX7 hW (vM (by decide)) ce_m0 rfl 1 (by decide) hk0 rfl dX7_putAside_9 ?_
        refine lv_iload_n hx hb dX7_putAside_12 rfl (lv_at hl 1 rfl) ?_
        refine lv_aload_n hx hb dX7_putAside_13 rfl (lv_at hl 0 rfl) ?_
        refine wr_get hC hinRX7 hW (vM (by decide)) ce_m0 rfl 0 (by decide) hk1 rfl dX7_putAside_14 ?_
        refine lv_iload_n hx hb dX7_putAside_17 rfl (lv_at hl 1 rfl) ?_
        refine wr_ald (kA := 0) hC hW (vM (by decide)) ce_m1 rfl (vp_in_nI (show k < 100 by omega) (by decide)) dX7_putAside_18 ?_
        refine lv_re (y := (rcp B 2 0 (B 1) k) 1 k) ((congrArg ((rcp B 2 0 (B 1) k) 1) (nI_clamp (by omega)))) ?_
        refine wr_ast (kA := 0) (Z' := wset Z 12 (bput (rcp B 2 0 (B 1) k) 2 (nI k).toNatClampNeg ((rcp B 2 0 (B 1) k) 1 k))) hC hW hS (vM (by decide)) ce_m2 rfl (vp_in_nI (show k < 100 by omega) (by decide)) wset_off pu_m2 dX7_putAside_19 (fun H locs hW hS => ?_)
        rw [nI_clamp (show k < 2 ^ 31 by omega)] at hW
        refine lv_iinc (v := nI (k + 1)) (lv' := [(1, .int (nI (k + 1))), (0, .ref (G.2.2.1 12 0))]) hx hb dX7_putAside_20 hl (k := 1) rfl (nI_1 _) (by decide) rfl (fun ls hl => ?_)
        refine lv_goto (tgt := 2) hx hb dX7_putAside_23 (by decide) ?_
        rw [rcp_s (by omega) (rcp_o (by decide))] at hW
        exact ih (k + 1) (by omega) hR _ _ _ hW hS (lv_sub hl [1, 0] rfl)
  exact hlp_1 100 0 rfl hR _ _ _ hW hS (lv_sub hl [1, 0] rfl)
def fX7_putBack (B : wB) : wB := rcp B 1 0 (B 2) 100
abbrev rX7_putBack : Room := { frames := 0, cells := 0, slots := 0, locals := 0 }
set_option maxHeartbeats 4000000 in
set_option maxRecDepth 100000 in
theorem kX7_putBack (l : Launch) (G : wG) (Z : wZ) (B : wB)   : mV l yX7_putBack wsX7_putBack rX7_putBack G [.ref (G.2.2.1 12 0)] (wset Z 12 B) (wset Z 12 (fX7_putBack B)) := by
  refine Met.ofW (cc := cX7_putBack) (maxL := 2) (ret := none) (by decide) rfl ?_
  intro p e s m args below meth c s₁ B0 hml hv
  obtain ⟨rfl, hW, hK, hL⟩ := hv
  have hlocks := B0.notSynchronized
  have hr := B0.returns
  have hC : wX p s m c cX7_putBack _ wsX7_putBack RX7 G := ⟨B0.exec, B0.bytes, findClass_of_methodNamed B0.named, atoms_spec (ws := wsX7_putBack) B0.pre, hK, hL⟩
  have hx := hC.1
  have hb := hC.2.1
  have hts := hC.2.2.2.1
  have hinRX7 : ∀ w ∈ wsX70, w ∈ wsX7_putBack := by decide +kernel
  have hk0 := hts (.fieldLink RX7 7 "RampShaftsModel" "s" "[I") (by decide +kernel)
  have hk1 := hts (.fieldLink RX7 13 "RampShaftsModel" "aside" "[I") (by decide +kernel)
  have hS : va_S (wA G) s.heap s.heap [] := va_S.rf
  have hl := lv_entry ([.ref (G.2.2.1 12 0)]) (n := 2) (Nat.le_of_ble_eq_true rfl)
  rw [lg_entry_eq]
  generalize (lg_sl ([.ref (G.2.2.1 12 0)]) ++ List.replicate (2 - (lg_sl ([.ref (G.2.2.1 12 0)])).length) Slot.unset).toArray = ls at hl ⊢
  have hl : lv_has ls 2 [(0, .ref (G.2.2.1 12 0))] := hl
  obtain ⟨R, hR⟩ : ∃ R, R = fX7_putBack B := ⟨_, rfl⟩
  rw [← hR]
  unfold fX7_putBack at hR
  refine lv_iconst (v := 0) hx hb dX7_putBack_0 (by decide) ?_
  rw [show wset Z 12 B = wset Z 12 (rcp B 1 0 (B 2) 0) from by rw [rcp_0]] at hW
  refine lv_istore_n (lv' := [(1, .int 0), (0, .ref (G.2.2.1 12 0))]) hx hb dX7_putBack_1 rfl hl (by decide) rfl (fun ls hl => ?_)
  have hlp_1 : ∀ (u : Nat) (k : Nat), (hk : k + u = 100) → R = rcp B 1 0 (B 2) 100 → ∀ (H : Heap) (locs : List Loc) (ls : Array Slot), wW G (wset Z 12 (rcp B 1 0 (B 2) k)) H → va_S (wA G) s.heap H locs → lv_has ls 2 [(0, .ref (G.2.2.1 12 0)), (1, .int (nI k))] → W p l e (headSpec wsX7_putBack rX7_putBack).room s m ([.ref (G.2.2.1 12 0)] : List Value).toArray below meth c H locs 0 0 (qV below ([.ref (G.2.2.1 12 0)] : List Value).toArray s G (wset Z 12 R)) (F0 m 2 ls []) := by
    intro u
    induction u with
    | zero =>
      intro k hk hR H locs ls hW hS hl
      have hk4 : k = 100 := by omega
      rw [hk4] at hW
      refine lv_iload_n hx hb dX7_putBack_2 rfl (lv_at hl 1 rfl) ?_
      refine lv_bipush (v := 100) hx hb dX7_putBack_3 (by decide) ?_
      refine lv_icmp_ge (tgt := 26) hx hb dX7_putBack_5 (by decide) (fun c_2 => ?_) (fun c_2 => ?_)
      · skip
        exact we_v hC hr hlocks (congrArg (wset Z 12) hR).symm hW hS dX7_putBack_26
      · exact absurd ((nI_leI (a := 100) (by decide) (by omega)).mpr (by omega)) c_2
    | succ u ih =>
      intro k hk hR H locs ls hW hS hl
      refine lv_iload_n hx hb dX7_putBack_2 rfl (lv_at hl 1 rfl) ?_
      refine lv_bipush (v := 100) hx hb dX7_putBack_3 (by decide) ?_
      refine lv_icmp_ge (tgt := 26) hx hb dX7_putBack_5 (by decide) (fun c_3 => ?_) (fun c_3 => ?_)
      · exact absurd ((nI_leI (a := 100) (by decide) (by omega)).mp c_3) (by omega)
      · skip
        refine lv_aload_n hx hb dX7_putBack_8 rfl (lv_at hl 0 rfl) ?_
        refine wr_get hC hinRX7 hW (vM (by decide)) ce_m0 rfl 0 (by decide) hk0 rfl dX7_putBack_9 ?_
        refine lv_iload_n hx hb dX7_putBack_12 rfl (lv_at hl 1 rfl) ?_
        refine lv_aload_n hx hb dX7_putBack_13 rfl (lv_at hl 0 rfl) ?_
        refine wr_get hC hinRX7 hW (vM (by decide)) ce_m0 rfl 1 (by decide) hk1 rfl dX7_putBack_14 ?_
        refine lv_iload_n hx hb dX7_putBack_17 rfl (lv_at hl 1 rfl) ?_
        refine wr_ald (kA := 0) hC hW (vM (by decide)) ce_m2 rfl (vp_in_nI (show k < 100 by omega) (by decide)) dX7_putBack_18 ?_
        refine lv_re (y := (rcp B 1 0 (B 2) k) 2 k) ((congrArg ((rcp B 1 0 (B 2) k) 2) (nI_clamp (by omega)))) ?_
        refine wr_ast (kA := 0) (Z' := wset Z 12 (bput (rcp B 1 0 (B 2) k) 1 (nI k).toNatClampNeg ((rcp B 1 0 (B 2) k) 2 k))) hC hW hS (vM (by decide)) ce_m1 rfl (vp_in_nI (show k < 100 by omega) (by decide)) wset_off pu_m1 dX7_putBack_19 (fun H locs hW hS => ?_)
        rw [nI_clamp (show k < 2 ^ 31 by omega)] at hW
        refine lv_iinc (v := nI (k + 1)) (lv' := [(1, .int (nI (k + 1))), (0, .ref (G.2.2.1 12 0))]) hx hb dX7_putBack_20 hl (k := 1) rfl (nI_1 _) (by decide) rfl (fun ls hl => ?_)
        refine lv_goto (tgt := 2) hx hb dX7_putBack_23 (by decide) ?_
        rw [rcp_s (by omega) (rcp_o (by decide))] at hW
        exact ih (k + 1) (by omega) hR _ _ _ hW hS (lv_sub hl [1, 0] rfl)
  exact hlp_1 100 0 rfl hR _ _ _ hW hS (lv_sub hl [1, 0] rfl)

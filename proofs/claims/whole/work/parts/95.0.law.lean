/-! THE LAW'S LOOP, for any relation LR that the calls keep. sZ: the class has answered q and the reference r, out of Z. -/
def sZ (LR : wZ → Prop) (Z : wZ) (q : wZ × Int32) (r : wB × Int32) : Prop := q.1 12 = Z 12 ∧ q.2 = r.2 ∧ LR (wset q.1 12 r.1)
/-- what the reference's contracts ask of its group -/
def lB (B : wB) : Prop := bJ B ∧ (0 ≤ (B 0 0).toInt ∧ (B 0 0).toInt ≤ 6) ∧ (0 ≤ (B 0 1).toInt ∧ (B 0 1).toInt ≤ 80)
abbrev sT_set (LR : wZ → Prop) : Prop := ∀ Z (a1 a2 : Int32), LR Z → sZ LR Z (fX6_set Z a1 a2) (fX7_set (Z 12) a1 a2)
abbrev sT_shaft (LR : wZ → Prop) : Prop := ∀ Z (a1 : Int32), LR Z → sZ LR Z (fX6_shaft Z a1) (fX7_shaft (Z 12) a1)
abbrev sT_load (LR : wZ → Prop) : Prop := ∀ Z (a1 a2 : Int32), LR Z → sZ LR Z (fX6_load Z a1 a2) (fX7_load (Z 12) a1 a2)
abbrev sT_move (LR : wZ → Prop) : Prop := ∀ Z (a1 a2 : Int32), LR Z → sZ LR Z (fX6_move Z a1 a2) (fX7_move (Z 12) a1 a2)
abbrev sT_plan (LR : wZ → Prop) : Prop := ∀ Z (a1 a2 a3 : Int32), LR Z → sZ LR Z (fX6_plan Z a1 a2 a3) (fX7_plan (Z 12) a1 a2 a3)
abbrev sT_stop (LR : wZ → Prop) : Prop := ∀ Z (a1 : Int32), LR Z → sZ LR Z (fX6_stop Z a1) (fX7_stop (Z 12) a1)
abbrev sT_home (LR : wZ → Prop) : Prop := ∀ Z (a1 : Int32), LR Z → sZ LR Z (fX6_home Z a1) (fX7_home (Z 12) a1)
abbrev sT_pass (LR : wZ → Prop) : Prop := ∀ Z (a1 : Int32), LR Z → sZ LR Z (fX6_pass Z a1) (fX7_pass (Z 12) a1)
abbrev sT_of (LR : wZ → Prop) : Prop := ∀ Z (a1 a2 : Int32), LR Z → sZ LR Z (Z, fX6_of Z a1 a2) (Z 12, fX7_of (Z 12) a1 a2)
abbrev sT_waiting (LR : wZ → Prop) : Prop := ∀ Z (a1 a2 : Int32), LR Z → sZ LR Z (Z, fX6_waiting Z a1 a2) (Z 12, fX7_waiting (Z 12) a1 a2)
abbrev sT_planned (LR : wZ → Prop) : Prop := ∀ Z (a1 a2 : Int32), LR Z → sZ LR Z (Z, fX6_planned Z a1 a2) (Z 12, fX7_planned (Z 12) a1 a2)
abbrev sT_count (LR : wZ → Prop) : Prop := ∀ Z (a1 : Int32), LR Z → sZ LR Z (Z, fX6_count Z a1) (Z 12, fX7_count (Z 12) a1)
abbrev sT_interval (LR : wZ → Prop) : Prop := ∀ Z (a1 : Int32), LR Z → sZ LR Z (Z, fX6_interval Z a1) (Z 12, fX7_interval (Z 12) a1)
abbrev sT_restsIn (LR : wZ → Prop) : Prop := ∀ Z (a1 : Int32), LR Z → sZ LR Z (fX6_restsIn Z a1) (fX7_restsIn (Z 12) a1)
abbrev sT_stopsAt (LR : wZ → Prop) : Prop := ∀ Z (a1 : Int32), LR Z → sZ LR Z (Z, fX6_stopsAt Z a1) (Z 12, fX7_stopsAt (Z 12) a1)
abbrev sT_nextStep (LR : wZ → Prop) : Prop := ∀ Z (a1 a2 : Int32), LR Z → sZ LR Z (fX6_nextStep Z a1 a2) (fX7_nextStep (Z 12) a1 a2)
abbrev sT_moveOf (LR : wZ → Prop) : Prop := ∀ Z (a1 a2 : Int32), LR Z → sZ LR Z (Z, fX6_moveOf Z a1 a2) (Z 12, fX7_moveOf (Z 12) a1 a2)
abbrev sT_bestGain (LR : wZ → Prop) : Prop := ∀ Z (a1 a2 : Int32), LR Z → sZ LR Z (fX6_bestGain Z a1 a2) (Z 12, fX7_bestGain (Z 12) a1 a2)
abbrev sT_bears (LR : wZ → Prop) : Prop := ∀ Z (a1 : Int32), LR Z → sZ LR Z (Z, fX6_bears Z a1) (Z 12, fX7_bears (Z 12) a1)
abbrev sT_put (LR : wZ → Prop) : Prop := ∀ Z (a1 : Int64), LR Z → sZ LR Z (fX6_put Z a1) (fX7_put (Z 12) a1)
abbrev sT_wipe (LR : wZ → Prop) : Prop := ∀ Z : wZ, LR Z → sZ LR Z (fX6_wipe Z) (fX7_wipe (Z 12))
abbrev sT_fault (LR : wZ → Prop) : Prop := ∀ Z : wZ, LR Z → sZ LR Z (fX6_fault Z) (fX7_fault (Z 12))
abbrev sT_carryOut (LR : wZ → Prop) : Prop := ∀ Z : wZ, LR Z → sZ LR Z (fX6_carryOut Z) (fX7_carryOut (Z 12))
abbrev sT_undo (LR : wZ → Prop) : Prop := ∀ Z : wZ, LR Z → sZ LR Z (fX6_undo Z) (fX7_undo (Z 12))
abbrev sT_save (LR : wZ → Prop) : Prop := ∀ Z (a1 : Int32), LR Z → sZ LR Z (fX6_save Z a1) (fX7_save (Z 12) a1)
abbrev sT_restore (LR : wZ → Prop) : Prop := ∀ Z (a1 : Int32), LR Z → sZ LR Z (fX6_restore Z a1) (fX7_restore (Z 12) a1)
def lS (LR : wZ → Prop) : Prop :=
  (∀ Z, LR Z → lB (Z 12)) ∧ sT_set LR ∧ sT_shaft LR ∧ sT_load LR ∧ sT_move LR ∧ sT_plan LR ∧ sT_stop LR ∧ sT_home LR ∧ sT_pass LR ∧ sT_of LR ∧ sT_waiting LR ∧ sT_planned LR ∧ sT_count LR ∧ sT_interval LR ∧ sT_restsIn LR ∧ sT_stopsAt LR ∧ sT_nextStep LR ∧ sT_moveOf LR ∧ sT_bestGain LR ∧ sT_bears LR ∧ sT_put LR ∧ sT_wipe LR ∧ sT_fault LR ∧ sT_carryOut LR ∧ sT_undo LR ∧ sT_save LR ∧ sT_restore LR
section LW
variable {p : Program} {l : Launch} {e : Env} {R : Room} {s : State} {m : MethodId} {args : Array Value} {below : List Frame} {meth : Method} {c : Code} {H : Heap} {locs : List Loc} {cells slots : Nat} {Q : State → Prop}
variable {cc : ByteArray} {pc : Nat} {ls : Array Slot} {rest : List Value} {Ts : List Cond} {own : String} {G : wG} {Z Z' : wZ} {i j ci : Nat} {H0 : Heap}
variable {y : MethodName} {bytes : ByteArray} {maxL nL n index : Nat} {ret : Option FieldType} {ws : List Cond} {rm : Room} {C : String} {As : List Value} {r : Int32}
/-- wc_i, whatever room is used -/
theorem wc_il (hC : wX p s m c cc args Ts own G) (hml : c.maxLocals = nL) (hM : mI l y ws rm G (.ref (G.2.2.1 i j) :: As) Z r Z') (cw : CallW R s args own C index y bytes maxL ret ws rm 0 0 n) (hW : wW G Z H) (hS : va_S (wA G) H0 H locs) (hV : wV i j) {fs : List Value} (he : wE G Z i j = .inr (ci, fs)) {q : vw_C} (hc : vwCl[ci]? = some q) (hq : q.1 = C) {st : List Value}
    (hn : As.length = n) (hst : st = As.reverse ++ .ref (G.2.2.1 i j) :: rest) (hsz : ls.size = nL) (hr : (rest.map fun v => v.category).sum ≤ 8) (hf : cells + 0 ≤ R.cells ∧ slots + 0 ≤ R.slots) (hdg : decode cc pc = .ok (.invokevirtual index, 3))
    (kk : ∀ (H1 : Heap) (locs1 : List Loc), wW G Z' H1 → va_S (wA G) H0 H1 locs1 → W p l e R s m args below meth c H1 locs1 cells slots Q (F0 m (pc + 3) ls (.int r :: rest))) : W p l e R s m args below meth c H locs cells slots Q (F0 m pc ls st) := by
  refine va_calli (va_runV (wx_fix hC hml) hM cw (wx_preV hC hW hV he hc hq) rfl hn hsz hst (lv_room hr) hdg hf) hS (fun _ _ h => h) (fun _ h => h) (fun r' u t H1 locs1 ht hvm hp hB hz hk hS1 => ?_)
  subst hp; subst ht
  exact kk _ _ hB.1 hS1
end LW
theorem we_s0 {G : wG} {Z : wZ} : wE G Z 11 0 = .inr (6, [.ref (G.2.2.1 0 0), .ref (G.2.2.1 1 0), .ref (G.2.2.1 11 1), .ref (G.2.2.1 11 3), .ref (G.2.2.1 11 4), .ref (G.2.2.1 11 5), .ref (G.2.2.1 11 6)]) := by
  have h := ce_s0 (G := G) (Z := Z) (B := Z 11)
  rw [wset_self] at h
  exact h

def ms0 : Nat → Int32 := upd (upd (upd (upd (upd (fun _ => 0) 0 60) 1 10) 2 10) 3 4) 4 2
abbrev hl7 (G : wG) (u : Nat → Nat) : va_W := [((u 0), .inr (7, [.ref (u 1), .ref (u 2), .ref (u 3), .int 0, .ref (u 4), .ref (u 5), .ref (u 6), .int 0, .int (-1), .int 0, .int 0, .int 0, .int 0, .int 0, .int 0, .int 0, .int 0])), ((u 1), .inl (G.2.1 0, 100, .inl ms0)), ((u 2), .inl (G.2.1 0, 100, .inl (fun _ => 0))), ((u 3), .inl (G.2.1 0, 600, .inl (fun _ => 0))), ((u 4), .inl (G.2.1 0, 200, .inl (fun _ => 0))), ((u 5), .inl (G.2.1 1, 2, .inl (fun _ => 0))), ((u 6), .inl (G.2.1 0, 80, .inl (fun _ => 0)))]
abbrev rX7_init : Room := { frames := 1, cells := 6, slots := 1082, locals := 12 }
set_option maxHeartbeats 4000000 in
set_option maxRecDepth 100000 in
theorem kX7_init (l : Launch) (G : wG) (h0 sz : Nat) : Met l yX7_init wsX7_init rX7_init (va_Pc [.ref h0] (wN G sz [(h0, .inr (7, [.null, .null, .null, .int 0, .null, .null, .null, .int 0, .int 0, .int 0, .int 0, .int 0, .int 0, .int 0, .int 0, .int 0, .int 0]))])) (va_Qv (fun (u : Nat → Nat) => u 0 = h0) (fun u t => va_P G.1 vwCl (hl7 G u) t.heap ∧ va_K G.1 vwCl (wT G) t ∧ va_D (va_A [(h0, .inr (7, [.null, .null, .null, .int 0, .null, .null, .null, .int 0, .int 0, .int 0, .int 0, .int 0, .int 0, .int 0, .int 0, .int 0, .int 0]))] sz) (hl7 G u)) (va_A [(h0, .inr (7, [.null, .null, .null, .int 0, .null, .null, .null, .int 0, .int 0, .int 0, .int 0, .int 0, .int 0, .int 0, .int 0, .int 0, .int 0]))] sz)) 6 1082 (va_A [(h0, .inr (7, [.null, .null, .null, .int 0, .null, .null, .null, .int 0, .int 0, .int 0, .int 0, .int 0, .int 0, .int 0, .int 0, .int 0, .int 0]))] sz) := by
  refine Met.ofW (cc := cX7_init) (maxL := 1) (ret := none) (by decide) rfl ?_
  intro p e s m args below meth c s₁ B hml hv
  obtain ⟨rfl, hsz, hP, hK, hD0, hO5, hO0, hNe⟩ := hv
  have hx := B.exec
  have hb := B.bytes
  have hr := B.returns
  have hts := atoms_spec (ws := wsX7_init) B.pre
  have hown : s.vm.findClass RX7 = some m.cls := findClass_of_methodNamed B.named
  have hlocks := B.notSynchronized
  have hin : meth.name = "<init>" := (name_of_methodNamed B.named B.method).1
  subst hsz
  have hD := hD0.self (sz := s.heap.size)
  generalize hAe : va_A [(h0, .inr (7, [.null, .null, .null, .int 0, .null, .null, .null, .int 0, .int 0, .int 0, .int 0, .int 0, .int 0, .int 0, .int 0, .int 0, .int 0]))] s.heap.size = A at hD ⊢
  have hA : ∀ q : Nat, s.heap.size ≤ q → A q := fun q h => by rw [← hAe]; exact Or.inr h
  have hS : va_S A s.heap s.heap [] := va_S.rf
  have hinRX7 : ∀ w ∈ wsX70, w ∈ wsX7_init := by decide +kernel
  have hk0 := hts (.methodLink RX7 1 objectInit) (by decide +kernel)
  have hk1 := hts (.instanceMethod objectInit) (by decide +kernel)
  have hk2 := hts (.code objectInit ⟨#[0xb1]⟩ 1 none) (by decide +kernel)
  have hk3 := hts (.arrayClass .int) (by decide +kernel)
  have hk4 := hts (.fieldLink RX7 7 "RampShaftsModel" "s" "[I") (by decide +kernel)
  have hk5 := hts (.fieldLink RX7 13 "RampShaftsModel" "aside" "[I") (by decide +kernel)
  have hk6 := hts (.fieldLink RX7 16 "RampShaftsModel" "before" "[I") (by decide +kernel)
  have hk7 := hts (.fieldLink RX7 19 "RampShaftsModel" "slots" "[I") (by decide +kernel)
  have hk8 := hts (.arrayClass .boolean) (by decide +kernel)
  have hk9 := hts (.fieldLink RX7 22 "RampShaftsModel" "isSaved" "[Z") (by decide +kernel)
  have hk10 := hts (.fieldLink RX7 26 "RampShaftsModel" "pad" "[I") (by decide +kernel)
  have hk11 := hts (.fieldLink RX7 29 "RampShaftsModel" "passed" "I") (by decide +kernel)
  have hl := lv_entry ([.ref h0]) (n := 1) (Nat.le_of_ble_eq_true rfl)
  rw [lg_entry_eq]
  generalize (lg_sl ([.ref h0]) ++ List.replicate (1 - (lg_sl ([.ref h0])).length) Slot.unset).toArray = ls at hl ⊢
  have hl : lv_has ls 1 [(0, .ref h0)] := hl
  refine lv_aload_n hx hb dX7_init_0 rfl (lv_at hl 0 rfl) ?_
  refine W.objInit hx hb hown hk0 hk1 hk2 rfl (by rw [hml]; exact hl.1) rfl dX7_init_1 (Nat.le_of_ble_eq_true rfl) (Nat.le_of_ble_eq_true rfl) ?_
  refine W.eq (g2 := F0 m 4 ls []) rfl ?_
  refine lv_aload_n hx hb dX7_init_4 rfl (lv_at hl 0 rfl) ?_
  refine lv_bipush (v := 100) hx hb dX7_init_5 (by decide) ?_
  refine wn_i (N' := 100) hx hb hk3 hK hP hD hS hA (by decide) (by decide) (Nat.le_of_ble_eq_true rfl) (Nat.le_of_ble_eq_true rfl) (Nat.le_of_ble_eq_true rfl) dX7_init_7 (fun q1 H hP hD hS => ?_)
  have hP : va_P G.1 vwCl [(h0, .inr (7, [.null, .null, .null, .int 0, .null, .null, .null, .int 0, .int 0, .int 0, .int 0, .int 0, .int 0, .int 0, .int 0, .int 0, .int 0])), (q1, .inl (G.2.1 0, 100, .inl (fun _ => 0)))] H := hP
  have hD : va_D A [(h0, .inr (7, [.null, .null, .null, .int 0, .null, .null, .null, .int 0, .int 0, .int 0, .int 0, .int 0, .int 0, .int 0, .int 0, .int 0, .int 0])), (q1, .inl (G.2.1 0, 100, .inl (fun _ => 0)))] := hD
  refine W.widen (k := 1) (n := 100) (by omega) (by omega) ?_
  refine va_putF (D := G.1) (tys := wT G) (ci := 7) (v := .ref q1) (C := RX7) (T := TX7) (N := 17) hx hb hts hinRX7 tyX7 tyX7_ok nmX7 hown hK hP hD hS 0 rfl rfl 0 (by decide) hk4 (fun _ h9 => h9) rfl hin rfl (tyX7_ok 0 (by decide)) rfl rfl (Nat.le_of_ble_eq_true rfl) dX7_init_9 (fun H locs hP hD hS => ?_)
  have hP : va_P G.1 vwCl [(h0, .inr (7, [.ref q1, .null, .null, .int 0, .null, .null, .null, .int 0, .int 0, .int 0, .int 0, .int 0, .int 0, .int 0, .int 0, .int 0, .int 0])), (q1, .inl (G.2.1 0, 100, .inl (fun _ => 0)))] H := hP
  have hD : va_D A [(h0, .inr (7, [.ref q1, .null, .null, .int 0, .null, .null, .null, .int 0, .int 0, .int 0, .int 0, .int 0, .int 0, .int 0, .int 0, .int 0, .int 0])), (q1, .inl (G.2.1 0, 100, .inl (fun _ => 0)))] := hD
  refine lv_aload_n hx hb dX7_init_12 rfl (lv_at hl 0 rfl) ?_
  refine lv_bipush (v := 100) hx hb dX7_init_13 (by decide) ?_
  refine wn_i (N' := 100) hx hb hk3 hK hP hD hS hA (by decide) (by decide) (Nat.le_of_ble_eq_true rfl) (Nat.le_of_ble_eq_true rfl) (Nat.le_of_ble_eq_true rfl) dX7_init_15 (fun q2 H hP hD hS => ?_)
  have hP : va_P G.1 vwCl [(h0, .inr (7, [.ref q1, .null, .null, .int 0, .null, .null, .null, .int 0, .int 0, .int 0, .int 0, .int 0, .int 0, .int 0, .int 0, .int 0, .int 0])), (q1, .inl (G.2.1 0, 100, .inl (fun _ => 0))), (q2, .inl (G.2.1 0, 100, .inl (fun _ => 0)))] H := hP
  have hD : va_D A [(h0, .inr (7, [.ref q1, .null, .null, .int 0, .null, .null, .null, .int 0, .int 0, .int 0, .int 0, .int 0, .int 0, .int 0, .int 0, .int 0, .int 0])), (q1, .inl (G.2.1 0, 100, .inl (fun _ => 0))), (q2, .inl (G.2.1 0, 100, .inl (fun _ => 0)))] := hD
  refine W.widen (k := 2) (n := 200) (by omega) (by omega) ?_
  refine va_putF (D := G.1) (tys := wT G) (ci := 7) (v := .ref q2) (C := RX7) (T := TX7) (N := 17) hx hb hts hinRX7 tyX7 tyX7_ok nmX7 hown hK hP hD hS 0 rfl rfl 1 (by decide) hk5 (fun _ h9 => h9) rfl hin rfl (tyX7_ok 1 (by decide)) rfl rfl (Nat.le_of_ble_eq_true rfl) dX7_init_17 (fun H locs hP hD hS => ?_)
  have hP : va_P G.1 vwCl [(h0, .inr (7, [.ref q1, .ref q2, .null, .int 0, .null, .null, .null, .int 0, .int 0, .int 0, .int 0, .int 0, .int 0, .int 0, .int 0, .int 0, .int 0])), (q1, .inl (G.2.1 0, 100, .inl (fun _ => 0))), (q2, .inl (G.2.1 0, 100, .inl (fun _ => 0)))] H := hP
  have hD : va_D A [(h0, .inr (7, [.ref q1, .ref q2, .null, .int 0, .null, .null, .null, .int 0, .int 0, .int 0, .int 0, .int 0, .int 0, .int 0, .int 0, .int 0, .int 0])), (q1, .inl (G.2.1 0, 100, .inl (fun _ => 0))), (q2, .inl (G.2.1 0, 100, .inl (fun _ => 0)))] := hD
  refine lv_aload_n hx hb dX7_init_20 rfl (lv_at hl 0 rfl) ?_
  refine lv_sipush (v := 600) hx hb dX7_init_21 (by decide) ?_
  refine wn_i (N' := 600) hx hb hk3 hK hP hD hS hA (by decide) (by decide) (Nat.le_of_ble_eq_true rfl) (Nat.le_of_ble_eq_true rfl) (Nat.le_of_ble_eq_true rfl) dX7_init_24 (fun q3 H hP hD hS => ?_)
  have hP : va_P G.1 vwCl [(h0, .inr (7, [.ref q1, .ref q2, .null, .int 0, .null, .null, .null, .int 0, .int 0, .int 0, .int 0, .int 0, .int 0, .int 0, .int 0, .int 0, .int 0])), (q1, .inl (G.2.1 0, 100, .inl (fun _ => 0))), (q2, .inl (G.2.1 0, 100, .inl (fun _ => 0))), (q3, .inl (G.2.1 0, 600, .inl (fun _ => 0)))] H := hP
  have hD : va_D A [(h0, .inr (7, [.ref q1, .ref q2, .null, .int 0, .null, .null, .null, .int 0, .int 0, .int 0, .int 0, .int 0, .int 0, .int 0, .int 0, .int 0, .int 0])), (q1, .inl (G.2.1 0, 100, .inl (fun _ => 0))), (q2, .inl (G.2.1 0, 100, .inl (fun _ => 0))), (q3, .inl (G.2.1 0, 600, .inl (fun _ => 0)))] := hD
  refine W.widen (k := 3) (n := 800) (by omega) (by omega) ?_
  refine va_putF (D := G.1) (tys := wT G) (ci := 7) (v := .ref q3) (C := RX7) (T := TX7) (N := 17) hx hb hts hinRX7 tyX7 tyX7_ok nmX7 hown hK hP hD hS 0 rfl rfl 2 (by decide) hk6 (fun _ h9 => h9) rfl hin rfl (tyX7_ok 2 (by decide)) rfl rfl (Nat.le_of_ble_eq_true rfl) dX7_init_26 (fun H locs hP hD hS => ?_)
  have hP : va_P G.1 vwCl [(h0, .inr (7, [.ref q1, .ref q2, .ref q3, .int 0, .null, .null, .null, .int 0, .int 0, .int 0, .int 0, .int 0, .int 0, .int 0, .int 0, .int 0, .int 0])), (q1, .inl (G.2.1 0, 100, .inl (fun _ => 0))), (q2, .inl (G.2.1 0, 100, .inl (fun _ => 0))), (q3, .inl (G.2.1 0, 600, .inl (fun _ => 0)))] H := hP
  have hD : va_D A [(h0, .inr (7, [.ref q1, .ref q2, .ref q3, .int 0, .null, .null, .null, .int 0, .int 0, .int 0, .int 0, .int 0, .int 0, .int 0, .int 0, .int 0, .int 0])), (q1, .inl (G.2.1 0, 100, .inl (fun _ => 0))), (q2, .inl (G.2.1 0, 100, .inl (fun _ => 0))), (q3, .inl (G.2.1 0, 600, .inl (fun _ => 0)))] := hD
  refine lv_aload_n hx hb dX7_init_29 rfl (lv_at hl 0 rfl) ?_
  refine lv_sipush (v := 200) hx hb dX7_init_30 (by decide) ?_
  refine wn_i (N' := 200) hx hb hk3 hK hP hD hS hA (by decide) (by decide) (Nat.le_of_ble_eq_true rfl) (Nat.le_of_ble_eq_true rfl) (Nat.le_of_ble_eq_true rfl) dX7_init_33 (fun q4 H hP hD hS => ?_)
  have hP : va_P G.1 vwCl [(h0, .inr (7, [.ref q1, .ref q2, .ref q3, .int 0, .null, .null, .null, .int 0, .int 0, .int 0, .int 0, .int 0, .int 0, .int 0, .int 0, .int 0, .int 0])), (q1, .inl (G.2.1 0, 100, .inl (fun _ => 0))), (q2, .inl (G.2.1 0, 100, .inl (fun _ => 0))), (q3, .inl (G.2.1 0, 600, .inl (fun _ => 0))), (q4, .inl (G.2.1 0, 200, .inl (fun _ => 0)))] H := hP
  have hD : va_D A [(h0, .inr (7, [.ref q1, .ref q2, .ref q3, .int 0, .null, .null, .null, .int 0, .int 0, .int 0, .int 0, .int 0, .int 0, .int 0, .int 0, .int 0, .int 0])), (q1, .inl (G.2.1 0, 100, .inl (fun _ => 0))), (q2, .inl (G.2.1 0, 100, .inl (fun _ => 0))), (q3, .inl (G.2.1 0, 600, .inl (fun _ => 0))), (q4, .inl (G.2.1 0, 200, .inl (fun _ => 0)))] := hD
  refine W.widen (k := 4) (n := 1000) (by omega) (by omega) ?_
  refine va_putF (D := G.1) (tys := wT G) (ci := 7) (v := .ref q4) (C := RX7) (T := TX7) (N := 17) hx hb hts hinRX7 tyX7 tyX7_ok nmX7 hown hK hP hD hS 0 rfl rfl 4 (by decide) hk7 (fun _ h9 => h9) rfl hin rfl (tyX7_ok 4 (by decide)) rfl rfl (Nat.le_of_ble_eq_true rfl) dX7_init_35 (fun H locs hP hD hS => ?_)
  have hP : va_P G.1 vwCl [(h0, .inr (7, [.ref q1, .ref q2, .ref q3, .int 0, .ref q4, .null, .null, .int 0, .int 0, .int 0, .int 0, .int 0, .int 0, .int 0, .int 0, .int 0, .int 0])), (q1, .inl (G.2.1 0, 100, .inl (fun _ => 0))), (q2, .inl (G.2.1 0, 100, .inl (fun _ => 0))), (q3, .inl (G.2.1 0, 600, .inl (fun _ => 0))), (q4, .inl (G.2.1 0, 200, .inl (fun _ => 0)))] H := hP
  have hD : va_D A [(h0, .inr (7, [.ref q1, .ref q2, .ref q3, .int 0, .ref q4, .null, .null, .int 0, .int 0, .int 0, .int 0, .int 0, .int 0, .int 0, .int 0, .int 0, .int 0])), (q1, .inl (G.2.1 0, 100, .inl (fun _ => 0))), (q2, .inl (G.2.1 0, 100, .inl (fun _ => 0))), (q3, .inl (G.2.1 0, 600, .inl (fun _ => 0))), (q4, .inl (G.2.1 0, 200, .inl (fun _ => 0)))] := hD
  refine lv_aload_n hx hb dX7_init_38 rfl (lv_at hl 0 rfl) ?_
  refine lv_iconst (v := 2) hx hb dX7_init_39 (by decide) ?_
  refine wn_z (N' := 2) hx hb hk8 hK hP hD hS hA (by decide) (by decide) (Nat.le_of_ble_eq_true rfl) (Nat.le_of_ble_eq_true rfl) (Nat.le_of_ble_eq_true rfl) dX7_init_40 (fun q5 H hP hD hS => ?_)
  have hP : va_P G.1 vwCl [(h0, .inr (7, [.ref q1, .ref q2, .ref q3, .int 0, .ref q4, .null, .null, .int 0, .int 0, .int 0, .int 0, .int 0, .int 0, .int 0, .int 0, .int 0, .int 0])), (q1, .inl (G.2.1 0, 100, .inl (fun _ => 0))), (q2, .inl (G.2.1 0, 100, .inl (fun _ => 0))), (q3, .inl (G.2.1 0, 600, .inl (fun _ => 0))), (q4, .inl (G.2.1 0, 200, .inl (fun _ => 0))), (q5, .inl (G.2.1 1, 2, .inl (fun _ => 0)))] H := hP
  have hD : va_D A [(h0, .inr (7, [.ref q1, .ref q2, .ref q3, .int 0, .ref q4, .null, .null, .int 0, .int 0, .int 0, .int 0, .int 0, .int 0, .int 0, .int 0, .int 0, .int 0])), (q1, .inl (G.2.1 0, 100, .inl (fun _ => 0))), (q2, .inl (G.2.1 0, 100, .inl (fun _ => 0))), (q3, .inl (G.2.1 0, 600, .inl (fun _ => 0))), (q4, .inl (G.2.1 0, 200, .inl (fun _ => 0))), (q5, .inl (G.2.1 1, 2, .inl (fun _ => 0)))] := hD
  refine W.widen (k := 5) (n := 1002) (by omega) (by omega) ?_
  refine va_putF (D := G.1) (tys := wT G) (ci := 7) (v := .ref q5) (C := RX7) (T := TX7) (N := 17) hx hb hts hinRX7 tyX7 tyX7_ok nmX7 hown hK hP hD hS 0 rfl rfl 5 (by decide) hk9 (fun _ h9 => h9) rfl hin rfl (tyX7_ok 5 (by decide)) rfl rfl (Nat.le_of_ble_eq_true rfl) dX7_init_42 (fun H locs hP hD hS => ?_)
  have hP : va_P G.1 vwCl [(h0, .inr (7, [.ref q1, .ref q2, .ref q3, .int 0, .ref q4, .ref q5, .null, .int 0, .int 0, .int 0, .int 0, .int 0, .int 0, .int 0, .int 0, .int 0, .int 0])), (q1, .inl (G.2.1 0, 100, .inl (fun _ => 0))), (q2, .inl (G.2.1 0, 100, .inl (fun _ => 0))), (q3, .inl (G.2.1 0, 600, .inl (fun _ => 0))), (q4, .inl (G.2.1 0, 200, .inl (fun _ => 0))), (q5, .inl (G.2.1 1, 2, .inl (fun _ => 0)))] H := hP
  have hD : va_D A [(h0, .inr (7, [.ref q1, .ref q2, .ref q3, .int 0, .ref q4, .ref q5, .null, .int 0, .int 0, .int 0, .int 0, .int 0, .int 0, .int 0, .int 0, .int 0, .int 0])), (q1, .inl (G.2.1 0, 100, .inl (fun _ => 0))), (q2, .inl (G.2.1 0, 100, .inl (fun _ => 0))), (q3, .inl (G.2.1 0, 600, .inl (fun _ => 0))), (q4, .inl (G.2.1 0, 200, .inl (fun _ => 0))), (q5, .inl (G.2.1 1, 2, .inl (fun _ => 0)))] := hD
  refine lv_aload_n hx hb dX7_init_45 rfl (lv_at hl 0 rfl) ?_
  refine lv_bipush (v := 80) hx hb dX7_init_46 (by decide) ?_
  refine wn_i (N' := 80) hx hb hk3 hK hP hD hS hA (by decide) (by decide) (Nat.le_of_ble_eq_true rfl) (Nat.le_of_ble_eq_true rfl) (Nat.le_of_ble_eq_true rfl) dX7_init_48 (fun q6 H hP hD hS => ?_)
  have hP : va_P G.1 vwCl [(h0, .inr (7, [.ref q1, .ref q2, .ref q3, .int 0, .ref q4, .ref q5, .null, .int 0, .int 0, .int 0, .int 0, .int 0, .int 0, .int 0, .int 0, .int 0, .int 0])), (q1, .inl (G.2.1 0, 100, .inl (fun _ => 0))), (q2, .inl (G.2.1 0, 100, .inl (fun _ => 0))), (q3, .inl (G.2.1 0, 600, .inl (fun _ => 0))), (q4, .inl (G.2.1 0, 200, .inl (fun _ => 0))), (q5, .inl (G.2.1 1, 2, .inl (fun _ => 0))), (q6, .inl (G.2.1 0, 80, .inl (fun _ => 0)))] H := hP
  have hD : va_D A [(h0, .inr (7, [.ref q1, .ref q2, .ref q3, .int 0, .ref q4, .ref q5, .null, .int 0, .int 0, .int 0, .int 0, .int 0, .int 0, .int 0, .int 0, .int 0, .int 0])), (q1, .inl (G.2.1 0, 100, .inl (fun _ => 0))), (q2, .inl (G.2.1 0, 100, .inl (fun _ => 0))), (q3, .inl (G.2.1 0, 600, .inl (fun _ => 0))), (q4, .inl (G.2.1 0, 200, .inl (fun _ => 0))), (q5, .inl (G.2.1 1, 2, .inl (fun _ => 0))), (q6, .inl (G.2.1 0, 80, .inl (fun _ => 0)))] := hD
  refine W.widen (k := 6) (n := 1082) (by omega) (by omega) ?_
  refine va_putF (D := G.1) (tys := wT G) (ci := 7) (v := .ref q6) (C := RX7) (T := TX7) (N := 17) hx hb hts hinRX7 tyX7 tyX7_ok nmX7 hown hK hP hD hS 0 rfl rfl 6 (by decide) hk10 (fun _ h9 => h9) rfl hin rfl (tyX7_ok 6 (by decide)) rfl rfl (Nat.le_of_ble_eq_true rfl) dX7_init_50 (fun H locs hP hD hS => ?_)
  have hP : va_P G.1 vwCl [(h0, .inr (7, [.ref q1, .ref q2, .ref q3, .int 0, .ref q4, .ref q5, .ref q6, .int 0, .int 0, .int 0, .int 0, .int 0, .int 0, .int 0, .int 0, .int 0, .int 0])), (q1, .inl (G.2.1 0, 100, .inl (fun _ => 0))), (q2, .inl (G.2.1 0, 100, .inl (fun _ => 0))), (q3, .inl (G.2.1 0, 600, .inl (fun _ => 0))), (q4, .inl (G.2.1 0, 200, .inl (fun _ => 0))), (q5, .inl (G.2.1 1, 2, .inl (fun _ => 0))), (q6, .inl (G.2.1 0, 80, .inl (fun _ => 0)))] H := hP
  have hD : va_D A [(h0, .inr (7, [.ref q1, .ref q2, .ref q3, .int 0, .ref q4, .ref q5, .ref q6, .int 0, .int 0, .int 0, .int 0, .int 0, .int 0, .int 0, .int 0, .int 0, .int 0])), (q1, .inl (G.2.1 0, 100, .inl (fun _ => 0))), (q2, .inl (G.2.1 0, 100, .inl (fun _ => 0))), (q3, .inl (G.2.1 0, 600, .inl (fun _ => 0))), (q4, .inl (G.2.1 0, 200, .inl (fun _ => 0))), (q5, .inl (G.2.1 1, 2, .inl (fun _ => 0))), (q6, .inl (G.2.1 0, 80, .inl (fun _ => 0)))] := hD
  refine lv_aload_n hx hb dX7_init_53 rfl (lv_at hl 0 rfl) ?_
  refine lv_iconst (v := (-1)) hx hb dX7_init_54 (by decide) ?_
  refine va_put (D := G.1) (tys := wT G) (ci := 7) (v := .int (-1)) (C := RX7) (T := TX7) (N := 17) hx hb hts hinRX7 tyX7 tyX7_ok nmX7 hown hK hP hD hS 0 rfl rfl 8 (by decide) hk11 (fun _ h9 => h9) rfl (tyX7_ok 8 (by decide)) rfl rfl (Nat.le_of_ble_eq_true rfl) dX7_init_55 (fun H locs hP hD hS => ?_)
  have hP : va_P G.1 vwCl [(h0, .inr (7, [.ref q1, .ref q2, .ref q3, .int 0, .ref q4, .ref q5, .ref q6, .int 0, .int (-1), .int 0, .int 0, .int 0, .int 0, .int 0, .int 0, .int 0, .int 0])), (q1, .inl (G.2.1 0, 100, .inl (fun _ => 0))), (q2, .inl (G.2.1 0, 100, .inl (fun _ => 0))), (q3, .inl (G.2.1 0, 600, .inl (fun _ => 0))), (q4, .inl (G.2.1 0, 200, .inl (fun _ => 0))), (q5, .inl (G.2.1 1, 2, .inl (fun _ => 0))), (q6, .inl (G.2.1 0, 80, .inl (fun _ => 0)))] H := hP
  have hD : va_D A [(h0, .inr (7, [.ref q1, .ref q2, .ref q3, .int 0, .ref q4, .ref q5, .ref q6, .int 0, .int (-1), .int 0, .int 0, .int 0, .int 0, .int 0, .int 0, .int 0, .int 0])), (q1, .inl (G.2.1 0, 100, .inl (fun _ => 0))), (q2, .inl (G.2.1 0, 100, .inl (fun _ => 0))), (q3, .inl (G.2.1 0, 600, .inl (fun _ => 0))), (q4, .inl (G.2.1 0, 200, .inl (fun _ => 0))), (q5, .inl (G.2.1 1, 2, .inl (fun _ => 0))), (q6, .inl (G.2.1 0, 80, .inl (fun _ => 0)))] := hD
  refine lv_aload_n hx hb dX7_init_58 rfl (lv_at hl 0 rfl) ?_
  refine va_get (D := G.1) (cl := vwCl) (tys := wT G) (ci := 7) (v := .ref q1) (C := RX7) (T := TX7) (N := 17) hx hb hts hinRX7 hown hK hP 0 rfl rfl 0 (by decide) hk4 (fun _ h9 => h9) rfl dX7_init_59 ?_
  refine lv_iconst (v := 0) hx hb dX7_init_62 (by decide) ?_
  refine lv_bipush (v := 60) hx hb dX7_init_63 (by decide) ?_
  refine va_iast (D := G.1) (cl := vwCl) (tys := wT G) hx hb hK hP hD hS 1 0 rfl rfl (vp_in_iff.mpr (by decide)) dX7_init_65 (fun H locs hP hD hS => ?_)
  have hP : va_P G.1 vwCl [(h0, .inr (7, [.ref q1, .ref q2, .ref q3, .int 0, .ref q4, .ref q5, .ref q6, .int 0, .int (-1), .int 0, .int 0, .int 0, .int 0, .int 0, .int 0, .int 0, .int 0])), (q1, .inl (G.2.1 0, 100, .inl (upd (fun _ => 0) (0 : Int32).toNatClampNeg 60))), (q2, .inl (G.2.1 0, 100, .inl (fun _ => 0))), (q3, .inl (G.2.1 0, 600, .inl (fun _ => 0))), (q4, .inl (G.2.1 0, 200, .inl (fun _ => 0))), (q5, .inl (G.2.1 1, 2, .inl (fun _ => 0))), (q6, .inl (G.2.1 0, 80, .inl (fun _ => 0)))] H := hP
  have hD : va_D A [(h0, .inr (7, [.ref q1, .ref q2, .ref q3, .int 0, .ref q4, .ref q5, .ref q6, .int 0, .int (-1), .int 0, .int 0, .int 0, .int 0, .int 0, .int 0, .int 0, .int 0])), (q1, .inl (G.2.1 0, 100, .inl (upd (fun _ => 0) (0 : Int32).toNatClampNeg 60))), (q2, .inl (G.2.1 0, 100, .inl (fun _ => 0))), (q3, .inl (G.2.1 0, 600, .inl (fun _ => 0))), (q4, .inl (G.2.1 0, 200, .inl (fun _ => 0))), (q5, .inl (G.2.1 1, 2, .inl (fun _ => 0))), (q6, .inl (G.2.1 0, 80, .inl (fun _ => 0)))] := hD
  refine lv_aload_n hx hb dX7_init_66 rfl (lv_at hl 0 rfl) ?_
  refine va_get (D := G.1) (cl := vwCl) (tys := wT G) (ci := 7) (v := .ref q1) (C := RX7) (T := TX7) (N := 17) hx hb hts hinRX7 hown hK hP 0 rfl rfl 0 (by decide) hk4 (fun _ h9 => h9) rfl dX7_init_67 ?_
  refine lv_iconst (v := 1) hx hb dX7_init_70 (by decide) ?_
  refine lv_bipush (v := 10) hx hb dX7_init_71 (by decide) ?_
  refine va_iast (D := G.1) (cl := vwCl) (tys := wT G) hx hb hK hP hD hS 1 0 rfl rfl (vp_in_iff.mpr (by decide)) dX7_init_73 (fun H locs hP hD hS => ?_)
  have hP : va_P G.1 vwCl [(h0, .inr (7, [.ref q1, .ref q2, .ref q3, .int 0, .ref q4, .ref q5, .ref q6, .int 0, .int (-1), .int 0, .int 0, .int 0, .int 0, .int 0, .int 0, .int 0, .int 0])), (q1, .inl (G.2.1 0, 100, .inl (upd (upd (fun _ => 0) (0 : Int32).toNatClampNeg 60) (1 : Int32).toNatClampNeg 10))), (q2, .inl (G.2.1 0, 100, .inl (fun _ => 0))), (q3, .inl (G.2.1 0, 600, .inl (fun _ => 0))), (q4, .inl (G.2.1 0, 200, .inl (fun _ => 0))), (q5, .inl (G.2.1 1, 2, .inl (fun _ => 0))), (q6, .inl (G.2.1 0, 80, .inl (fun _ => 0)))] H := hP
  have hD : va_D A [(h0, .inr (7, [.ref q1, .ref q2, .ref q3, .int 0, .ref q4, .ref q5, .ref q6, .int 0, .int (-1), .int 0, .int 0, .int 0, .int 0, .int 0, .int 0, .int 0, .int 0])), (q1, .inl (G.2.1 0, 100, .inl (upd (upd (fun _ => 0) (0 : Int32).toNatClampNeg 60) (1 : Int32).toNatClampNeg 10))), (q2, .inl (G.2.1 0, 100, .inl (fun _ => 0))), (q3, .inl (G.2.1 0, 600, .inl (fun _ => 0))), (q4, .inl (G.2.1 0, 200, .inl (fun _ => 0))), (q5, .inl (G.2.1 1, 2, .inl (fun _ => 0))), (q6, .inl (G.2.1 0, 80, .inl (fun _ => 0)))] := hD
  refine lv_aload_n hx hb dX7_init_74 rfl (lv_at hl 0 rfl) ?_
  refine va_get (D := G.1) (cl := vwCl) (tys := wT G) (ci := 7) (v := .ref q1) (C := RX7) (T := TX7) (N := 17) hx hb hts hinRX7 hown hK hP 0 rfl rfl 0 (by decide) hk4 (fun _ h9 => h9) rfl dX7_init_75 ?_
  refine lv_iconst (v := 2) hx hb dX7_init_78 (by decide) ?_
  refine lv_bipush (v := 10) hx hb dX7_init_79 (by decide) ?_
  refine va_iast (D := G.1) (cl := vwCl) (tys := wT G) hx hb hK hP hD hS 1 0 rfl rfl (vp_in_iff.mpr (by decide)) dX7_init_81 (fun H locs hP hD hS => ?_)
  have hP : va_P G.1 vwCl [(h0, .inr (7, [.ref q1, .ref q2, .ref q3, .int 0, .ref q4, .ref q5, .ref q6, .int 0, .int (-1), .int 0, .int 0, .int 0, .int 0, .int 0, .int 0, .int 0, .int 0])), (q1, .inl (G.2.1 0, 100, .inl (upd (upd (upd (fun _ => 0) (0 : Int32).toNatClampNeg 60) (1 : Int32).toNatClampNeg 10) (2 : Int32).toNatClampNeg 10))), (q2, .inl (G.2.1 0, 100, .inl (fun _ => 0))), (q3, .inl (G.2.1 0, 600, .inl (fun _ => 0))), (q4, .inl (G.2.1 0, 200, .inl (fun _ => 0))), (q5, .inl (G.2.1 1, 2, .inl (fun _ => 0))), (q6, .inl (G.2.1 0, 80, .inl (fun _ => 0)))] H := hP
  have hD : va_D A [(h0, .inr (7, [.ref q1, .ref q2, .ref q3, .int 0, .ref q4, .ref q5, .ref q6, .int 0, .int (-1), .int 0, .int 0, .int 0, .int 0, .int 0, .int 0, .int 0, .int 0])), (q1, .inl (G.2.1 0, 100, .inl (upd (upd (upd (fun _ => 0) (0 : Int32).toNatClampNeg 60) (1 : Int32).toNatClampNeg 10) (2 : Int32).toNatClampNeg 10))), (q2, .inl (G.2.1 0, 100, .inl (fun _ => 0))), (q3, .inl (G.2.1 0, 600, .inl (fun _ => 0))), (q4, .inl (G.2.1 0, 200, .inl (fun _ => 0))), (q5, .inl (G.2.1 1, 2, .inl (fun _ => 0))), (q6, .inl (G.2.1 0, 80, .inl (fun _ => 0)))] := hD
  refine lv_aload_n hx hb dX7_init_82 rfl (lv_at hl 0 rfl) ?_
  refine va_get (D := G.1) (cl := vwCl) (tys := wT G) (ci := 7) (v := .ref q1) (C := RX7) (T := TX7) (N := 17) hx hb hts hinRX7 hown hK hP 0 rfl rfl 0 (by decide) hk4 (fun _ h9 => h9) rfl dX7_init_83 ?_
  refine lv_iconst (v := 3) hx hb dX7_init_86 (by decide) ?_
  refine lv_iconst (v := 4) hx hb dX7_init_87 (by decide) ?_
  refine va_iast (D := G.1) (cl := vwCl) (tys := wT G) hx hb hK hP hD hS 1 0 rfl rfl (vp_in_iff.mpr (by decide)) dX7_init_88 (fun H locs hP hD hS => ?_)
  have hP : va_P G.1 vwCl [(h0, .inr (7, [.ref q1, .ref q2, .ref q3, .int 0, .ref q4, .ref q5, .ref q6, .int 0, .int (-1), .int 0, .int 0, .int 0, .int 0, .int 0, .int 0, .int 0, .int 0])), (q1, .inl (G.2.1 0, 100, .inl (upd (upd (upd (upd (fun _ => 0) (0 : Int32).toNatClampNeg 60) (1 : Int32).toNatClampNeg 10) (2 : Int32).toNatClampNeg 10) (3 : Int32).toNatClampNeg 4))), (q2, .inl (G.2.1 0, 100, .inl (fun _ => 0))), (q3, .inl (G.2.1 0, 600, .inl (fun _ => 0))), (q4, .inl (G.2.1 0, 200, .inl (fun _ => 0))), (q5, .inl (G.2.1 1, 2, .inl (fun _ => 0))), (q6, .inl (G.2.1 0, 80, .inl (fun _ => 0)))] H := hP
  have hD : va_D A [(h0, .inr (7, [.ref q1, .ref q2, .ref q3, .int 0, .ref q4, .ref q5, .ref q6, .int 0, .int (-1), .int 0, .int 0, .int 0, .int 0, .int 0, .int 0, .int 0, .int 0])), (q1, .inl (G.2.1 0, 100, .inl (upd (upd (upd (upd (fun _ => 0) (0 : Int32).toNatClampNeg 60) (1 : Int32).toNatClampNeg 10) (2 : Int32).toNatClampNeg 10) (3 : Int32).toNatClampNeg 4))), (q2, .inl (G.2.1 0, 100, .inl (fun _ => 0))), (q3, .inl (G.2.1 0, 600, .inl (fun _ => 0))), (q4, .inl (G.2.1 0, 200, .inl (fun _ => 0))), (q5, .inl (G.2.1 1, 2, .inl (fun _ => 0))), (q6, .inl (G.2.1 0, 80, .inl (fun _ => 0)))] := hD
  refine lv_aload_n hx hb dX7_init_89 rfl (lv_at hl 0 rfl) ?_
  refine va_get (D := G.1) (cl := vwCl) (tys := wT G) (ci := 7) (v := .ref q1) (C := RX7) (T := TX7) (N := 17) hx hb hts hinRX7 hown hK hP 0 rfl rfl 0 (by decide) hk4 (fun _ h9 => h9) rfl dX7_init_90 ?_
  refine lv_iconst (v := 4) hx hb dX7_init_93 (by decide) ?_
  refine lv_iconst (v := 2) hx hb dX7_init_94 (by decide) ?_
  refine va_iast (D := G.1) (cl := vwCl) (tys := wT G) hx hb hK hP hD hS 1 0 rfl rfl (vp_in_iff.mpr (by decide)) dX7_init_95 (fun H locs hP hD hS => ?_)
  have hP : va_P G.1 vwCl [(h0, .inr (7, [.ref q1, .ref q2, .ref q3, .int 0, .ref q4, .ref q5, .ref q6, .int 0, .int (-1), .int 0, .int 0, .int 0, .int 0, .int 0, .int 0, .int 0, .int 0])), (q1, .inl (G.2.1 0, 100, .inl (upd (upd (upd (upd (upd (fun _ => 0) (0 : Int32).toNatClampNeg 60) (1 : Int32).toNatClampNeg 10) (2 : Int32).toNatClampNeg 10) (3 : Int32).toNatClampNeg 4) (4 : Int32).toNatClampNeg 2))), (q2, .inl (G.2.1 0, 100, .inl (fun _ => 0))), (q3, .inl (G.2.1 0, 600, .inl (fun _ => 0))), (q4, .inl (G.2.1 0, 200, .inl (fun _ => 0))), (q5, .inl (G.2.1 1, 2, .inl (fun _ => 0))), (q6, .inl (G.2.1 0, 80, .inl (fun _ => 0)))] H := hP
  have hD : va_D A [(h0, .inr (7, [.ref q1, .ref q2, .ref q3, .int 0, .ref q4, .ref q5, .ref q6, .int 0, .int (-1), .int 0, .int 0, .int 0, .int 0, .int 0, .int 0, .int 0, .int 0])), (q1, .inl (G.2.1 0, 100, .inl (upd (upd (upd (upd (upd (fun _ => 0) (0 : Int32).toNatClampNeg 60) (1 : Int32).toNatClampNeg 10) (2 : Int32).toNatClampNeg 10) (3 : Int32).toNatClampNeg 4) (4 : Int32).toNatClampNeg 2))), (q2, .inl (G.2.1 0, 100, .inl (fun _ => 0))), (q3, .inl (G.2.1 0, 600, .inl (fun _ => 0))), (q4, .inl (G.2.1 0, 200, .inl (fun _ => 0))), (q5, .inl (G.2.1 1, 2, .inl (fun _ => 0))), (q6, .inl (G.2.1 0, 80, .inl (fun _ => 0)))] := hD
  have hP := hP.sub (ws' := [(h0, .inr (7, [.ref q1, .ref q2, .ref q3, .int 0, .ref q4, .ref q5, .ref q6, .int 0, .int (-1), .int 0, .int 0, .int 0, .int 0, .int 0, .int 0, .int 0, .int 0])), (q1, .inl (G.2.1 0, 100, .inl (upd (upd (upd (upd (upd (fun _ => 0) (0 : Int32).toNatClampNeg 60) (1 : Int32).toNatClampNeg 10) (2 : Int32).toNatClampNeg 10) (3 : Int32).toNatClampNeg 4) (4 : Int32).toNatClampNeg 2))), (q2, .inl (G.2.1 0, 100, .inl (fun _ => 0))), (q3, .inl (G.2.1 0, 600, .inl (fun _ => 0))), (q4, .inl (G.2.1 0, 200, .inl (fun _ => 0))), (q5, .inl (G.2.1 1, 2, .inl (fun _ => 0))), (q6, .inl (G.2.1 0, 80, .inl (fun _ => 0)))]) [0, 1, 2, 3, 4, 5, 6] rfl
  have hD := hD.sub (ws' := [(h0, .inr (7, [.ref q1, .ref q2, .ref q3, .int 0, .ref q4, .ref q5, .ref q6, .int 0, .int (-1), .int 0, .int 0, .int 0, .int 0, .int 0, .int 0, .int 0, .int 0])), (q1, .inl (G.2.1 0, 100, .inl (upd (upd (upd (upd (upd (fun _ => 0) (0 : Int32).toNatClampNeg 60) (1 : Int32).toNatClampNeg 10) (2 : Int32).toNatClampNeg 10) (3 : Int32).toNatClampNeg 4) (4 : Int32).toNatClampNeg 2))), (q2, .inl (G.2.1 0, 100, .inl (fun _ => 0))), (q3, .inl (G.2.1 0, 600, .inl (fun _ => 0))), (q4, .inl (G.2.1 0, 200, .inl (fun _ => 0))), (q5, .inl (G.2.1 1, 2, .inl (fun _ => 0))), (q6, .inl (G.2.1 0, 80, .inl (fun _ => 0)))]) [0, 1, 2, 3, 4, 5, 6] (by decide) rfl
  obtain ⟨a, ea⟩ : ∃ a : Nat → Nat, a = fun j => ([h0, q1, q2, q3, q4, q5, q6] : List Nat).getD j 0 := ⟨_, rfl⟩
  have hP : va_P G.1 vwCl (hl7 G a) H := by subst ea; exact hP
  have hD : va_D A (hl7 G a) := by subst ea; exact hD
  have h00 : a 0 = h0 := by rw [ea]; rfl
  refine W.widen (k := 6) (n := 1082) (by omega) (by omega) ?_
  exact W.vret hx hb hr (fun t ht hW => ⟨⟨a, rfl, h00, by rw [ht]; exact hP, va_K.moved hW.alike hK, hD⟩, hS.F ht⟩) hS.2.2 dX7_init_96

theorem nb01 {v : Int32} (h : v = 0 ∨ v = 1) : narrow .boolean (.int v) = .int v := by
  rcases h with rfl | rfl <;> decide
def b01 (B : wB) : Prop := B 0 6 = 0 ∨ B 0 6 = 1
theorem b01_oth {B : wB} {j q : Nat} {v : Int32} (h : b01 B) (hq : ¬ (j = 0 ∧ q = 6)) : b01 (bput B j q v) := by
  have e : (bput B j q v) 0 6 = B 0 6 := if_neg fun e => hq ⟨e.1.symm, e.2.symm⟩
  unfold b01
  rw [e]
  exact h
theorem b01_0 {B : wB} : b01 (bput B 0 6 0) := Or.inl bput_h
theorem b01_1 {B : wB} : b01 (bput B 0 6 1) := Or.inr bput_h
theorem b01_ite {c : Prop} [Decidable c] {a b : wB × Int32} (ha : b01 a.1) (hb : b01 b.1) : b01 (ite c a b).1 := by
  by_cases h : c
  · rw [if_pos h]; exact ha
  · rw [if_neg h]; exact hb
theorem sign01 {B : wB} {c : Int32} : b01 (fX7_sign B c) := by
  simp only [fX7_sign]
  repeat' split
  all_goals first | exact b01_oth b01_0 (by omega) | exact b01_oth b01_1 (by omega)
theorem digit01 {B : wB} : b01 (fX7_digit B).1 := by
  simp only [fX7_digit]
  repeat' split
  all_goals first | exact b01_oth b01_0 (by omega) | exact b01_oth b01_1 (by omega)
theorem number01 {B : wB} : b01 (fX7_number B).1 := by
  have h1 := @digit01 B
  have h2 := fun v => b01_oth (j := 0) (q := 5) (v := v) h1 (by omega)
  have h3 := fun v w => b01_oth (j := 0) (q := 5) (v := v) (h2 w) (by omega)
  have h4 := fun v w x => b01_oth (j := 0) (q := 5) (v := v) (h3 w x) (by omega)
  exact b01_ite (b01_ite h1 (b01_ite h1 (b01_ite (h2 _) (b01_ite (h2 _) (b01_ite (h3 _ _) (b01_ite (h3 _ _) (b01_ite (h4 _ _ _) (h4 _ _ _)))))))) h1
theorem place01 {B : wB} : b01 (fX7_place B).1 := b01_ite (b01_ite number01 number01) number01
theorem order01 {B : wB} : b01 (fX7_order B) := by
  have d : ∀ {C : wB} {q : Nat} {v : Int32}, q ≠ 6 → b01 (bput (fX7_digit C).1 0 q v) := fun h => b01_oth digit01 (by omega)
  have n : ∀ {C : wB} {q : Nat} {v : Int32}, q ≠ 6 → b01 (bput (fX7_number C).1 0 q v) := fun h => b01_oth number01 (by omega)
  have p : ∀ {C : wB} {q : Nat} {v : Int32}, q ≠ 6 → b01 (bput (fX7_place C).1 0 q v) := fun h => b01_oth place01 (by omega)
  exact (gen_ite (P := b01) (d (by decide)) (gen_ite (P := b01) b01_1 (gen_ite (P := b01) b01_1 (gen_ite (P := b01) b01_1 (gen_ite (P := b01) (d (by decide)) (gen_ite (P := b01) (p (by decide)) (gen_ite (P := b01) (d (by decide)) (gen_ite (P := b01) b01_1 (gen_ite (P := b01) (p (by decide)) (gen_ite (P := b01) b01_1 (gen_ite (P := b01) b01_1 (gen_ite (P := b01) (d (by decide)) (gen_ite (P := b01) (n (by decide)) b01_1)))))))))))))
theorem if_start {B : wB} (h : (B 0 1).toInt ≤ 80) : pzl (bput (bput B 0 5 0) 0 6 0) 0 80 := by
  refine ⟨?_, ?_, ?_⟩
  · rw [bput_q (by decide), bput_h]; decide
  · rw [bput_q (by decide), bput_h]; decide
  · rw [bput_q (by decide), bput_q (by decide)]; exact h
theorem sign_0 {B : wB} {c : Int32} (h : (fX7_sign B c) 0 6 = 0) : (fX7_sign B c) 0 5 = B 0 5 + 1 ∧ (fX7_sign B c) 0 1 = B 0 1 := by
  simp only [fX7_sign] at h ⊢
  split at h
  · split at h
    · rename_i h1 h2
      simp [h1, h2, bput]
    · simp [bput] at h
  · simp [bput] at h
theorem if_back {B C D : wB} (hz : pzl B 0 80) (hC : C = fX7_order B) (hD : D = fX7_sign C 59) (h1 : C 0 6 = 0) (h2 : ¬ C 0 1 ≤ C 0 5) (h3 : D 0 6 = 0) : pzl D 0 80 ∧ (B 0 5).toInt + 1 ≤ (D 0 5).toInt := by
  have q : pzl B (B 0 5).toInt.toNat 80 := ⟨by have := hz.1; omega, hz.2.1, hz.2.2⟩
  have q1 := pzX7_order1 (by omega) q
  rw [← hC, if_pos h1] at q1
  have q2 := sign_0 (hD ▸ h3)
  rw [← hD] at q2
  rw [Int32.le_iff_toInt_le] at h2
  have e := sp_1 (by omega) q1
  have z := hz.1
  refine ⟨⟨?_, ?_, ?_⟩, ?_⟩
  · rw [q2.1, e]; have := q1.1; omega
  · rw [q2.1, e]; have := q1.2.2; omega
  · rw [q2.2]; exact q1.2.2
  · rw [q2.1, e]; have := q1.1; omega
def LX7_if : Nat → wB → wB
  | 0, B => B
  | u + 1, B => if (fX7_order B) 0 6 = 0 then (if (fX7_order B) 0 1 ≤ (fX7_order B) 0 5 then fX7_order B else if (fX7_sign (fX7_order B) 59) 0 6 = 0 then LX7_if u (fX7_sign (fX7_order B) 59) else fX7_sign (fX7_order B) 59) else fX7_order B
def gX7_if (B : wB) : wB × Int32 := (B, B 0 6)
def fX7_isFaulty (B : wB) : wB × Int32 := gX7_if (LX7_if 81 (bput (bput B 0 5 0) 0 6 0))
abbrev rX7_isFaulty : Room := { frames := 5, cells := 0, slots := 0, locals := 107 }
set_option maxHeartbeats 4000000 in
set_option maxRecDepth 100000 in
theorem kX7_isFaulty (l : Launch) (G : wG) (Z : wZ) (B : wB)  (hln : (B 0 1).toInt ≤ 80) : mI l yX7_isFaulty wsX7_isFaulty rX7_isFaulty G [.ref (G.2.2.1 12 0)] (wset Z 12 B) (fX7_isFaulty B).2 (wset Z 12 (fX7_isFaulty B).1) := by
  refine Met.ofW (cc := cX7_isFaulty) (maxL := 2) (ret := (some .boolean)) (by decide) rfl ?_
  intro p e s m args below meth c s₁ B0 hml hv
  obtain ⟨rfl, hW, hK, hL⟩ := hv
  have hlocks := B0.notSynchronized
  have hr := B0.returns
  have hC : wX p s m c cX7_isFaulty _ wsX7_isFaulty RX7 G := ⟨B0.exec, B0.bytes, findClass_of_methodNamed B0.named, atoms_spec (ws := wsX7_isFaulty) B0.pre, hK, hL⟩
  have hx := hC.1
  have hb := hC.2.1
  have hts := hC.2.2.2.1
  have hinRX7 : ∀ w ∈ wsX70, w ∈ wsX7_isFaulty := by decide +kernel
  have hk0 := hts (.fieldLink RX7 160 "RampShaftsModel" "spot" "I") (by decide +kernel)
  have hk1 := hts (.fieldLink RX7 163 "RampShaftsModel" "isWrong" "Z") (by decide +kernel)
  have hk2 := hts (.fieldLink RX7 149 "RampShaftsModel" "length" "I") (by decide +kernel)
  have hS : va_S (wA G) s.heap s.heap [] := va_S.rf
  have hl := lv_entry ([.ref (G.2.2.1 12 0)]) (n := 2) (Nat.le_of_ble_eq_true rfl)
  rw [lg_entry_eq]
  generalize (lg_sl ([.ref (G.2.2.1 12 0)]) ++ List.replicate (2 - (lg_sl ([.ref (G.2.2.1 12 0)])).length) Slot.unset).toArray = ls at hl ⊢
  have hl : lv_has ls 2 [(0, .ref (G.2.2.1 12 0))] := hl
  obtain ⟨R, hR⟩ : ∃ R, R = fX7_isFaulty B := ⟨_, rfl⟩
  rw [← hR]
  unfold fX7_isFaulty at hR
  refine lv_aload_n hx hb dX7_isFaulty_0 rfl (lv_at hl 0 rfl) ?_
  refine lv_iconst (v := 0) hx hb dX7_isFaulty_1 (by decide) ?_
  refine wr_put (Z' := wset Z 12 (bput B 0 5 0)) (v := .int 0) hC hinRX7 tyX7 tyX7_ok nmX7 hW hS (vM (by decide)) ce_m0 rfl 11 (by decide) hk0 rfl (tyX7_ok 11 (by decide)) rfl rfl (Nat.le_of_ble_eq_true rfl) wset_off pu_m0_5 dX7_isFaulty_2 (fun H locs hW hS => ?_)
  refine lv_aload_n hx hb dX7_isFaulty_5 rfl (lv_at hl 0 rfl) ?_
  refine lv_iconst (v := 0) hx hb dX7_isFaulty_6 (by decide) ?_
  refine wr_put (Z' := wset Z 12 (bput (bput B 0 5 0) 0 6 0)) (v := .int 0) hC hinRX7 tyX7 tyX7_ok nmX7 hW hS (vM (by decide)) ce_m0 rfl 12 (by decide) hk1 rfl (tyX7_ok 12 (by decide)) (by first | rfl | decide | assumption) (by first | rfl | decide) (Nat.le_of_ble_eq_true rfl) wset_off pu_m0_6 dX7_isFaulty_7 (fun H locs hW hS => ?_)
  refine lv_iconst (v := 1) hx hb dX7_isFaulty_10 (by decide) ?_
  refine lv_istore_n (lv' := [(1, .int 1), (0, .ref (G.2.2.1 12 0))]) hx hb dX7_isFaulty_11 rfl hl (by decide) rfl (fun ls hl => ?_)
  have hlp_1 : ∀ (u : Nat) (B : wB), (hz : pzl B 0 80) → (hu : (81 : Int) ≤ (B 0 5).toInt + u) → R = gX7_if (LX7_if u B) → ∀ (H : Heap) (locs : List Loc) (ls : Array Slot), wW G (wset Z 12 B) H → va_S (wA G) s.heap H locs → lv_has ls 2 [(0, .ref (G.2.2.1 12 0)), (1, .int 1)] → W p l e (headSpec wsX7_isFaulty rX7_isFaulty).room s m ([.ref (G.2.2.1 12 0)] : List Value).toArray below meth c H locs 0 0 (qI below ([.ref (G.2.2.1 12 0)] : List Value).toArray s G R.2 (wset Z 12 R.1)) (F0 m 12 ls []) := by
    intro u
    induction u with
    | zero =>
      intro B hz hu hR H locs ls hW hS hl
      exact absurd hu (by have := hz.2.1; omega)
    | succ u ih =>
      intro B hz hu hR H locs ls hW hS hl
      simp only [LX7_if] at hR
      refine lv_iload_n hx hb dX7_isFaulty_12 rfl (lv_at hl 1 rfl) ?_
      refine lv_if_eq (tgt := 70) hx hb dX7_isFaulty_13 (by decide) (fun c_2 => ?_) (fun c_2 => ?_)
      · exact absurd c_2 (by decide)
      · skip
        refine lv_aload_n hx hb dX7_isFaulty_16 rfl (lv_at hl 0 rfl) ?_
        refine wc_v hC hml (kX7_order l G Z B 80 (by omega) hz) (cwV 0 hts gX7_isFaulty_X7_order rfl rfl rfl (by decide +kernel) ⟨Nat.le_of_ble_eq_true rfl, Nat.le_of_ble_eq_true rfl⟩) hW hS (vM (by decide)) ce_m0 rfl rfl rfl rfl hl.1 (Nat.le_of_ble_eq_true rfl) dX7_isFaulty_17 (fun H locs hW hS => ?_)
        obtain ⟨B_3, eB_3⟩ : ∃ y, y = fX7_order B := ⟨_, rfl⟩
        rw [← eB_3] at hW
        try rw [← eB_3] at hR
        refine lv_aload_n hx hb dX7_isFaulty_20 rfl (lv_at hl 0 rfl) ?_
        refine wr_get hC hinRX7 hW (vM (by decide)) ce_m0 rfl 12 (by decide) hk1 rfl dX7_isFaulty_21 ?_
        refine lv_if_ne (tgt := 42) hx hb dX7_isFaulty_24 (by decide) (fun c_4 => ?_) (fun c_4 => ?_)
        · skip
          try rw [if_neg c_4] at hR
          refine lv_iconst (v := 0) hx hb dX7_isFaulty_42 (by decide) ?_
          refine lv_istore_n (lv' := [(1, .int 0), (0, .ref (G.2.2.1 12 0))]) hx hb dX7_isFaulty_43 rfl hl (by decide) rfl (fun ls hl => ?_)
          refine lv_iload_n hx hb dX7_isFaulty_44 rfl (lv_at hl 0 rfl) ?_
          refine lv_if_eq (tgt := 12) hx hb dX7_isFaulty_45 (by decide) (fun c_5 => ?_) (fun c_5 => ?_)
          · skip
            refine lv_iload_n hx hb dX7_isFaulty_12 rfl (lv_at hl 0 rfl) ?_
            refine lv_if_eq (tgt := 70) hx hb dX7_isFaulty_13 (by decide) (fun c_6 => ?_) (fun c_6 => ?_)
            · skip
              refine lv_aload_n hx hb dX7_isFaulty_70 rfl (lv_at hl 1 rfl) ?_
              refine wr_get hC hinRX7 hW (vM (by decide)) ce_m0 rfl 12 (by decide) hk1 rfl dX7_isFaulty_71 ?_
              unfold gX7_if at hR
              exact we_z hC hr hlocks (nb01 (by rw [eB_3]; exact order01)) (congrArg Prod.snd hR).symm (congrArg (fun u => wset Z 12 u.1) hR).symm hW hS dX7_isFaulty_74
            · exact absurd c_6 (by decide)
          · exact absurd c_5 (by decide)
        · skip
          try rw [if_pos c_4] at hR
          refine lv_aload_n hx hb dX7_isFaulty_27 rfl (lv_at hl 0 rfl) ?_
          refine wr_get hC hinRX7 hW (vM (by decide)) ce_m0 rfl 11 (by decide) hk0 rfl dX7_isFaulty_28 ?_
          refine lv_aload_n hx hb dX7_isFaulty_31 rfl (lv_at hl 0 rfl) ?_
          refine wr_get hC hinRX7 hW (vM (by decide)) ce_m0 rfl 7 (by decide) hk2 rfl dX7_isFaulty_32 ?_
          refine lv_icmp_ge (tgt := 42) hx hb dX7_isFaulty_35 (by decide) (fun c_7 => ?_) (fun c_7 => ?_)
          · skip
            try rw [if_pos c_7] at hR
            refine lv_iconst (v := 0) hx hb dX7_isFaulty_42 (by decide) ?_
            refine lv_istore_n (lv' := [(1, .int 0), (0, .ref (G.2.2.1 12 0))]) hx hb dX7_isFaulty_43 rfl hl (by decide) rfl (fun ls hl => ?_)
            refine lv_iload_n hx hb dX7_isFaulty_44 rfl (lv_at hl 0 rfl) ?_
            refine lv_if_eq (tgt := 12) hx hb dX7_isFaulty_45 (by decide) (fun c_8 => ?_) (fun c_8 => ?_)
            · skip
              refine lv_iload_n hx hb dX7_isFaulty_12 rfl (lv_at hl 0 rfl) ?_
              refine lv_if_eq (tgt := 70) hx hb dX7_isFaulty_13 (by decide) (fun c_9 => ?_) (fun c_9 => ?_)
              · skip
                refine lv_aload_n hx hb dX7_isFaulty_70 rfl (lv_at hl 1 rfl) ?_
                refine wr_get hC hinRX7 hW (vM (by decide)) ce_m0 rfl 12 (by decide) hk1 rfl dX7_isFaulty_71 ?_
                unfold gX7_if at hR
                exact we_z hC hr hlocks (nb01 (by rw [eB_3]; exact order01)) (congrArg Prod.snd hR).symm (congrArg (fun u => wset Z 12 u.1) hR).symm hW hS dX7_isFaulty_74
              · exact absurd c_9 (by decide)
            · exact absurd c_8 (by decide)
          · skip
            try rw [if_neg c_7] at hR
            refine lv_iconst (v := 1) hx hb dX7_isFaulty_38 (by decide) ?_
            refine lv_goto (tgt := 43) hx hb dX7_isFaulty_39 (by decide) ?_
            refine lv_istore_n (lv' := [(1, .int 1), (0, .ref (G.2.2.1 12 0))]) hx hb dX7_isFaulty_43 rfl hl (by decide) rfl (fun ls hl => ?_)
            refine lv_iload_n hx hb dX7_isFaulty_44 rfl (lv_at hl 0 rfl) ?_
            refine lv_if_eq (tgt := 12) hx hb dX7_isFaulty_45 (by decide) (fun c_10 => ?_) (fun c_10 => ?_)
            · exact absurd c_10 (by decide)
            · skip
              refine lv_aload_n hx hb dX7_isFaulty_48 rfl (lv_at hl 1 rfl) ?_
              refine lv_bipush (v := 59) hx hb dX7_isFaulty_49 (by decide) ?_
              refine wc_v hC hml (kX7_sign l G Z B_3 59 94 (by omega) (by rw [eB_3]; exact pzX7_order (by omega) hz)) (cwV 1 hts gX7_isFaulty_X7_sign rfl rfl rfl (by decide +kernel) ⟨Nat.le_of_ble_eq_true rfl, Nat.le_of_ble_eq_true rfl⟩) hW hS (vM (by decide)) ce_m0 rfl rfl rfl rfl hl.1 (Nat.le_of_ble_eq_true rfl) dX7_isFaulty_51 (fun H locs hW hS => ?_)
              obtain ⟨B_11, eB_11⟩ : ∃ y, y = fX7_sign B_3 59 := ⟨_, rfl⟩
              rw [← eB_11] at hW
              try rw [← eB_11] at hR
              refine lv_aload_n hx hb dX7_isFaulty_54 rfl (lv_at hl 1 rfl) ?_
              refine wr_get hC hinRX7 hW (vM (by decide)) ce_m0 rfl 12 (by decide) hk1 rfl dX7_isFaulty_55 ?_
              refine lv_if_ne (tgt := 65) hx hb dX7_isFaulty_58 (by decide) (fun c_12 => ?_) (fun c_12 => ?_)
              · skip
                try rw [if_neg c_12] at hR
                refine lv_iconst (v := 0) hx hb dX7_isFaulty_65 (by decide) ?_
                refine lv_istore_n (lv' := [(1, .int 0), (0, .ref (G.2.2.1 12 0))]) hx hb dX7_isFaulty_66 rfl hl (by decide) rfl (fun ls hl => ?_)
                refine lv_goto (tgt := 12) hx hb dX7_isFaulty_67 (by decide) ?_
                refine lv_iload_n hx hb dX7_isFaulty_12 rfl (lv_at hl 0 rfl) ?_
                refine lv_if_eq (tgt := 70) hx hb dX7_isFaulty_13 (by decide) (fun c_13 => ?_) (fun c_13 => ?_)
                · skip
                  refine lv_aload_n hx hb dX7_isFaulty_70 rfl (lv_at hl 1 rfl) ?_
                  refine wr_get hC hinRX7 hW (vM (by decide)) ce_m0 rfl 12 (by decide) hk1 rfl dX7_isFaulty_71 ?_
                  unfold gX7_if at hR
                  exact we_z hC hr hlocks (nb01 (by rw [eB_11]; exact sign01)) (congrArg Prod.snd hR).symm (congrArg (fun u => wset Z 12 u.1) hR).symm hW hS dX7_isFaulty_74
                · exact absurd c_13 (by decide)
              · skip
                try rw [if_pos c_12] at hR
                refine lv_iconst (v := 1) hx hb dX7_isFaulty_61 (by decide) ?_
                refine lv_goto (tgt := 66) hx hb dX7_isFaulty_62 (by decide) ?_
                refine lv_istore_n (lv' := [(1, .int 1), (0, .ref (G.2.2.1 12 0))]) hx hb dX7_isFaulty_66 rfl hl (by decide) rfl (fun ls hl => ?_)
                refine lv_goto (tgt := 12) hx hb dX7_isFaulty_67 (by decide) ?_
                exact ih B_11 (if_back hz eB_3 eB_11 c_4 c_7 c_12).1 (by have h9 := (if_back hz eB_3 eB_11 c_4 c_7 c_12).2; omega) hR _ _ _ hW hS (lv_sub hl [1, 0] rfl)
  exact hlp_1 81 (bput (bput B 0 5 0) 0 6 0) (if_start hln) (by rw [bput_q (by decide), bput_h]; decide) hR _ _ _ hW hS (lv_sub hl [1, 0] rfl)
def fX7_fault (B : wB) : wB × Int32 :=
  let P_1 := fX7_isFaulty B
  if P_1.2 = 0 then (P_1.1, (-6))
  else (P_1.1, P_1.1 0 5)
abbrev rX7_fault : Room := { frames := 6, cells := 0, slots := 0, locals := 128 }
set_option maxHeartbeats 4000000 in
set_option maxRecDepth 100000 in
theorem kX7_fault (l : Launch) (G : wG) (Z : wZ) (B : wB)  (hln : (B 0 1).toInt ≤ 80) : mI l yX7_fault wsX7_fault rX7_fault G [.ref (G.2.2.1 12 0)] (wset Z 12 B) (fX7_fault B).2 (wset Z 12 (fX7_fault B).1) := by
  refine Met.ofW (cc := cX7_fault) (maxL := 1) (ret := (some .int)) (by decide) rfl ?_
  intro p e s m args below meth c s₁ B0 hml hv
  obtain ⟨rfl, hW, hK, hL⟩ := hv
  have hlocks := B0.notSynchronized
  have hr := B0.returns
  have hC : wX p s m c cX7_fault _ wsX7_fault RX7 G := ⟨B0.exec, B0.bytes, findClass_of_methodNamed B0.named, atoms_spec (ws := wsX7_fault) B0.pre, hK, hL⟩
  have hx := hC.1
  have hb := hC.2.1
  have hts := hC.2.2.2.1
  have hinRX7 : ∀ w ∈ wsX70, w ∈ wsX7_fault := by decide +kernel
  have hk0 := hts (.fieldLink RX7 160 "RampShaftsModel" "spot" "I") (by decide +kernel)
  have hS : va_S (wA G) s.heap s.heap [] := va_S.rf
  have hl := lv_entry ([.ref (G.2.2.1 12 0)]) (n := 1) (Nat.le_of_ble_eq_true rfl)
  rw [lg_entry_eq]
  generalize (lg_sl ([.ref (G.2.2.1 12 0)]) ++ List.replicate (1 - (lg_sl ([.ref (G.2.2.1 12 0)])).length) Slot.unset).toArray = ls at hl ⊢
  have hl : lv_has ls 1 [(0, .ref (G.2.2.1 12 0))] := hl
  refine lv_aload_n hx hb dX7_fault_0 rfl (lv_at hl 0 rfl) ?_
  refine wc_i hC hml (kX7_isFaulty l G Z B hln) (cwV 0 hts gX7_fault_X7_isFaulty rfl rfl rfl (by decide +kernel) ⟨Nat.le_of_ble_eq_true rfl, Nat.le_of_ble_eq_true rfl⟩) hW hS (vM (by decide)) ce_m0 rfl rfl rfl rfl hl.1 (Nat.le_of_ble_eq_true rfl) dX7_fault_1 (fun H locs hW hS => ?_)
  obtain ⟨P_1, eP_1⟩ : ∃ y, y = fX7_isFaulty B := ⟨_, rfl⟩
  rw [← eP_1] at hW ⊢
  refine lv_if_eq (tgt := 14) hx hb dX7_fault_4 (by decide) (fun c_2 => ?_) (fun c_2 => ?_)
  · skip
    refine lv_bipush (v := (-6)) hx hb dX7_fault_14 (by decide) ?_
    have hf : fX7_fault B = (P_1.1, (-6)) := by
      subst eP_1
      exact (if_pos c_2).trans rfl
    exact we_i hC hr hlocks (congrArg Prod.snd hf).symm (congrArg (fun u => wset Z 12 u.1) hf).symm hW hS dX7_fault_16
  · skip
    refine lv_aload_n hx hb dX7_fault_7 rfl (lv_at hl 0 rfl) ?_
    refine wr_get hC hinRX7 hW (vM (by decide)) ce_m0 rfl 11 (by decide) hk0 rfl dX7_fault_8 ?_
    refine lv_goto (tgt := 16) hx hb dX7_fault_11 (by decide) ?_
    have hf : fX7_fault B = (P_1.1, P_1.1 0 5) := by
      subst eP_1
      exact (if_neg c_2).trans rfl
    exact we_i hC hr hlocks (congrArg Prod.snd hf).symm (congrArg (fun u => wset Z 12 u.1) hf).symm hW hS dX7_fault_16
def fX7_wipe (B : wB) : wB × Int32 :=
  let x_1 := B 0 1
  ((bput B 0 1 0), x_1)
abbrev rX7_wipe : Room := { frames := 0, cells := 0, slots := 0, locals := 0 }
set_option maxHeartbeats 4000000 in
set_option maxRecDepth 100000 in
theorem kX7_wipe (l : Launch) (G : wG) (Z : wZ) (B : wB)   : mI l yX7_wipe wsX7_wipe rX7_wipe G [.ref (G.2.2.1 12 0)] (wset Z 12 B) (fX7_wipe B).2 (wset Z 12 (fX7_wipe B).1) := by
  refine Met.ofW (cc := cX7_wipe) (maxL := 2) (ret := (some .int)) (by decide) rfl ?_
  intro p e s m args below meth c s₁ B0 hml hv
  obtain ⟨rfl, hW, hK, hL⟩ := hv
  have hlocks := B0.notSynchronized
  have hr := B0.returns
  have hC : wX p s m c cX7_wipe _ wsX7_wipe RX7 G := ⟨B0.exec, B0.bytes, findClass_of_methodNamed B0.named, atoms_spec (ws := wsX7_wipe) B0.pre, hK, hL⟩
  have hx := hC.1
  have hb := hC.2.1
  have hts := hC.2.2.2.1
  have hinRX7 : ∀ w ∈ wsX70, w ∈ wsX7_wipe := by decide +kernel
  have hk0 := hts (.fieldLink RX7 149 "RampShaftsModel" "length" "I") (by decide +kernel)
  have hS : va_S (wA G) s.heap s.heap [] := va_S.rf
  have hl := lv_entry ([.ref (G.2.2.1 12 0)]) (n := 2) (Nat.le_of_ble_eq_true rfl)
  rw [lg_entry_eq]
  generalize (lg_sl ([.ref (G.2.2.1 12 0)]) ++ List.replicate (2 - (lg_sl ([.ref (G.2.2.1 12 0)])).length) Slot.unset).toArray = ls at hl ⊢
  have hl : lv_has ls 2 [(0, .ref (G.2.2.1 12 0))] := hl
  refine lv_aload_n hx hb dX7_wipe_0 rfl (lv_at hl 0 rfl) ?_
  refine wr_get hC hinRX7 hW (vM (by decide)) ce_m0 rfl 7 (by decide) hk0 rfl dX7_wipe_1 ?_
  refine lv_topi (fun x_1 ex_1 => ?_)
  refine lv_istore_n (lv' := [(1, .int x_1), (0, .ref (G.2.2.1 12 0))]) hx hb dX7_wipe_4 rfl hl (by decide) rfl (fun ls hl => ?_)
  refine lv_aload_n hx hb dX7_wipe_5 rfl (lv_at hl 1 rfl) ?_
  refine lv_iconst (v := 0) hx hb dX7_wipe_6 (by decide) ?_
  refine wr_put (Z' := wset Z 12 (bput B 0 1 0)) (v := .int 0) hC hinRX7 tyX7 tyX7_ok nmX7 hW hS (vM (by decide)) ce_m0 rfl 7 (by decide) hk0 rfl (tyX7_ok 7 (by decide)) rfl rfl (Nat.le_of_ble_eq_true rfl) wset_off pu_m0_1 dX7_wipe_7 (fun H locs hW hS => ?_)
  refine lv_iload_n hx hb dX7_wipe_10 rfl (lv_at hl 0 rfl) ?_
  have hf : fX7_wipe B = ((bput B 0 1 0), x_1) := by
    subst ex_1
    exact rfl
  exact we_i hC hr hlocks (congrArg Prod.snd hf).symm (congrArg (fun u => wset Z 12 u.1) hf).symm hW hS dX7_wipe_11

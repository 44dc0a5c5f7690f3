/-! carryOut: the orders one after the other -/
theorem nI_ij {a b : Nat} (ha : a < 2 ^ 31) (hb : b < 2 ^ 31) (h : nI a = nI b) : a = b := by
  rw [i_eq, nI_ti ha, nI_ti hb] at h; omega
theorem fR_t {L p : Nat} {B C C' : wB} (h : st L p B C) (hf : fR C C') : C' 0 1 = nI L := (hf.2 1 (by decide)).trans h.1.2.1
theorem co_eq {L : Nat} : ∀ (u v w p : Nat) (Y : wZ) (C W : wB) (x : Int32), st L p (Y 11) C → st L p (Y 11) W → LX7_if v W 0 6 = 0 → 82 ≤ 2 * u + p → 82 ≤ 2 * v + p → 82 ≤ 2 * w + p → RT (Y 0) (C 1) → C 0 2 = -1 → 0 ≤ x.toInt → x.toInt + u ≤ 1000 →
    (LX6_co u Y x).2 = (LX7_co w C x).2 ∧ 0 ≤ (LX6_co u Y x).2.toInt ∧ RT ((LX6_co u Y x).1 0) ((LX7_co w C x).1 1) ∧ (∀ i, i ≠ 0 → i ≠ 11 → (LX6_co u Y x).1 i = Y i) ∧ gB (Y 11) ((LX6_co u Y x).1 11) ∧
    (∀ j, j ≠ 0 → j ≠ 1 → (LX7_co w C x).1 j = C j) ∧ ∀ q, q < 5 ∨ 10 < q → (LX7_co w C x).1 0 q = C 0 q := by
  intro u
  induction u with
  | zero => intro v w p Y C W x h _ _ h1; have := h.1.2.2.1; have := h.2.2.2.2; omega
  | succ u ih =>
    intro v w p Y C W x h hW hv h1 h2 h3 hb hp hx hx2
    have hL := h.1.2.2.1
    have hpL := h.2.2.2.2
    obtain ⟨v, rfl⟩ : ∃ v', v = v' + 1 := by
      cases v with
      | zero => omega
      | succ v' => exact ⟨v', rfl⟩
    obtain ⟨w, rfl⟩ : ∃ w', w = w' + 1 := by
      cases w with
      | zero => omega
      | succ w' => exact ⟨w', rfl⟩
    simp only [LX6_co, LX7_co]
    simp only [LX7_if] at hv
    obtain ⟨o1, o2, o3⟩ := o_order h
    obtain ⟨-, -, w3⟩ := o_order hW
    generalize fX4_readOrder (Y 11) = P at *
    generalize fX7_order C = R at *
    generalize fX7_order W = V at *
    rcases w3 with ⟨k1, ⟨p', k2, k3⟩, -⟩ | ⟨-, p', -, -, -, k5⟩
    · rcases o3 with ⟨-, ⟨p2, -, m3⟩, hm⟩ | ⟨m1, -⟩
      · have hp2 : p2 = p' := by
          have e1 := m3.2.1
          have e2 := k3.2.1
          have := m3.2.2.2.2
          have := k3.2.2.2.2
          exact nI_ij (by omega) (by omega) (e1.symm.trans e2)
        subst hp2
        have hp2L := m3.2.2.2.2
        have hlt : ¬ C 0 1 ≤ C 0 5 := by rw [h.1.2.1, h.2.2.1, nI_leI (by omega) (by omega)]; omega
        rw [k1, if_neg i32_10, if_neg hlt]
        have hD : ∀ q, q ≠ 5 → bput R 0 5 (R 0 5 + 1) 0 q = R 0 q := fun q hq => bput_q hq
        have hDo : ∀ j, j ≠ 0 → bput R 0 5 (R 0 5 + 1) j = R j := fun j hj => bput_off hj
        have hD5 : bput R 0 5 (R 0 5 + 1) 0 5 = nI (p2 + 1) := by rw [bput_h, m3.2.2.1, nI_1]
        generalize bput R 0 5 (R 0 5 + 1) = D at *
        have hY0 : wset Y 11 P.1 0 = Y 0 := ws_o (by decide)
        have hY11 : wset Y 11 P.1 11 = P.1 := ws_h
        have hYo : ∀ i, i ≠ 11 → wset Y 11 P.1 i = Y i := fun i hi => ws_o hi
        generalize wset Y 11 P.1 = Y1 at *
        obtain ⟨e1, e2, e3, e4⟩ := does_eq (Y := Y1) (D := D) (by rw [hY0, hDo 1 (by decide), o2.1 1 (by decide)]; exact hb) (by
          rw [hY11]
          unfold oM at hm ⊢
          rw [hD 7 (by decide), hD 8 (by decide), hD 9 (by decide), hD 10 (by decide)]
          exact hm) (by rw [hD 2 (by decide), o2.2 2 (by decide)]; exact hp)
        generalize fX6_carryOutOrder Y1 = K at *
        generalize fX7_does D = E at *
        have hE0 : ∀ q, q < 5 ∨ 10 < q → E.1 0 q = C 0 q := fun q hq => by rw [e4 0 (by decide), hD q (by omega), o2.2 q hq]
        have hEo : ∀ j, j ≠ 0 → j ≠ 1 → E.1 j = C j := fun j j0 j1 => by rw [e4 j j1, hDo j j0, o2.1 j j0]
        have hE5 : E.1 0 5 = nI (p2 + 1) := by rw [e4 0 (by decide)]; exact hD5
        have hE6 : E.1 0 6 = 0 := by rw [e4 0 (by decide), hD 6 (by decide)]; exact m3.2.2.2.1
        have hE1 : E.1 0 1 = nI L := (hE0 1 (by decide)).trans h.1.2.1
        have hK11 : K.1 11 = P.1 := (e3 11 (by decide)).trans hY11
        have hKo : ∀ i, i ≠ 0 → i ≠ 11 → K.1 i = Y i := fun i i0 i1 => (e3 i i0).trans (hYo i i1)
        unfold fX6_isError
        rw [e1, hK11]
        by_cases c : 0 ≤ E.2
        · have c' : ¬ E.2 < 0 := by rw [i_lt, t0]; rw [i_le, t0] at c; omega
          rw [if_pos c, if_pos rfl, if_neg c']
          have hx1 : (x + 1).toInt = x.toInt + 1 := (ti_add (by rw [t1]; omega) (by rw [t1]; omega)).trans (by rw [t1])
          have hsp : tX L P.1 E.1 := tX_c m3.1 (fun _ _ => rfl) (hE1.trans m3.1.2.1.symm) (by rw [hEo 6 (by decide) (by decide), ← o2.1 6 (by decide)])
          rcases p_sign k3 (a := 59) (by decide) with ⟨d1, d2, d3, d4⟩ | ⟨d1, d2, d3, d4⟩
          · rw [d1, if_neg i32_10]
            have hp1L := d2.2.2.2.2
            have hv2 : LX7_if v (fX7_sign V 59) 0 6 = 0 := by
              have q1 : ¬ V 0 1 ≤ V 0 5 := by rw [k3.1.2.1, k3.2.2.1, nI_leI (by omega) (by omega)]; omega
              rw [if_pos k3.2.2.2.1, if_neg q1, if_pos d2.2.2.2.1] at hv
              exact hv
            have sE : st L (p2 + 1) (fX4_skip P.1 59).1 E.1 := ⟨tX_c hsp (fun j hj => by funext q; exact d3 j q (by omega)) rfl rfl, d2.2.1, hE5, hE6, hp1L⟩
            generalize fX4_skip P.1 59 = S at *
            have j11 : wset K.1 11 S.1 11 = S.1 := ws_h
            have j0 : wset K.1 11 S.1 0 = K.1 0 := ws_o (by decide)
            have jo : ∀ i, i ≠ 0 → i ≠ 11 → wset K.1 11 S.1 i = Y i := fun i i0 i1 => (ws_o i1).trans (hKo i i0 i1)
            generalize wset K.1 11 S.1 = Y2 at *
            obtain ⟨i1, i2, i3, i4, i5, i6, i7⟩ := ih v w (p2 + 1) Y2 E.1 (fX7_sign V 59) (x + 1) (by rw [j11]; exact sE) (by rw [j11]; exact d2) hv2 (by omega) (by omega) (by omega) (by rw [j0]; exact e2) ((hE0 2 (by decide)).trans hp) (by omega) (by omega)
            refine ⟨i1, i2, i3, fun i i0 i11 => (i4 i i0 i11).trans (jo i i0 i11), ?_, fun j j0 j1 => (i6 j j0 j1).trans (hEo j j0 j1), fun q hq => (i7 q hq).trans (hE0 q hq)⟩
            rw [j11] at i5
            exact gB_trans o1 (gB_trans (gB_s d3) i5)
          · rw [d1, if_pos rfl, d2]
            have hpe : p2 = L := by
              apply Classical.byContradiction
              intro hne
              have q1 : ¬ V 0 1 ≤ V 0 5 := by rw [k3.1.2.1, k3.2.2.1, nI_leI (by omega) (by omega)]; omega
              rw [if_pos k3.2.2.2.1, if_neg q1, if_neg (show ¬ fX7_sign V 59 0 6 = 0 by rw [d3.2]; exact i32_10), d3.2] at hv
              exact i32_10 hv
            have hco : LX7_co w E.1 (x + 1) = (E.1, x + 1) := by
              cases w with
              | zero => rfl
              | succ w =>
                simp only [LX7_co]
                rw [if_pos (show E.1 0 1 ≤ E.1 0 5 by rw [hE1, hE5, nI_leI (by omega) (by omega)]; omega)]
            rw [hco]
            refine ⟨rfl, by dsimp only; omega, by dsimp only; rw [ws_o (by decide)]; exact e2, fun i i0 i1 => (ws_o i1).trans (hKo i i0 i1), ?_, hEo, hE0⟩
            dsimp only
            rw [ws_h]; exact o1
        · have c' : E.2 < 0 := by rw [i_lt, t0]; rw [i_le, t0] at c; omega
          rw [if_neg c, if_neg i32_10, if_pos c']
          refine ⟨by dsimp only; rw [Int32.add_zero], hx, e2, hKo, ?_, hEo, hE0⟩
          dsimp only
          rw [hK11]; exact o1
      · rw [k1] at m1; exact absurd m1 i32_10
    · rw [if_neg (show ¬ V 0 6 = 0 by rw [k5.2]; exact i32_10), k5.2] at hv
      exact absurd hv i32_10
theorem LR_kept2 {Z Z' : wZ} {D : wB} (hL : LR Z) (hb : RT (Z' 0) (Z' 12 1)) (hm : ∀ i, 1 < i → i < 11 → Z' i = fX1_mark Z i) (h1 : Z' 11 1 = fX1_keepMarked (Z 11) 1) (h4 : Z' 11 4 = Z 11 4) (hp : pR Z')
    (d0 : D 0 0 = Z 12 0 0) (d1 : ∀ q, q < 100 → D 1 q = Z 12 1 q) (d3 : D 3 = Z 12 3) (e0 : Z' 12 0 0 = fX7_records D 0 0) (e02 : Z' 12 0 2 = -1) (e3 : Z' 12 3 = fX7_records D 3) (e4 : Z' 12 4 = Z 12 4) (e5 : Z' 12 5 = Z 12 5) : LR Z' := by
  obtain ⟨l1, l2, l3, l4, l5⟩ := hL
  have hl3 := l3
  obtain ⟨kept, mark, k1, k2, k3, -⟩ := hl3
  have hmk := mark_eq k3 k2
  refine ⟨hb, e02, hR_push l3 l1 (fun i a b => hm i (by omega) b) h1 d0 d1 d3 e0 e3, sR_c l4 ?_ ?_ h4 e4 e5, hp⟩
  · rw [hm 2 (by decide) (by decide), hmk, ws_o (by omega)]
  · rw [hm 3 (by decide) (by decide), hmk, ws_o (by omega)]
theorem s_carryOut : sT_carryOut LR := by
  intro Z hL
  obtain ⟨h1, h2, h3⟩ := flt hL
  obtain ⟨L, hst⟩ := LR_st hL
  have hx : (if LX7_if 81 (bput (bput (Z 12) 0 5 0) 0 6 0) 0 6 = 0 then gX7_ce (LX7_co 81 (bput (fX7_records (LX7_if 81 (bput (bput (Z 12) 0 5 0) 0 6 0))) 0 5 0) 0) else (LX7_if 81 (bput (bput (Z 12) 0 5 0) 0 6 0), -3) : wB × Int32) = fX7_carryOut (Z 12) := rfl
  rw [← hx]
  clear hx
  unfold fX6_carryOut
  have hW := hst
  have hW1 : bput (bput (Z 12) 0 5 0) 0 6 0 0 1 = Z 12 0 1 := by rw [bput_q (by decide), bput_q (by decide)]
  have hW6 : bput (bput (Z 12) 0 5 0) 0 6 0 6 = Z 12 6 := by rw [bput_off (by decide), bput_off (by decide)]
  generalize bput (bput (Z 12) 0 5 0) 0 6 0 = W at hW hW1 hW6 h2 h3 ⊢
  have hF : gB (Z 11) (fX4_begin (Z 11)) := fun j hj => bput_off hj
  generalize hD0 : LX7_if 81 W = D at *
  generalize fX4_findFault (Z 11) = P at *
  rcases h3 with ⟨k1, k2⟩ | ⟨p', k0, k1, k2, k3⟩
  · rw [if_pos k1, if_pos k2]
    have hL1 : LR (wset Z 11 P.1) := LR_p hL (fun i a b => ws_o a) (by rw [ws_h]; exact h1) (by rw [ws_o (by decide)]; exact fR_refl _)
    obtain ⟨kept, mark, j1, j2, j3, j4, j5, -⟩ := hL.2.2.1
    have j3' : wset Z 11 P.1 11 1 0 = nI mark := by rw [ws_h, h1 1 (by decide)]; exact j3
    have hmk : fX1_mark (wset Z 11 P.1) = wset (wset Z 11 P.1) (4 + mark) (Z 0) := by rw [mark_eq j3' j2, ws_o (by decide)]
    have hmk0 := mark_eq j3 j2
    rw [hmk]
    obtain ⟨r1, r2, r3, r4⟩ := rec_spec (B := D) j1 ((h2.2 0 (by decide)).trans j5)
    -- the start of the class
    have y11 : wset (wset (wset Z 11 P.1) (4 + mark) (Z 0)) 11 (fX4_begin (wset (wset Z 11 P.1) (4 + mark) (Z 0) 11)) 11 = fX4_begin P.1 := by rw [ws_h, ws_o (by omega), ws_h]
    have y0 : wset (wset (wset Z 11 P.1) (4 + mark) (Z 0)) 11 (fX4_begin (wset (wset Z 11 P.1) (4 + mark) (Z 0) 11)) 0 = Z 0 := by rw [ws_o (by decide), ws_o (by omega), ws_o (by decide)]
    have yo : ∀ i, i ≠ 11 → wset (wset (wset Z 11 P.1) (4 + mark) (Z 0)) 11 (fX4_begin (wset (wset Z 11 P.1) (4 + mark) (Z 0) 11)) i = fX1_mark Z i := fun i hi => by
      rw [ws_o hi, hmk0]
      unfold wset
      by_cases c : i = 4 + mark
      · rw [if_pos c, if_pos c]
      · rw [if_neg c, if_neg c, if_neg hi]
    generalize wset (wset (wset Z 11 P.1) (4 + mark) (Z 0)) 11 (fX4_begin (wset (wset Z 11 P.1) (4 + mark) (Z 0) 11)) = Y at *
    -- the start of the reference
    have c0 : ∀ q, q ≠ 0 → q ≠ 5 → bput (fX7_records D) 0 5 0 0 q = D 0 q := fun q q0 q5 => by rw [bput_q q5, r2 q q0]
    have c00 : bput (fX7_records D) 0 5 0 0 0 = fX7_records D 0 0 := bput_q (by decide)
    have c05 : bput (fX7_records D) 0 5 0 0 5 = 0 := bput_h
    have co : ∀ j, j ≠ 0 → j ≠ 3 → bput (fX7_records D) 0 5 0 j = D j := fun j a b => by rw [bput_off a, r3 j a b]
    have c3 : bput (fX7_records D) 0 5 0 3 = fX7_records D 3 := bput_off (by decide)
    generalize bput (fX7_records D) 0 5 0 = C at *
    have hb11 : gB (fX4_begin (Z 11)) (fX4_begin P.1) := fun j hj => by
      unfold fX4_begin
      rw [bput_off hj, bput_off hj, h1 j hj]
    have hb50 : fX4_begin P.1 5 0 = nI 0 := bput_h
    have hW2 : st L 0 (Y 11) W := by
      rw [y11]
      exact ⟨tX_c hW.1 (fun j hj => hb11 j (by omega)) rfl rfl, hb50, hW.2.2.1, hW.2.2.2.1, hW.2.2.2.2⟩
    have hC2 : st L 0 (Y 11) C := by
      have e1 : C 0 1 = W 0 1 := by rw [c0 1 (by decide) (by decide), h2.2 1 (by decide), hW1]
      have e6 : C 6 = W 6 := by rw [co 6 (by decide) (by decide), h2.1 6 (by decide), hW6]
      exact ⟨tX_c hW2.1 (fun _ _ => rfl) e1 e6, hW2.2.1, c05, by rw [c0 6 (by decide) (by decide)]; exact k2, Nat.zero_le _⟩
    obtain ⟨i1, i2, i3, i4, i5, i6, i7⟩ := co_eq 80 81 81 0 Y C W 0 hC2 hW2 (by rw [hD0]; exact k2) (by decide) (by decide) (by decide) (by rw [y0, co 1 (by decide) (by decide), h2.1 1 (by decide)]; exact hL.1) (by rw [c0 2 (by decide) (by decide), h2.2 2 (by decide)]; exact hL.2.1) (by decide) (by decide)
    generalize LX6_co 80 Y 0 = Q at *
    generalize LX7_co 81 C 0 = R at *
    unfold gX6_end gX7_ce fX6_recorded fX6_isError
    dsimp only
    have hc : (0 : Int32) ≤ Q.2 := by rw [i_le, t0]; exact i2
    rw [if_pos hc, if_pos rfl]
    unfold sZ
    dsimp only
    have hk1 : bput (Q.1 11) 6 0 0 1 = Z 11 1 := by rw [bput_off (by decide), i5 1 (by decide), y11]; unfold fX4_begin; rw [bput_off (by decide), h1 1 (by decide)]
    have hk4 : bput (Q.1 11) 6 0 0 4 = Z 11 4 := by rw [bput_off (by decide), i5 4 (by decide), y11]; unfold fX4_begin; rw [bput_off (by decide), h1 4 (by decide)]
    have hk6 : bput (Q.1 11) 6 0 0 6 0 = 0 := bput_h
    generalize bput (Q.1 11) 6 0 0 = H at *
    obtain ⟨z1, z2, z3⟩ := keep_eq (B := H) (by rw [hk1]; exact j3) j2 (by rw [hk1]; exact j4) j1
    have hkk : fX1_keepMarked H 1 = fX1_keepMarked (Z 11) 1 := by
      unfold fX1_keepMarked
      rw [hk1]
      split
      · funext q; unfold bput; rw [hk1]
      · funext q; unfold bput; rw [hk1]
    refine ⟨?_, i1, LR_kept2 (D := D) hL ?_ (fun i a b => ?_) ?_ ?_ ⟨?_, ?_, ?_⟩ (h2.2 0 (by decide)) (fun q _ => by rw [h2.1 1 (by decide)]) (h2.1 3 (by decide)) ?_ ?_ ?_ ?_ ?_⟩
    · rw [ws_o (by decide), ws_o (by decide), i4 12 (by decide) (by decide), yo 12 (by decide), hmk0, ws_o (by omega)]
    · rw [ws_o (by decide), ws_o (by decide), ws_o (by decide), ws_h, bput_off (by decide)]; exact i3
    · rw [ws_o (by omega), ws_o (by omega), ws_o (by omega), i4 i (by omega) (by omega), yo i (by omega)]
    · rw [ws_o (by decide), ws_h, ws_h, hkk]
    · rw [ws_o (by decide), ws_h, ws_h, z3 4 (by decide), hk4]
    · rw [ws_o (by decide), ws_h, ws_h, ws_h, z3 6 (by decide), hk6, bput_h]
    · rw [ws_h, bput_h]; decide
    · intro q hq
      rw [ws_h, bput_h, t0] at hq
      omega
    · rw [ws_h, bput_q (by decide), i7 0 (by decide), c00]
    · rw [ws_h, bput_q (by decide), i7 2 (by decide), c0 2 (by decide) (by decide), h2.2 2 (by decide)]; exact hL.2.1
    · rw [ws_h, bput_off (by decide), i6 3 (by decide) (by decide), c3]
    · rw [ws_h, bput_off (by decide), i6 4 (by decide) (by decide), co 4 (by decide) (by decide), h2.1 4 (by decide)]
    · rw [ws_h, bput_off (by decide), i6 5 (by decide) (by decide), co 5 (by decide) (by decide), h2.1 5 (by decide)]
  · rw [if_neg (show ¬ P.2 = -6 by rw [k1]; intro q; rw [i_eq, nI_ti (by omega)] at q; have : (-6 : Int32).toInt = -6 := by decide
                                   omega), if_neg (show ¬ D 0 6 = 0 by rw [k3]; exact i32_10)]
    refine ⟨by dsimp only; rw [ws_o (by decide)], rfl, LR_p hL (fun i a b => by rw [ws_o b]; exact ws_o a) ?_ ?_⟩
    · rw [ws_o (by decide)]; dsimp only; rw [ws_h]; exact h1
    · rw [ws_h]; exact h2

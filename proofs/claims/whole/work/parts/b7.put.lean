/-! put and wipe: the bytes of a long -/
def xN (x : Int64) : Nat := x.toUInt64.toNat
def shN (x : Int64) : Int64 := (x.toUInt64 >>> ((8 : Int32).toInt64.toUInt64 &&& Int64.toUInt64 63)).toInt64
theorem xN_lt (x : Int64) : xN x < 2 ^ 64 := x.toUInt64.toNat_lt
theorem xN_sh (x : Int64) : xN (shN x) = xN x / 256 := by
  have h : xN (shN x) = (x.toUInt64 >>> ((8 : Int32).toInt64.toUInt64 &&& Int64.toUInt64 63)).toNat := rfl
  have h8 : ((8 : Int32).toInt64.toUInt64 &&& Int64.toUInt64 63).toNat = 8 := by decide
  rw [h, UInt64.toNat_shiftRight, h8, Nat.shiftRight_eq_div_pow]
  rfl
theorem xN_and (x : Int64) : xN (x &&& 255) = xN x % 256 := by
  have h : xN (x &&& 255) = (x.toUInt64 &&& 255).toNat := rfl
  have h255 : (255 : UInt64).toNat = 2 ^ 8 - 1 := by decide
  rw [h, UInt64.toNat_and, h255, Nat.and_two_pow_sub_one_eq_mod]
  rfl
theorem xN_ti {x : Int64} (h : xN x < 256) : x.toInt = (xN x : Int) := by
  have e : x.toInt = x.toBitVec.toInt := rfl
  have e2 : xN x = x.toBitVec.toNat := rfl
  rw [e, BitVec.toInt_eq_toNat_of_lt (by rw [← e2]; omega), e2]
theorem xN_32 {x : Int64} (h : xN x < 256) : x.toInt32.toInt = (xN x : Int) := by
  rw [Int64.toInt_toInt32, xN_ti h]
  exact Int.bmod_eq_of_le (by omega) (by omega)
theorem xN_0 {x : Int64} : lg_cmp x 0 = 0 ↔ xN x = 0 := by
  rw [lg_cmp_eq]
  constructor
  · intro h; rw [h]; rfl
  · intro h
    have h1 : x.toInt = 0 := (xN_ti (by omega)).trans (by rw [h]; rfl)
    exact Int64.toInt_inj.mp (h1.trans rfl)
theorem xN_lt33 {x : Int64} (h : xN x < 256) : lg_cmp x 33 < 0 ↔ xN x < 33 := by
  have e : (33 : Int64).toInt = 33 := by decide
  rw [lg_cmp_lt, Int64.lt_iff_toInt_lt, xN_ti h, e]
  omega
theorem xN_le126 {x : Int64} (h : xN x < 256) : lg_cmp x 126 ≤ 0 ↔ xN x ≤ 126 := by
  have e : (126 : Int64).toInt = 126 := by decide
  rw [lg_cmp_le, Int64.le_iff_toInt_le, xN_ti h, e]
  omega
theorem ct_1 : ∀ (u k : Nat) (x : Int64), (LX7_ct u k 1 x).2.1 = 1 := by
  intro u
  induction u with
  | zero => intro k x; rfl
  | succ u ih =>
    intro k x
    simp only [LX7_ct]
    by_cases c : lg_cmp (x &&& 255) 0 = 0
    · rw [if_pos c]
    · rw [if_neg c, if_neg i32_10]
      exact ih _ _
theorem ct_eq : ∀ (u k : Nat) (x : Int64), xN x < 256 ^ u →
    ((LX7_ct u k 0 x).2.1 = 0 ∧ lg_cmp (LX7_ct u k 0 x).2.2 0 = 0 ∧ LX2_len u x (nI k) = nI (LX7_ct u k 0 x).1 ∧ k ≤ (LX7_ct u k 0 x).1 ∧ (LX7_ct u k 0 x).1 ≤ k + u ∧ ∀ i, i < (LX7_ct u k 0 x).1 - k → 33 ≤ xN x / 256 ^ i % 256 ∧ xN x / 256 ^ i % 256 ≤ 126) ∨
    ((¬ (LX7_ct u k 0 x).2.1 = 0 ∨ ¬ lg_cmp (LX7_ct u k 0 x).2.2 0 = 0) ∧ LX2_len u x (nI k) = 0) := by
  intro u
  induction u with
  | zero =>
    intro k x hx
    rw [Nat.pow_zero] at hx
    have h0 : LX7_ct 0 k 0 x = (k, 0, x) := rfl
    rw [h0]
    exact Or.inl ⟨rfl, xN_0.mpr (by dsimp only; omega), rfl, Nat.le_refl _, Nat.le_refl _, fun i hi => absurd hi (by dsimp only; omega)⟩
  | succ u ih =>
    intro k x hx
    have hb := xN_and x
    have hb2 : xN (x &&& 255) < 256 := by omega
    simp only [LX7_ct, LX2_len]
    by_cases c : xN x % 256 = 0
    · rw [if_pos (xN_0.mpr (by omega))]
      by_cases d : xN x = 0
      · rw [if_pos (xN_0.mpr d)]
        exact Or.inl ⟨rfl, xN_0.mpr d, rfl, Nat.le_refl _, by dsimp only; omega, fun i hi => absurd hi (by dsimp only; omega)⟩
      · rw [if_neg (fun q => d (xN_0.mp q)), if_pos ((xN_lt33 hb2).mpr (by omega))]
        exact Or.inr ⟨Or.inr (fun q => d (xN_0.mp q)), rfl⟩
    · have c0 : ¬ lg_cmp (x &&& 255) 0 = 0 := fun q => c (by have := xN_0.mp q; omega)
      have d0 : ¬ lg_cmp x 0 = 0 := fun q => c (by have := xN_0.mp q; omega)
      rw [if_neg c0, if_pos trivial, if_neg d0, in_in]
      have e33 : (33 : Int32).toInt = 33 := by decide
      have e126 : (126 : Int32).toInt = 126 := by decide
      have hv := xN_32 hb2
      have hsx : (x.toUInt64 >>> ((8 : Int32).toInt64.toUInt64 &&& Int64.toUInt64 63)).toInt64 = shN x := rfl
      rw [hsx]
      by_cases e1 : xN x % 256 < 33
      · rw [if_pos (show lg_cmp (x &&& 255) 33 < 0 from (xN_lt33 hb2).mpr (by omega)), if_pos (show (x &&& 255).toInt32 < 33 by rw [i_lt, hv, e33]; omega), if_pos rfl]
        exact Or.inr ⟨Or.inl (by rw [ct_1]; exact i32_10), rfl⟩
      · rw [if_neg (show ¬ lg_cmp (x &&& 255) 33 < 0 from fun q => e1 (by have := (xN_lt33 hb2).mp q; omega)), if_neg (show ¬ (x &&& 255).toInt32 < 33 by rw [i_lt, hv, e33]; omega)]
        by_cases e2 : 126 < xN x % 256
        · rw [if_neg (show ¬ lg_cmp (x &&& 255) 126 ≤ 0 from fun q => by have := (xN_le126 hb2).mp q; omega), if_pos (show (126 : Int32) < (x &&& 255).toInt32 by rw [i_lt, hv, e126]; omega), if_pos rfl]
          exact Or.inr ⟨Or.inl (by rw [ct_1]; exact i32_10), rfl⟩
        · rw [if_pos (show lg_cmp (x &&& 255) 126 ≤ 0 from (xN_le126 hb2).mpr (by omega)), if_neg (show ¬ (126 : Int32) < (x &&& 255).toInt32 by rw [i_lt, hv, e126]; omega), if_neg i32_10, nI_1]
          have hs := xN_sh x
          rcases ih (k + 1) (shN x) (by rw [hs, Nat.pow_succ] at *; omega) with ⟨k1, k2, k3, k4, k5, k6⟩ | k
          · refine Or.inl ⟨k1, k2, k3, by omega, by omega, fun i hi => ?_⟩
            cases i with
            | zero => rw [Nat.pow_zero, Nat.div_one]; omega
            | succ i =>
              have := k6 i (by omega)
              rw [hs, Nat.div_div_eq_div_mul] at this
              rw [Nat.pow_succ, Nat.mul_comm]
              exact this
          · exact Or.inr k
/-- a char of such a byte is the byte -/
theorem ch_id {v : Int32} (h : 0 ≤ v.toInt ∧ v.toInt ≤ 126) : (v.toUInt32 % 65536).toInt32 = v := by
  obtain ⟨j, hj, rfl⟩ : ∃ j : Nat, j ≤ 126 ∧ v = nI j := ⟨v.toNatClampNeg, by have := (tn_of h.1).2; omega, (i_nn h.1).symm⟩
  have hall : ∀ j : Fin 127, ((nI j.1).toUInt32 % 65536).toInt32 = nI j.1 := by decide
  exact hall ⟨j, by omega⟩
theorem by_eq (a : Int64) {u : Nat} (hu : u < 8) : (((a.toUInt64 >>> ((nI (8 * u)).toInt64.toUInt64 &&& Int64.toUInt64 63)).toInt64) &&& 255).toInt32.toInt = ((xN a / 256 ^ u % 256 : Nat) : Int) := by
  have hall : ∀ u : Fin 8, ((nI (8 * u.1)).toInt64.toUInt64 &&& Int64.toUInt64 63).toNat = 8 * u.1 := by decide
  have h8 := hall ⟨u, hu⟩
  dsimp only at h8
  have hx : xN ((a.toUInt64 >>> ((nI (8 * u)).toInt64.toUInt64 &&& Int64.toUInt64 63)).toInt64) = xN a / 256 ^ u := by
    have h : xN ((a.toUInt64 >>> ((nI (8 * u)).toInt64.toUInt64 &&& Int64.toUInt64 63)).toInt64) = (a.toUInt64 >>> ((nI (8 * u)).toInt64.toUInt64 &&& Int64.toUInt64 63)).toNat := rfl
    rw [h, UInt64.toNat_shiftRight, h8, Nat.mod_eq_of_lt (by omega), Nat.shiftRight_eq_div_pow, Nat.pow_mul]
    rfl
  have h1 := xN_and ((a.toUInt64 >>> ((nI (8 * u)).toInt64.toUInt64 &&& Int64.toUInt64 63)).toInt64)
  rw [xN_32 (by rw [h1]; exact Nat.mod_lt _ (by decide)), h1, hx]
theorem pp_eq {a : Int64} : ∀ (u l : Nat) (B C : wB), u ≤ 8 → (∀ i, i < u → 33 ≤ xN a / 256 ^ i % 256 ∧ xN a / 256 ^ i % 256 ≤ 126) → l + u ≤ 80 → tX l B C →
    tX (l + u) (LX6_put a u B) (LX7_pp a u C) ∧ (∀ j, j ≠ 6 → j ≠ 7 → LX6_put a u B j = B j) ∧ (∀ j, j ≠ 0 → j ≠ 6 → LX7_pp a u C j = C j) ∧ ∀ q, q ≠ 1 → LX7_pp a u C 0 q = C 0 q := by
  intro u
  induction u with
  | zero => intro l B C _ _ _ h; exact ⟨h, fun _ _ _ => rfl, fun _ _ _ => rfl, fun _ _ => rfl⟩
  | succ u ih =>
    intro l B C hu hb hl h
    obtain ⟨h1, h2, h3, h4⟩ := h
    have e80 : (80 : Int32) = nI 80 := rfl
    simp only [LX6_put, LX7_pp]
    have hv := by_eq a (show u < 8 by omega)
    have hbu := hb u (by omega)
    generalize (((a.toUInt64 >>> ((nI (8 * u)).toInt64.toUInt64 &&& Int64.toUInt64 63)).toInt64) &&& 255).toInt32 = v at *
    rw [ch_id (v := v) ⟨by omega, by omega⟩]
    have ha : fX2_append B v = bput (bput B 7 l v) 6 0 (nI (l + 1)) := by
      unfold fX2_append
      rw [h1, if_neg (nI_pos (show l < 2 ^ 31 by omega)), if_neg (by rw [e80, nI_leI (by omega) (by omega)]; omega), nI_clamp (by omega), nI_1]
    rw [ha, h2, nI_clamp (show l < 2 ^ 31 by omega), nI_1]
    obtain ⟨i1, i2, i3, i4⟩ := ih (l + 1) (bput (bput B 7 l v) 6 0 (nI (l + 1))) (bput (bput C 6 l v) 0 1 (nI (l + 1))) (by omega) (fun i hi => hb i (by omega)) (by omega) ⟨bput_h, bput_h, by omega, fun q hq => by
      have g1 : bput (bput B 7 l v) 6 0 (nI (l + 1)) 7 = bput B 7 l v 7 := bput_off (by decide)
      have g2 : bput (bput C 6 l v) 0 1 (nI (l + 1)) 6 = bput C 6 l v 6 := bput_off (by decide)
      rw [g1, g2]
      by_cases c : q = l
      · rw [c, bput_h, bput_h]; exact ⟨rfl, by omega, by omega⟩
      · rw [bput_q c, bput_q c]; exact h4 q (by omega)⟩
    rw [show l + (u + 1) = l + 1 + u by omega]
    refine ⟨i1, fun j a b => ?_, fun j a b => ?_, fun q hq => ?_⟩
    · rw [i2 j a b, bput_off a, bput_off b]
    · rw [i3 j a b, bput_off a, bput_off b]
    · rw [i4 q hq, bput_q hq, bput_off (by decide)]
theorem s_put : sT_put LR := by
  intro Z a hL
  have hL' := hL
  obtain ⟨l1, l2, l3, l4, p1, p2, p3⟩ := hL'
  have hl := (tn_of (a := Z 12 0 1) p2.1).2
  have hl2 := i_nn (x := Z 12 0 1) p2.1
  have hx : gX7_put (Z 12) a (LX7_ct 8 0 0 a) = fX7_put (Z 12) a := rfl
  rw [← hx]
  clear hx
  unfold fX6_put fX2_lengthOf gX7_put
  have h0 : (0 : Int32) = nI 0 := rfl
  have e80 : (80 : Int32).toInt = 80 := by decide
  rcases ct_eq 8 0 a (by have := xN_lt a; omega) with ⟨k1, k2, k3, -, k5, k6⟩ | ⟨k1, k2⟩
  · rw [h0, k3, ← h0, k1, if_pos rfl]
    generalize LX7_ct 8 0 0 a = R at *
    have hR8 : R.1 ≤ 8 := by omega
    by_cases c : R.1 = 0
    · rw [if_neg (show ¬ (1 : Int32) ≤ nI R.1 by rw [c]; decide), if_pos (show nI R.1 = 0 by rw [c]; rfl)]
      exact ask hL rfl
    · rw [if_pos (show (1 : Int32) ≤ nI R.1 by rw [i_le, t1, nI_ti (by omega)]; omega), if_neg (show ¬ nI R.1 = 0 by rw [i_eq, t0, nI_ti (by omega)]; omega), if_pos k2, p1]
      by_cases d : Z 12 0 1 + nI R.1 ≤ 80
      · rw [if_pos d, if_pos d, nI_clamp (by omega)]
        have hsum : (Z 12 0 1 + nI R.1).toInt = (Z 12 0 1).toInt + R.1 := (ti_add (by rw [nI_ti (by omega)]; omega) (by rw [nI_ti (by omega)]; omega)).trans (by rw [nI_ti (by omega)])
        rw [i_le, hsum, e80] at d
        obtain ⟨t, i2, i3, i4⟩ := pp_eq (a := a) R.1 (Z 12 0 1).toNatClampNeg (Z 11) (Z 12) hR8 (fun i hi => k6 i (by omega)) (by omega) ⟨by rw [hl2]; exact p1, hl2.symm, by omega, fun q hq => p3 q (by omega)⟩
        unfold gX6_put gX7_pe
        obtain ⟨t1', t2', t3', t4'⟩ := t
        refine ⟨by dsimp only; rw [ws_o (by decide)], t1'.trans t2'.symm, ?_⟩
        dsimp only
        refine ⟨?_, ?_, hR_c l3 (fun i a b => Or.inl ?_) ?_ ?_ ?_, sR_c l4 ?_ ?_ ?_ ?_ ?_, ⟨?_, ?_, fun q hq => ?_⟩⟩
        · rw [ws_h, ws_o (by decide), ws_o (by decide), i3 1 (by decide) (by decide)]; exact l1
        · rw [ws_h, i4 2 (by decide)]; exact l2
        · rw [ws_o (by omega), ws_o (by omega)]
        · rw [ws_o (by decide), ws_h, i2 1 (by decide) (by decide)]
        · rw [ws_h, i4 0 (by decide)]
        · rw [ws_h, i3 3 (by decide) (by decide)]
        · rw [ws_o (by decide), ws_o (by decide)]
        · rw [ws_o (by decide), ws_o (by decide)]
        · rw [ws_o (by decide), ws_h, i2 4 (by decide) (by decide)]
        · rw [ws_h, i3 4 (by decide) (by decide)]
        · rw [ws_h, i3 5 (by decide) (by decide)]
        · rw [ws_h, ws_o (by decide), ws_h, t1', t2']
        · rw [ws_h, t2', nI_ti (by omega)]; omega
        · rw [ws_h, t2', nI_ti (by omega)] at hq
          rw [ws_h, ws_o (by decide), ws_h]
          exact t4' q (by omega)
      · rw [if_neg d, if_neg d]; exact ask hL rfl
  · rw [h0, k2, ← h0, if_neg (show ¬ (1 : Int32) ≤ 0 by decide)]
    generalize LX7_ct 8 0 0 a = R at *
    by_cases c : R.2.1 = 0
    · rw [if_pos c]
      by_cases d : nI R.1 = 0
      · rw [if_pos d]; exact ask hL rfl
      · rw [if_neg d]
        rcases k1 with k1 | k1
        · exact absurd c k1
        · rw [if_neg k1]; exact ask hL rfl
    · rw [if_neg c]; exact ask hL rfl
theorem s_wipe : sT_wipe LR := by
  intro Z hL
  have hL' := hL
  obtain ⟨l1, l2, l3, l4, p1, p2, p3⟩ := hL'
  unfold fX6_wipe fX7_wipe
  refine ⟨by dsimp only; rw [ws_o (by decide)], p1, ?_⟩
  dsimp only
  refine ⟨?_, ?_, hR_c l3 (fun i a b => Or.inl ?_) ?_ ?_ ?_, sR_c l4 ?_ ?_ ?_ ?_ ?_, ⟨?_, ?_, fun q hq => ?_⟩⟩
  · rw [ws_h, ws_o (by decide), ws_o (by decide), bput_off (by decide)]; exact l1
  · rw [ws_h, bput_q (by decide)]; exact l2
  · rw [ws_o (by omega), ws_o (by omega)]
  · rw [ws_o (by decide), ws_h, bput_off (by decide)]
  · rw [ws_h, bput_q (by decide)]
  · rw [ws_h, bput_off (by decide)]
  · rw [ws_o (by decide), ws_o (by decide)]
  · rw [ws_o (by decide), ws_o (by decide)]
  · rw [ws_o (by decide), ws_h, bput_off (by decide)]
  · rw [ws_h, bput_off (by decide)]
  · rw [ws_h, bput_off (by decide)]
  · rw [ws_h, ws_o (by decide), ws_h, bput_h, bput_h]
  · rw [ws_h, bput_h]; decide
  · rw [ws_h, bput_h, t0] at hq
    omega

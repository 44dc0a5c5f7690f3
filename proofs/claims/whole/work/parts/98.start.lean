set_option maxHeartbeats 4000000 in
set_option maxRecDepth 100000 in
theorem law_start {p : Program} {e : Env} {s : State} {m : MethodId} {below : List Frame} {meth : Method} {c : Code} (l : Launch) {b L : Nat} {xs : Nat → Int32} {LR : wZ → Prop} (hst : lS LR) (hL0 : LR Z0) (hL : L ≤ 2048) (C0 : lw_At p s m meth c b L xs) : W p l e room_1 s m #[Value.ref b] below meth c s.heap [] 0 0 (lw_Z below #[Value.ref b] s) (entryFrame m ([Value.ref b] : List Value).toArray 4) := by
  obtain ⟨hx, hb, hr, hml, hown, hts9, hX, hbl, hlocks, hgv⟩ := id C0
  have hts : ∀ w ∈ wsL_law, w.before #[Value.ref b] s = true := fun w h => hts9 w (wsL_law_in w h)
  have hown : s.vm.findClass RL = some m.cls := hown
  have hb : c.code = cL_law := hb
  have hA : ∀ q : Nat, s.heap.size ≤ q → (fun q : Nat => s.heap.size ≤ q) q := fun _ h => h
  have hbA : ¬ (fun q : Nat => s.heap.size ≤ q) b := Nat.not_le.mpr hbl
  have hin0 : ∀ w ∈ wsX00, w ∈ wsL_law := inlX0
  obtain ⟨c0, iS0, hKn0⟩ := u_known (C := RX0) (T := TX0) (N := 8) (n := 8) hts hin0 (hts9 (.instantiable RX0 8) (by decide +kernel))
  have hin1 : ∀ w ∈ wsX10, w ∈ wsL_law := inlX1
  obtain ⟨c1, iS1, hKn1⟩ := u_known (C := RX1) (T := TX1) (N := 3) (n := 3) hts hin1 (hts9 (.instantiable RX1 3) (by decide +kernel))
  have hin2 : ∀ w ∈ wsX20, w ∈ wsL_law := inlX2
  obtain ⟨c2, iS2, hKn2⟩ := u_known (C := RX2) (T := TX2) (N := 2) (n := 2) hts hin2 (hts9 (.instantiable RX2 2) (by decide +kernel))
  have hin3 : ∀ w ∈ wsX30, w ∈ wsL_law := inlX3
  obtain ⟨c3, iS3, hKn3⟩ := u_known (C := RX3) (T := TX3) (N := 5) (n := 5) hts hin3 (hts9 (.instantiable RX3 5) (by decide +kernel))
  have hin4 : ∀ w ∈ wsX40, w ∈ wsL_law := inlX4
  obtain ⟨c4, iS4, hKn4⟩ := u_known (C := RX4) (T := TX4) (N := 6) (n := 6) hts hin4 (hts9 (.instantiable RX4 6) (by decide +kernel))
  have hin5 : ∀ w ∈ wsX50, w ∈ wsL_law := inlX5
  obtain ⟨c5, iS5, hKn5⟩ := u_known (C := RX5) (T := TX5) (N := 12) (n := 12) hts hin5 (hts9 (.instantiable RX5 12) (by decide +kernel))
  have hin6 : ∀ w ∈ wsX60, w ∈ wsL_law := inlX6
  obtain ⟨c6, iS6, hKn6⟩ := u_known (C := RX6) (T := TX6) (N := 7) (n := 7) hts hin6 (hts9 (.instantiable RX6 7) (by decide +kernel))
  have hin7 : ∀ w ∈ wsX70, w ∈ wsL_law := inlX7
  obtain ⟨c7, iS7, hKn7⟩ := u_known (C := RX7) (T := TX7) (N := 17) (n := 17) hts hin7 (hts9 (.instantiable RX7 17) (by decide +kernel))
  obtain ⟨dC, dI, hKc⟩ : ∃ (dC : Nat → ClassId) (dI : Nat → Nat → Nat), ∀ (k : Nat) (q : vw_C), vwCl[k]? = some q → u_Kn s q.1 q.2.1 q.2.2 (dC k) (dI k) := by
    refine ⟨fun k => match k with
      | 0 => c0
      | 1 => c1
      | 2 => c2
      | 3 => c3
      | 4 => c4
      | 5 => c5
      | 6 => c6
      | _ => c7, fun k => match k with
      | 0 => iS0
      | 1 => iS1
      | 2 => iS2
      | 3 => iS3
      | 4 => iS4
      | 5 => iS5
      | 6 => iS6
      | _ => iS7, ?_⟩
    intro k q hq
    match k, hq with
    | 0, hq => cases hq; exact hKn0
    | 1, hq => cases hq; exact hKn1
    | 2, hq => cases hq; exact hKn2
    | 3, hq => cases hq; exact hKn3
    | 4, hq => cases hq; exact hKn4
    | 5, hq => cases hq; exact hKn5
    | 6, hq => cases hq; exact hKn6
    | 7, hq => cases hq; exact hKn7
    | k + 8, hq => simp [vwCl] at hq
  obtain ⟨a0, ka0, co0, fa0, ga0, ha0⟩ := Cond.arrayClass_spec (hts9 (.arrayClass .int) (by decide +kernel))
  obtain ⟨a1, ka1, co1, fa1, ga1, ha1⟩ := Cond.arrayClass_spec (hts9 (.arrayClass .boolean) (by decide +kernel))
  obtain ⟨a2, ka2, co2, fa2, ga2, ha2⟩ := Cond.arrayClass_spec (hts9 (.arrayClass .char) (by decide +kernel))
  have hO5 : va_AO RX5 s := va_AO.of (hts9 (.arrayOver (.object RX5)) (by decide +kernel))
  have hO0 : va_AO RX0 s := va_AO.of (hts9 (.arrayOver (.object RX0)) (by decide +kernel))
  obtain ⟨co3, a3, ka3, fc3, -, ga3, ha3, fa3⟩ := Cond.arrayOver_spec (va_AO.use (A := #[Value.ref b]) hO5)
  obtain ⟨co4, a4, ka4, fc4, -, ga4, ha4, fa4⟩ := Cond.arrayOver_spec (va_AO.use (A := #[Value.ref b]) hO0)
  have hNe : wNest s := ⟨va_Nw.of rfl (hts9 (.methodLinkNest RX0 11 yX3_init "RampShafts") (by decide +kernel)), va_Nw.of rfl (hts9 (.methodLinkNest RX0 24 yX5_init "RampShafts") (by decide +kernel)), va_Nw.of rfl (hts9 (.methodLinkNest RX4 11 yX2_init "RampShafts") (by decide +kernel)), va_Nw.of rfl (hts9 (.methodLinkNest RX6 36 yX4_init "RampShafts") (by decide +kernel))⟩
  obtain ⟨arr, earr⟩ : ∃ arr : Nat → ClassId, arr = fun k => match k with
      | 0 => a0
      | 1 => a1
      | 2 => a2
      | 3 => a3
      | _ => a4 := ⟨_, rfl⟩
  obtain ⟨G, eG⟩ : ∃ G : wG, G = ((dC, dI), arr, (fun _ _ => 0), s.heap.size) := ⟨_, rfl⟩
  have hG1 : G.1 = (dC, dI) := by rw [eG]
  have hGb : G.2.2.2 = s.heap.size := by rw [eG]
  have hK : va_K G.1 vwCl (wT G) s := by
    subst eG; subst earr
    refine ⟨hKc, ?_⟩
    intro k q hq
    match k, hq with
    | 0, hq => cases hq; exact ⟨fun N z => ⟨(fun k h => by cases h), ka0, ga0, co0, ha0⟩, fa0⟩
    | 1, hq => cases hq; exact ⟨fun N z => ⟨(fun k h => by cases h), ka1, ga1, co1, ha1⟩, fa1⟩
    | 2, hq => cases hq; exact ⟨fun N z => ⟨(fun k h => by cases h), ka2, ga2, co2, ha2⟩, fa2⟩
    | 3, hq => cases hq; exact ⟨fun N z => ⟨(fun k h => by cases h), ka3, ga3, co3, ha3⟩, ka3, co3, ga3, ha3, fc3, fa3⟩
    | 4, hq => cases hq; exact ⟨fun N z => ⟨(fun k h => by cases h), ka4, ga4, co4, ha4⟩, ka4, co4, ga4, ha4, fc4, fa4⟩
    | k + 5, hq => simp at hq
  have hS : va_S (fun q : Nat => s.heap.size ≤ q) s.heap s.heap [] := va_S.rf
  have hP : va_P G.1 vwCl [] s.heap := fun k q h => by simp at h
  have hD : va_D (fun q : Nat => s.heap.size ≤ q) [] := ⟨fun i j p q h => by simp at h, fun k q h => by simp at h⟩
  have hl := lv_entry ([.ref b]) (n := 4) (Nat.le_of_ble_eq_true rfl)
  rw [lg_entry_eq]
  generalize (lg_sl ([.ref b]) ++ List.replicate (4 - (lg_sl ([.ref b])).length) Slot.unset).toArray = ls at hl ⊢
  have hl : lv_has ls 4 [(0, .ref b)] := hl
  refine va_new (D := G.1) (cl := vwCl) (tys := wT G) (ci := 6) (fs := [.null, .null, .null, .null, .null, .null, .null]) (C := RX6) (T := TX6) (N := 7) hx hb hts hin6 tyX6 tyX6_ok hown (hts9 (.classLink RL 7 RX6) (by decide +kernel)) (hts9 (.instantiable RX6 7) (by decide +kernel)) (hts9 (.initialized RX6) (by decide +kernel)) hK hP hD hS hA rfl (fun j hj => by rcases (show j = 0 ∨ j = 1 ∨ j = 2 ∨ j = 3 ∨ j = 4 ∨ j = 5 ∨ j = 6 by omega) with rfl | rfl | rfl | rfl | rfl | rfl | rfl <;> rfl) (Nat.le_of_ble_eq_true rfl) (Nat.le_of_ble_eq_true rfl) dL_law_0 (fun q6 H hP hD hS => ?_)
  have hP : va_P G.1 vwCl ([(q6, .inr (6, [.null, .null, .null, .null, .null, .null, .null]))]) H := hP
  have hD : va_D (fun q : Nat => s.heap.size ≤ q) ([(q6, .inr (6, [.null, .null, .null, .null, .null, .null, .null]))]) := hD
  refine W.widen (k := 1) (n := 7) (by decide) (by decide) ?_
  refine lv_dup hx hb dL_law_3 rfl ?_
  have hPc := hP.sub (ws' := [(q6, .inr (6, [.null, .null, .null, .null, .null, .null, .null]))]) [0] rfl
  have hDc := hD.sub (ws' := [(q6, .inr (6, [.null, .null, .null, .null, .null, .null, .null]))]) [0] (by decide) rfl
  have hFc := va_free (wc := [(q6, .inr (6, [.null, .null, .null, .null, .null, .null, .null]))]) hD hS hA [0] rfl
  refine va_callv (va_runI (As := []) (rest := [.ref q6]) ⟨hx, hb, hml, hown, hts⟩ (kX6_init l G q6 H.size) (cwI 0 hts gL_law_X6_init rfl rfl rfl (hts9 (.initialized RX6) (by decide +kernel)) (hts9 (.methodLink RL 9 yX6_init) (by decide +kernel)) (hts9 (.instanceMethod yX6_init) (by decide +kernel)) rfl (by decide +kernel) ⟨Nat.le_of_ble_eq_true rfl, Nat.le_of_ble_eq_true rfl⟩) ⟨wN_blind, fun U hU hW => ⟨rfl, by rw [hU], by rw [hU]; exact hPc, va_K.moved hW.alike hK, hDc.weaken (fun _ _ _ _ => trivial), va_AO.moved hW.alike hO5, va_AO.moved hW.alike hO0, hNe.warm hW⟩⟩ rfl rfl hl.1 rfl (lv_room (Nat.le_of_ble_eq_true rfl)) dL_law_4 ⟨Nat.le_of_ble_eq_true rfl, Nat.le_of_ble_eq_true rfl⟩) hS (fun q _ h => hFc q h) hFc (fun u t H1 locs ht hvm huu hB hz1 hk1 hS => ?_)
  obtain ⟨hP1, hK1, hD1⟩ := hB
  rw [ht] at hP1
  obtain ⟨hP, hD⟩ := va_join (wr := []) (w1 := hl6 G u) hP hD [0] [] rfl rfl (by decide +kernel) (by decide +kernel) hk1 hFc hP1 hD1
  generalize H1 = H at hP hS ⊢
  refine W.widen (k := 162) (n := 1352) (by decide) (by decide) ?_
  have hP : va_P G.1 vwCl (hl6 G u) H := hP
  have hD : va_D (fun q : Nat => s.heap.size ≤ q) (hl6 G u) := hD
  refine lv_astore_n (lv' := [(1, .ref q6), (0, .ref b)]) hx hb dL_law_7 rfl hl (by decide) rfl (fun ls hl => ?_)
  refine va_new (D := G.1) (cl := vwCl) (tys := wT G) (ci := 7) (fs := [.null, .null, .null, .int 0, .null, .null, .null, .int 0, .int 0, .int 0, .int 0, .int 0, .int 0, .int 0, .int 0, .int 0, .int 0]) (C := RX7) (T := TX7) (N := 17) hx hb hts hin7 tyX7 tyX7_ok hown (hts9 (.classLink RL 10 RX7) (by decide +kernel)) (hts9 (.instantiable RX7 17) (by decide +kernel)) (hts9 (.initialized RX7) (by decide +kernel)) hK hP hD hS hA rfl (fun j hj => by rcases (show j = 0 ∨ j = 1 ∨ j = 2 ∨ j = 3 ∨ j = 4 ∨ j = 5 ∨ j = 6 ∨ j = 7 ∨ j = 8 ∨ j = 9 ∨ j = 10 ∨ j = 11 ∨ j = 12 ∨ j = 13 ∨ j = 14 ∨ j = 15 ∨ j = 16 by omega) with rfl | rfl | rfl | rfl | rfl | rfl | rfl | rfl | rfl | rfl | rfl | rfl | rfl | rfl | rfl | rfl | rfl <;> rfl) (Nat.le_of_ble_eq_true rfl) (Nat.le_of_ble_eq_true rfl) dL_law_8 (fun q7 H hP hD hS => ?_)
  have hP : va_P G.1 vwCl (hl6 G u ++ [(q7, .inr (7, [.null, .null, .null, .int 0, .null, .null, .null, .int 0, .int 0, .int 0, .int 0, .int 0, .int 0, .int 0, .int 0, .int 0, .int 0]))]) H := hP
  have hD : va_D (fun q : Nat => s.heap.size ≤ q) (hl6 G u ++ [(q7, .inr (7, [.null, .null, .null, .int 0, .null, .null, .null, .int 0, .int 0, .int 0, .int 0, .int 0, .int 0, .int 0, .int 0, .int 0, .int 0]))]) := hD
  refine W.widen (k := 163) (n := 1369) (by decide) (by decide) ?_
  refine lv_dup hx hb dL_law_11 rfl ?_
  have hPc := hP.sub (ws' := [(q7, .inr (7, [.null, .null, .null, .int 0, .null, .null, .null, .int 0, .int 0, .int 0, .int 0, .int 0, .int 0, .int 0, .int 0, .int 0, .int 0]))]) [162] rfl
  have hDc := hD.sub (ws' := [(q7, .inr (7, [.null, .null, .null, .int 0, .null, .null, .null, .int 0, .int 0, .int 0, .int 0, .int 0, .int 0, .int 0, .int 0, .int 0, .int 0]))]) [162] (by decide) rfl
  have hFc := va_free (wc := [(q7, .inr (7, [.null, .null, .null, .int 0, .null, .null, .null, .int 0, .int 0, .int 0, .int 0, .int 0, .int 0, .int 0, .int 0, .int 0, .int 0]))]) hD hS hA [162] rfl
  refine va_callv (va_runI (As := []) (rest := [.ref q7]) ⟨hx, hb, hml, hown, hts⟩ (kX7_init l G q7 H.size) (cwI 0 hts gL_law_X7_init rfl rfl rfl (hts9 (.initialized RX7) (by decide +kernel)) (hts9 (.methodLink RL 12 yX7_init) (by decide +kernel)) (hts9 (.instanceMethod yX7_init) (by decide +kernel)) rfl (by decide +kernel) ⟨Nat.le_of_ble_eq_true rfl, Nat.le_of_ble_eq_true rfl⟩) ⟨wN_blind, fun U hU hW => ⟨rfl, by rw [hU], by rw [hU]; exact hPc, va_K.moved hW.alike hK, hDc.weaken (fun _ _ _ _ => trivial), va_AO.moved hW.alike hO5, va_AO.moved hW.alike hO0, hNe.warm hW⟩⟩ rfl rfl hl.1 rfl (lv_room (Nat.le_of_ble_eq_true rfl)) dL_law_12 ⟨Nat.le_of_ble_eq_true rfl, Nat.le_of_ble_eq_true rfl⟩) hS (fun q _ h => hFc q h) hFc (fun v t H1 locs ht hvm huv hB hz1 hk1 hS => ?_)
  obtain ⟨hP1, hK1, hD1⟩ := hB
  rw [ht] at hP1
  obtain ⟨hP, hD⟩ := va_join (wr := hl6 G u) (w1 := hl7 G v) hP hD [162] [0, 1, 2, 3, 4, 5, 6, 7, 8, 9, 10, 11, 12, 13, 14, 15, 16, 17, 18, 19, 20, 21, 22, 23, 24, 25, 26, 27, 28, 29, 30, 31, 32, 33, 34, 35, 36, 37, 38, 39, 40, 41, 42, 43, 44, 45, 46, 47, 48, 49, 50, 51, 52, 53, 54, 55, 56, 57, 58, 59, 60, 61, 62, 63, 64, 65, 66, 67, 68, 69, 70, 71, 72, 73, 74, 75, 76, 77, 78, 79, 80, 81, 82, 83, 84, 85, 86, 87, 88, 89, 90, 91, 92, 93, 94, 95, 96, 97, 98, 99, 100, 101, 102, 103, 104, 105, 106, 107, 108, 109, 110, 111, 112, 113, 114, 115, 116, 117, 118, 119, 120, 121, 122, 123, 124, 125, 126, 127, 128, 129, 130, 131, 132, 133, 134, 135, 136, 137, 138, 139, 140, 141, 142, 143, 144, 145, 146, 147, 148, 149, 150, 151, 152, 153, 154, 155, 156, 157, 158, 159, 160, 161] rfl rfl (by decide +kernel) (by decide +kernel) hk1 hFc hP1 hD1
  generalize H1 = H at hP hS ⊢
  refine W.widen (k := 169) (n := 2451) (by decide) (by decide) ?_
  have hP : va_P G.1 vwCl (hl6 G u ++ hl7 G v) H := hP
  have hD : va_D (fun q : Nat => G.2.2.2 ≤ q) (hl6 G u ++ hl7 G v) := by rw [hGb]; exact hD
  refine lv_astore_n (lv' := [(2, .ref q7), (1, .ref q6), (0, .ref b)]) hx hb dL_law_15 rfl hl (by decide) rfl (fun ls hl => ?_)
  refine lv_iconst (v := 0) hx hb dL_law_16 (by decide) ?_
  refine lv_istore_n (lv' := [(3, .int 0), (2, .ref q7), (1, .ref q6), (0, .ref b)]) hx hb dL_law_17 rfl hl (by decide) rfl (fun ls hl => ?_)
  have hWo := Z0_world hP
  have hLi := Z0_lies hD
  have hC : wX p s m c cL_law #[Value.ref b] wsL_law RL (G.1, G.2.1, lad u v, G.2.2.2) := ⟨hx, hb, hown, hts, hK, hLi⟩
  have hAe : (fun q : Nat => s.heap.size ≤ q) = wA (G.1, G.2.1, lad u v, G.2.2.2) := by
    funext q
    show _ = (G.2.2.2 ≤ q)
    rw [hGb]
  rw [hAe] at hS hbA
  refine law_loop hC hml hX hbl hbA hL hst (fun H1 locs1 ls hS => ?_) (L + 1) 0 Z0 H _ ls (by omega) (by decide) hL0 hWo hS ?_
  · refine lv_iconst (v := 1) hx hb dL_law_856 (by decide) ?_
    refine va_forget (fun q hq => ?_) ?_
    · have h9 : G.2.2.2 ≤ q.base := hS.2.2 q hq
      rw [hGb] at h9
      exact h9
    refine W.widen (k := 600000) (n := 7302250) (by decide) (by decide) ?_
    exact lw_ret hx hb hr hlocks dL_law_857
  · have e1 : (lad u v) 12 0 = q7 := huv
    have e2 : (lad u v) 11 0 = q6 := huu
    show lv_has ls 4 [(3, .int (nI 0)), (2, .ref (lad u v 12 0)), (1, .ref (lad u v 11 0)), (0, .ref b)]
    rw [e1, e2]
    exact hl

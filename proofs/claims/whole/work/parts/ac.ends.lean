/-! LEVEL 2: text. How it begins, how it ends -/
theorem ref_42 {L : Nat → Nat → Int64} {R : Nat → Nat → Option Nat} {P D : Nat} (h : ∀ I, RefOK (I, L, R) P) : ∀ I, RefOK (I, L, xu R 42 2 (some D)) P := by
  intro I
  obtain ⟨h1, h2, h3, h4, h5⟩ := h I
  have ne : ∀ e ∈ tA, e.1 = 42 → e.2.1 ≠ 2 := by decide +kernel
  refine ⟨fun e he => ?_, ?_, ?_, ?_, h5⟩
  · show xu R 42 2 (some D) e.1 e.2.1 = _
    by_cases c : e.1 = 42
    · rw [c, xu_at2 (ne e he c), ← c]; exact h1 e he
    · rw [xu_cell c]; exact h1 e he
  · show xu R 42 2 (some D) 0 4 = _; rw [xu_cell (by omega)]; exact h2
  · show xu R 42 2 (some D) 0 5 = _; rw [xu_cell (by omega)]; exact h3
  · show xu R 42 2 (some D) 87 0 = _; rw [xu_cell (by omega)]; exact h4
theorem ref_sw {L : Nat → Nat → Int64} {R : Nat → Nat → Option Nat} {P : Nat} (h : ∀ I, RefOK (I, L, R) P) : ∀ I, RefOK (I, L, xu (xu (xu R 0 4 (some (23 - P))) 0 5 (some P)) 87 0 (some (23 - P))) (23 - P) := by
  intro I
  obtain ⟨h1, h2, h3, h4, h5⟩ := h I
  have ne : ∀ e ∈ tA, (e.1 = 0 → e.2.1 ≠ 4 ∧ e.2.1 ≠ 5) ∧ (e.1 = 87 → e.2.1 ≠ 0) := by decide +kernel
  refine ⟨fun e he => ?_, ?_, ?_, ?_, by omega⟩
  · show xu (xu (xu R 0 4 (some (23 - P))) 0 5 (some P)) 87 0 (some (23 - P)) e.1 e.2.1 = _
    by_cases c : e.1 = 87
    · rw [c, xu_at2 ((ne e he).2 c), xu_cell (by omega), xu_cell (by omega), ← c]; exact h1 e he
    · rw [xu_cell c]
      by_cases c0 : e.1 = 0
      · rw [c0, xu_at2 ((ne e he).1 c0).2, xu_at2 ((ne e he).1 c0).1, ← c0]; exact h1 e he
      · rw [xu_cell c0, xu_cell c0]; exact h1 e he
  · show xu (xu (xu R 0 4 (some (23 - P))) 0 5 (some P)) 87 0 (some (23 - P)) 0 4 = _; rw [xu_cell (by omega), xu_at2 (by omega), xu_at]
  · show xu (xu (xu R 0 4 (some (23 - P))) 0 5 (some P)) 87 0 (some (23 - P)) 0 5 = _; rw [xu_cell (by omega), xu_at]; congr 1; omega
  · show xu (xu (xu R 0 4 (some (23 - P))) 0 5 (some P)) 87 0 (some (23 - P)) 87 0 = _; rw [xu_at]
theorem c_clear {P : Nat} {L : Nat → Nat → Int64} {R : Nat → Nat → Option Nat} (hR : ∀ I, RefOK (I, L, R) P) {D : Nat} (hD : isPl D) (I : Nat → Nat → Int32) : ∃ I', f_X3_clear shA D (I, L, R) = some (I', L, R) ∧ (∀ q, q ≠ D → q ≠ D + 4 → q ≠ D + 13 → I' q = I q) ∧ (I' D 0 = 20 ∧ I' D 1 = -2 ∧ I' D 2 = 0 ∧ I' D 3 = 0 ∧ I' D 4 = 0 ∧ I' D 9 = 0 ∧ I' D 15 = 0) ∧ (∀ k, k < 61 → I' (D + 4) k = -1) ∧ I' (D + 13) 0 = 0 ∧ I' (D + 13) 1 = 0 ∧ I' (D + 13) 4 = 0 := by
  have hpr := isPl_le hD
  generalize hK : xu (xu (xu (xu (xu (xu (xu I D 0 20) D 1 (-2)) D 2 0) D 3 0) D 4 0) D 9 0) D 15 0 = K
  obtain ⟨F, f1, f2, f3⟩ := ob_fill (I := K) (L := L) (R := R) (-1) (sp_4 hD) (by omega)
  have p4 : ∀ (d : xD) (v : Int32), xpI 1 shA d (D + 13) 4 v = some (xu d.1 (D + 13) 4 v, d.2.1, d.2.2) := fun d v => pI_of (sp_13 hD) rfl
  have fD : F D = K D := f2 D (by omega)
  refine ⟨xu (xu (xu F (D + 13) 0 0) (D + 13) 1 0) (D + 13) 4 0, ?_, fun q q1 q2 q3 => ?_, ?_, fun k hk => ?_, ?_, ?_, xu_at⟩
  · unfold f_X3_clear f_X1_clear
    rw [pD_f hD (by omega), Option.bind_some, pD_f hD (by omega), Option.bind_some, pD_f hD (by omega), Option.bind_some, pD_f hD (by omega), Option.bind_some, pD_f hD (by omega), Option.bind_some, pD_f hD (by omega), Option.bind_some, pD_f hD (by omega), Option.bind_some]
    dsimp only
    rw [hK, gR_of (sp_0 hD) (rp_8 (hR _) hD), Option.bind_some, f1, Option.bind_some, gR_of (sp_0 hD) (rp_19 (hR _) hD), Option.bind_some, on_of (sp_13 hD), pK_0 hD, Option.bind_some, pK_1 hD, Option.bind_some, p4, Option.bind_some, Option.bind_some]
  · rw [xu_off q3, xu_off q3, xu_off q3, f2 q q2, ← hK, xu_off q1, xu_off q1, xu_off q1, xu_off q1, xu_off q1, xu_off q1, xu_off q1]
  · rw [xu_off (by omega), xu_off (by omega), xu_off (by omega), fD, ← hK]
    refine ⟨?_, ?_, ?_, ?_, ?_, ?_, xu_at⟩
    · rw [xu_at2 (by omega), xu_at2 (by omega), xu_at2 (by omega), xu_at2 (by omega), xu_at2 (by omega), xu_at2 (by omega), xu_at]
    · rw [xu_at2 (by omega), xu_at2 (by omega), xu_at2 (by omega), xu_at2 (by omega), xu_at2 (by omega), xu_at]
    · rw [xu_at2 (by omega), xu_at2 (by omega), xu_at2 (by omega), xu_at2 (by omega), xu_at]
    · rw [xu_at2 (by omega), xu_at2 (by omega), xu_at2 (by omega), xu_at]
    · rw [xu_at2 (by omega), xu_at2 (by omega), xu_at]
    · rw [xu_at2 (by omega), xu_at]
  · rw [xu_cell (by omega), xu_cell (by omega), xu_cell (by omega)]; exact f3 k hk
  · rw [xu_at2 (by omega), xu_at2 (by omega), xu_at]
  · rw [xu_at2 (by omega), xu_at]
theorem rd_loop {P : Nat} {L' : Nat → Nat → Int64} {R' : Nat → Nat → Option Nat} (hR' : ∀ I, RefOK (I, L', R') P) : ∀ g k (J : Nat → Nat → Int32) F, k + g = 8 → g < F → ∃ J', xloop (fun _ _ _ => none) (b_X10_text_47 shA) F 99 (nI k) (J, L', R') = k_X10_text_74 shA 99 (J', L', R') ∧ (∀ q, q ≠ 101 → J' q = J q) ∧ (∀ j, j < 8 + k → J' 101 j = J 101 j) ∧ (∀ j, k ≤ j → j < 8 → J' 101 (8 + j) = if j = 0 then 20 else 0) := by
  intro g
  induction g with
  | zero =>
    intro k J F h1 h2
    obtain ⟨F, rfl⟩ : ∃ G, F = G + 1 := ⟨F - 1, by omega⟩
    refine ⟨J, ?_, fun _ _ => rfl, fun _ _ => rfl, fun j j1 j2 => by omega⟩
    rw [loop_s, b_X10_text_47, show k = 8 by omega, if_pos (by decide)]
  | succ g ih =>
    intro k J F h1 h2
    obtain ⟨F, rfl⟩ : ∃ G, F = G + 1 := ⟨F - 1, by omega⟩
    obtain ⟨J', p1, p2, p3, p4⟩ := ih (k + 1) (xu J 101 (8 + k) (if k = 0 then 20 else 0)) F (by omega) (by omega)
    refine ⟨J', ?_, fun q hq => (p2 q hq).trans (xu_off hq), fun j hj => (p3 j (by omega)).trans (xu_at2 (by omega)), fun j j1 j2 => ?_⟩
    · rw [← p1, loop_s]
      generalize xloop (fun _ _ _ => none) (b_X10_text_47 shA) F = rc
      have e0 : nI k = (0 : Int32) ↔ k = 0 := nI_eq (b := 0) (by omega) (by omega)
      unfold b_X10_text_47 k_X10_text_65
      rw [if_neg (show ¬ (8 : Int32) ≤ nI k from nI_ge (b := 8) (by omega) (by omega))]
      simp only [e0, on_of sA_99, m_reads hR' (show k < 8 by omega), Option.bind_some, nI_1]
      by_cases c : k = 0
      · rw [if_pos c, if_pos c]
      · rw [if_neg c, if_neg c]
    · by_cases c : j = k
      · subst c; rw [p3 (8 + j) (by omega), xu_at]
      · exact p4 j (by omega) j2
theorem sm_loop {P : Nat} {L' : Nat → Nat → Int64} {R' : Nat → Nat → Option Nat} (hR' : ∀ I, RefOK (I, L', R') P) : ∀ g k (J : Nat → Nat → Int32) F, k + g = 6 → 3 ≤ k → g < F → ∃ J', xloop (fun _ _ _ => none) (b_X10_text_76 shA) F 99 (nI k) (J, L', R') = k_X10_text_102 shA 99 (J', L', R') ∧ (∀ q, q ≠ 113 → q ≠ 114 → J' q = J q) ∧ (∀ q j, q = 113 ∨ q = 114 → j < k → J' q j = J q j) ∧ (∀ q j, q = 113 ∨ q = 114 → k ≤ j → j < 6 → J' q j = 0) := by
  intro g
  induction g with
  | zero =>
    intro k J F h1 h3 h2
    obtain ⟨F, rfl⟩ : ∃ G, F = G + 1 := ⟨F - 1, by omega⟩
    refine ⟨J, ?_, fun _ _ _ => rfl, fun _ _ _ _ => rfl, fun q j _ j1 j2 => by omega⟩
    rw [loop_s, b_X10_text_76, show k = 6 by omega, if_pos (by decide)]
  | succ g ih =>
    intro k J F h1 h3 h2
    obtain ⟨F, rfl⟩ : ∃ G, F = G + 1 := ⟨F - 1, by omega⟩
    obtain ⟨J', p1, p2, p3, p4⟩ := ih (k + 1) (xu (xu J 113 k 0) 114 k 0) F (by omega) (by omega) (by omega)
    refine ⟨J', ?_, fun q q1 q2 => (p2 q q1 q2).trans ((xu_off q2).trans (xu_off q1)), fun q j hq hj => ?_, fun q j hq j1 j2 => ?_⟩
    · rw [← p1, loop_s]
      generalize xloop (fun _ _ _ => none) (b_X10_text_76 shA) F = rc
      unfold b_X10_text_76
      rw [if_neg (show ¬ (6 : Int32) ≤ nI k from nI_ge (b := 6) (by omega) (by omega))]
      simp only [gR_of sA_99 (rf_99_15 (hR' _)), gR_of sA_99 (rf_99_16 (hR' _)), Option.bind_some, sI_of sA_113 (show k < 6 by omega) (show 6 < 2 ^ 31 by omega), sI_of sA_114 (show k < 6 by omega) (show 6 < 2 ^ 31 by omega), nI_1]
    · rw [p3 q j hq (by omega)]
      rcases hq with rfl | rfl
      · rw [xu_cell (by omega), xu_at2 (by omega)]
      · rw [xu_at2 (by omega), xu_cell (by omega)]
    · by_cases c : j = k
      · subst c
        rw [p3 q j hq (by omega)]
        rcases hq with rfl | rfl
        · rw [xu_cell (by omega), xu_at]
        · rw [xu_at]
      · exact p4 q j hq (by omega) j2
theorem hf_loop {L' : Nat → Nat → Int64} {R' : Nat → Nat → Option Nat} {q h : Nat} (hN : shA[q]? = some (.inr (.int, 2 * h))) (hh : h < 1000) : ∀ g k (J : Nat → Nat → Int32) F, k + g = h → g < F → ∃ J', xloop (fun _ _ _ _ => none) (b_X10_half_7 shA) F q (nI h) (nI k) (J, L', R') = some (J', L', R') ∧ (∀ x, x ≠ q → J' x = J x) ∧ (∀ i, (i < k ∨ h ≤ i) → J' q i = J q i) ∧ (∀ i, k ≤ i → i < h → J' q i = J q (h + i)) := by
  intro g
  induction g with
  | zero =>
    intro k J F h1 h2
    obtain ⟨F, rfl⟩ : ∃ G, F = G + 1 := ⟨F - 1, by omega⟩
    refine ⟨J, ?_, fun _ _ => rfl, fun _ _ => rfl, fun j j1 j2 => by omega⟩
    rw [loop_s, b_X10_half_7, if_pos (nI_le (by omega) (by omega))]; rfl
  | succ g ih =>
    intro k J F h1 h2
    obtain ⟨F, rfl⟩ : ∃ G, F = G + 1 := ⟨F - 1, by omega⟩
    obtain ⟨J', p1, p2, p3, p4⟩ := ih (k + 1) (xu J q k (J q (h + k))) F (by omega) (by omega)
    refine ⟨J', ?_, fun x hx => (p2 x hx).trans (xu_off hx), fun i hi => (p3 i (by omega)).trans (xu_at2 (by omega)), fun i i1 i2 => ?_⟩
    · rw [← p1, loop_s]
      generalize xloop (fun _ _ _ _ => none) (b_X10_half_7 shA) F = rc
      rw [b_X10_half_7, if_neg (nI_ge (by omega) (by omega)), nI_add, aI_of hN (by omega) (by omega), Option.bind_some, sI_of hN (by omega) (by omega), Option.bind_some, nI_1]
    · by_cases c : i = k
      · subst c; rw [p3 i (by omega), xu_at]
      · rw [p4 i (by omega) i2, xu_at2 (by omega)]
theorem e_half {L' : Nat → Nat → Int64} {R' : Nat → Nat → Option Nat} {q h : Nat} (hN : shA[q]? = some (.inr (.int, 2 * h))) (hh : h < 1000) (J : Nat → Nat → Int32) : ∃ J', f_X10_half shA q (J, L', R') = some (J', L', R') ∧ (∀ x, x ≠ q → J' x = J x) ∧ (∀ i, i < h → J' q i = J q (h + i)) := by
  obtain ⟨J', p1, p2, _, p4⟩ := hf_loop (L' := L') (R' := R') hN hh h 0 J xF (by omega) (by unfold xF; omega)
  refine ⟨J', ?_, p2, fun i hi => p4 i (by omega) hi⟩
  unfold f_X10_half
  rw [len_of hN, Option.bind_some]
  have z : xdI (nI (2 * h)) (2 : Int32) = some (nI h) := by
    unfold xdI
    rw [if_neg (show ¬ (2 : Int32) = 0 by decide), show nI (2 * h) / (2 : Int32) = nI (2 * h / 2) from pk_div (d := 2) (by omega) (by omega) (by omega), show 2 * h / 2 = h by omega]
  rw [z, Option.bind_some]
  exact p1
theorem e_halves {P : Nat} {L' : Nat → Nat → Int64} {R' : Nat → Nat → Option Nat} (hR' : ∀ I, RefOK (I, L', R') P) (J : Nat → Nat → Int32) : ∃ J' : Nat → Nat → Int32, (∀ F : xD → Option (Int32 × xD), ((xgR 10 shA (J, L', R') 99 3).bind fun v1 => (f_X10_half shA v1 (J, L', R')).bind fun d1 => (xgR 10 shA d1 99 4).bind fun v2 => (f_X10_half shA v2 d1).bind fun d2 => (xgR 10 shA d2 99 5).bind fun v3 => (f_X10_half shA v3 d2).bind fun d3 => (xgR 10 shA d3 99 6).bind fun v4 => (f_X10_half shA v4 d3).bind fun d4 => (xgR 10 shA d4 99 7).bind fun v5 => (f_X10_half shA v5 d4).bind fun d5 => (xgR 10 shA d5 99 8).bind fun v6 => (f_X10_half shA v6 d5).bind fun d6 => (xgR 10 shA d6 99 9).bind fun v7 => (f_X10_half shA v7 d6).bind fun d7 => (xgR 10 shA d7 99 10).bind fun v8 => (f_X10_half shA v8 d7).bind fun d8 => (xgR 10 shA d8 99 11).bind fun v9 => (f_X10_half shA v9 d8).bind fun d9 => (xgR 10 shA d9 99 12).bind fun v10 => (f_X10_half shA v10 d9).bind fun d10 => (xgR 10 shA d10 99 13).bind fun v11 => (f_X10_half shA v11 d10).bind fun d11 => (xgR 10 shA d11 99 14).bind fun v12 => (f_X10_half shA v12 d11).bind fun d12 => (xgR 10 shA d12 99 15).bind fun v13 => (f_X10_half shA v13 d12).bind fun d13 => (xgR 10 shA d13 99 16).bind fun v14 => (f_X10_half shA v14 d13).bind fun d14 => (xgR 10 shA d14 99 17).bind fun v15 => (f_X10_half shA v15 d14).bind fun d15 => (xgR 10 shA d15 99 18).bind fun v16 => (f_X10_half shA v16 d15).bind fun d16 => F d16) = F (J', L', R')) ∧ (∀ q, (q < 101 ∨ 116 < q) → J' q = J q) ∧ (∀ q i, 101 ≤ q → q ≤ 104 → i < 8 → J' q i = J q (8 * 1 + i)) ∧ (∀ q i, 105 ≤ q → q ≤ 109 → i < 6 → J' q i = J q (6 * 1 + i)) ∧ (∀ q i, 110 ≤ q → q ≤ 112 → i < 12 → J' q i = J q (12 * 1 + i)) ∧ (∀ q i, 113 ≤ q → q ≤ 114 → i < 3 → J' q i = J q (3 * 1 + i)) ∧ (∀ q i, 115 ≤ q → q ≤ 116 → i < 64 → J' q i = J q (64 * 1 + i)) := by
  obtain ⟨K1, a1, b1, c1⟩ := e_half (L' := L') (R' := R') (q := 101) (h := 8) sA_101 (by omega) J
  obtain ⟨K2, a2, b2, c2⟩ := e_half (L' := L') (R' := R') (q := 102) (h := 8) sA_102 (by omega) K1
  obtain ⟨K3, a3, b3, c3⟩ := e_half (L' := L') (R' := R') (q := 103) (h := 8) sA_103 (by omega) K2
  obtain ⟨K4, a4, b4, c4⟩ := e_half (L' := L') (R' := R') (q := 104) (h := 8) sA_104 (by omega) K3
  obtain ⟨K5, a5, b5, c5⟩ := e_half (L' := L') (R' := R') (q := 105) (h := 6) sA_105 (by omega) K4
  obtain ⟨K6, a6, b6, c6⟩ := e_half (L' := L') (R' := R') (q := 106) (h := 6) sA_106 (by omega) K5
  obtain ⟨K7, a7, b7, c7⟩ := e_half (L' := L') (R' := R') (q := 107) (h := 6) sA_107 (by omega) K6
  obtain ⟨K8, a8, b8, c8⟩ := e_half (L' := L') (R' := R') (q := 108) (h := 6) sA_108 (by omega) K7
  obtain ⟨K9, a9, b9, c9⟩ := e_half (L' := L') (R' := R') (q := 109) (h := 6) sA_109 (by omega) K8
  obtain ⟨K10, a10, b10, c10⟩ := e_half (L' := L') (R' := R') (q := 110) (h := 12) sA_110 (by omega) K9
  obtain ⟨K11, a11, b11, c11⟩ := e_half (L' := L') (R' := R') (q := 111) (h := 12) sA_111 (by omega) K10
  obtain ⟨K12, a12, b12, c12⟩ := e_half (L' := L') (R' := R') (q := 112) (h := 12) sA_112 (by omega) K11
  obtain ⟨K13, a13, b13, c13⟩ := e_half (L' := L') (R' := R') (q := 113) (h := 3) sA_113 (by omega) K12
  obtain ⟨K14, a14, b14, c14⟩ := e_half (L' := L') (R' := R') (q := 114) (h := 3) sA_114 (by omega) K13
  obtain ⟨K15, a15, b15, c15⟩ := e_half (L' := L') (R' := R') (q := 115) (h := 64) sA_115 (by omega) K14
  obtain ⟨K16, a16, b16, c16⟩ := e_half (L' := L') (R' := R') (q := 116) (h := 64) sA_116 (by omega) K15
  refine ⟨K16, fun F => ?_, fun q hq => ?_, fun q i q1 q2 hi => ?_, fun q i q1 q2 hi => ?_, fun q i q1 q2 hi => ?_, fun q i q1 q2 hi => ?_, fun q i q1 q2 hi => ?_⟩
  · rw [gR_of sA_99 (rf_99_3 (hR' _)), Option.bind_some, a1, Option.bind_some, gR_of sA_99 (rf_99_4 (hR' _)), Option.bind_some, a2, Option.bind_some, gR_of sA_99 (rf_99_5 (hR' _)), Option.bind_some, a3, Option.bind_some, gR_of sA_99 (rf_99_6 (hR' _)), Option.bind_some, a4, Option.bind_some, gR_of sA_99 (rf_99_7 (hR' _)), Option.bind_some, a5, Option.bind_some, gR_of sA_99 (rf_99_8 (hR' _)), Option.bind_some, a6, Option.bind_some, gR_of sA_99 (rf_99_9 (hR' _)), Option.bind_some, a7, Option.bind_some, gR_of sA_99 (rf_99_10 (hR' _)), Option.bind_some, a8, Option.bind_some, gR_of sA_99 (rf_99_11 (hR' _)), Option.bind_some, a9, Option.bind_some, gR_of sA_99 (rf_99_12 (hR' _)), Option.bind_some, a10, Option.bind_some, gR_of sA_99 (rf_99_13 (hR' _)), Option.bind_some, a11, Option.bind_some, gR_of sA_99 (rf_99_14 (hR' _)), Option.bind_some, a12, Option.bind_some, gR_of sA_99 (rf_99_15 (hR' _)), Option.bind_some, a13, Option.bind_some, gR_of sA_99 (rf_99_16 (hR' _)), Option.bind_some, a14, Option.bind_some, gR_of sA_99 (rf_99_17 (hR' _)), Option.bind_some, a15, Option.bind_some, gR_of sA_99 (rf_99_18 (hR' _)), Option.bind_some, a16, Option.bind_some]
  · rw [b16 q (by omega), b15 q (by omega), b14 q (by omega), b13 q (by omega), b12 q (by omega), b11 q (by omega), b10 q (by omega), b9 q (by omega), b8 q (by omega), b7 q (by omega), b6 q (by omega), b5 q (by omega), b4 q (by omega), b3 q (by omega), b2 q (by omega), b1 q (by omega)]
  · rcases (show q = 101 ∨ q = 102 ∨ q = 103 ∨ q = 104 by omega) with rfl | rfl | rfl | rfl
    · rw [b16 101 (by omega), b15 101 (by omega), b14 101 (by omega), b13 101 (by omega), b12 101 (by omega), b11 101 (by omega), b10 101 (by omega), b9 101 (by omega), b8 101 (by omega), b7 101 (by omega), b6 101 (by omega), b5 101 (by omega), b4 101 (by omega), b3 101 (by omega), b2 101 (by omega), c1 i hi]
    · rw [b16 102 (by omega), b15 102 (by omega), b14 102 (by omega), b13 102 (by omega), b12 102 (by omega), b11 102 (by omega), b10 102 (by omega), b9 102 (by omega), b8 102 (by omega), b7 102 (by omega), b6 102 (by omega), b5 102 (by omega), b4 102 (by omega), b3 102 (by omega), c2 i hi, b1 102 (by omega)]
    · rw [b16 103 (by omega), b15 103 (by omega), b14 103 (by omega), b13 103 (by omega), b12 103 (by omega), b11 103 (by omega), b10 103 (by omega), b9 103 (by omega), b8 103 (by omega), b7 103 (by omega), b6 103 (by omega), b5 103 (by omega), b4 103 (by omega), c3 i hi, b2 103 (by omega), b1 103 (by omega)]
    · rw [b16 104 (by omega), b15 104 (by omega), b14 104 (by omega), b13 104 (by omega), b12 104 (by omega), b11 104 (by omega), b10 104 (by omega), b9 104 (by omega), b8 104 (by omega), b7 104 (by omega), b6 104 (by omega), b5 104 (by omega), c4 i hi, b3 104 (by omega), b2 104 (by omega), b1 104 (by omega)]
  · rcases (show q = 105 ∨ q = 106 ∨ q = 107 ∨ q = 108 ∨ q = 109 by omega) with rfl | rfl | rfl | rfl | rfl
    · rw [b16 105 (by omega), b15 105 (by omega), b14 105 (by omega), b13 105 (by omega), b12 105 (by omega), b11 105 (by omega), b10 105 (by omega), b9 105 (by omega), b8 105 (by omega), b7 105 (by omega), b6 105 (by omega), c5 i hi, b4 105 (by omega), b3 105 (by omega), b2 105 (by omega), b1 105 (by omega)]
    · rw [b16 106 (by omega), b15 106 (by omega), b14 106 (by omega), b13 106 (by omega), b12 106 (by omega), b11 106 (by omega), b10 106 (by omega), b9 106 (by omega), b8 106 (by omega), b7 106 (by omega), c6 i hi, b5 106 (by omega), b4 106 (by omega), b3 106 (by omega), b2 106 (by omega), b1 106 (by omega)]
    · rw [b16 107 (by omega), b15 107 (by omega), b14 107 (by omega), b13 107 (by omega), b12 107 (by omega), b11 107 (by omega), b10 107 (by omega), b9 107 (by omega), b8 107 (by omega), c7 i hi, b6 107 (by omega), b5 107 (by omega), b4 107 (by omega), b3 107 (by omega), b2 107 (by omega), b1 107 (by omega)]
    · rw [b16 108 (by omega), b15 108 (by omega), b14 108 (by omega), b13 108 (by omega), b12 108 (by omega), b11 108 (by omega), b10 108 (by omega), b9 108 (by omega), c8 i hi, b7 108 (by omega), b6 108 (by omega), b5 108 (by omega), b4 108 (by omega), b3 108 (by omega), b2 108 (by omega), b1 108 (by omega)]
    · rw [b16 109 (by omega), b15 109 (by omega), b14 109 (by omega), b13 109 (by omega), b12 109 (by omega), b11 109 (by omega), b10 109 (by omega), c9 i hi, b8 109 (by omega), b7 109 (by omega), b6 109 (by omega), b5 109 (by omega), b4 109 (by omega), b3 109 (by omega), b2 109 (by omega), b1 109 (by omega)]
  · rcases (show q = 110 ∨ q = 111 ∨ q = 112 by omega) with rfl | rfl | rfl
    · rw [b16 110 (by omega), b15 110 (by omega), b14 110 (by omega), b13 110 (by omega), b12 110 (by omega), b11 110 (by omega), c10 i hi, b9 110 (by omega), b8 110 (by omega), b7 110 (by omega), b6 110 (by omega), b5 110 (by omega), b4 110 (by omega), b3 110 (by omega), b2 110 (by omega), b1 110 (by omega)]
    · rw [b16 111 (by omega), b15 111 (by omega), b14 111 (by omega), b13 111 (by omega), b12 111 (by omega), c11 i hi, b10 111 (by omega), b9 111 (by omega), b8 111 (by omega), b7 111 (by omega), b6 111 (by omega), b5 111 (by omega), b4 111 (by omega), b3 111 (by omega), b2 111 (by omega), b1 111 (by omega)]
    · rw [b16 112 (by omega), b15 112 (by omega), b14 112 (by omega), b13 112 (by omega), c12 i hi, b11 112 (by omega), b10 112 (by omega), b9 112 (by omega), b8 112 (by omega), b7 112 (by omega), b6 112 (by omega), b5 112 (by omega), b4 112 (by omega), b3 112 (by omega), b2 112 (by omega), b1 112 (by omega)]
  · rcases (show q = 113 ∨ q = 114 by omega) with rfl | rfl
    · rw [b16 113 (by omega), b15 113 (by omega), b14 113 (by omega), c13 i hi, b12 113 (by omega), b11 113 (by omega), b10 113 (by omega), b9 113 (by omega), b8 113 (by omega), b7 113 (by omega), b6 113 (by omega), b5 113 (by omega), b4 113 (by omega), b3 113 (by omega), b2 113 (by omega), b1 113 (by omega)]
    · rw [b16 114 (by omega), b15 114 (by omega), c14 i hi, b13 114 (by omega), b12 114 (by omega), b11 114 (by omega), b10 114 (by omega), b9 114 (by omega), b8 114 (by omega), b7 114 (by omega), b6 114 (by omega), b5 114 (by omega), b4 114 (by omega), b3 114 (by omega), b2 114 (by omega), b1 114 (by omega)]
  · rcases (show q = 115 ∨ q = 116 by omega) with rfl | rfl
    · rw [b16 115 (by omega), c15 i hi, b14 115 (by omega), b13 115 (by omega), b12 115 (by omega), b11 115 (by omega), b10 115 (by omega), b9 115 (by omega), b8 115 (by omega), b7 115 (by omega), b6 115 (by omega), b5 115 (by omega), b4 115 (by omega), b3 115 (by omega), b2 115 (by omega), b1 115 (by omega)]
    · rw [c16 i hi, b15 116 (by omega), b14 116 (by omega), b13 116 (by omega), b12 116 (by omega), b11 116 (by omega), b10 116 (by omega), b9 116 (by omega), b8 116 (by omega), b7 116 (by omega), b6 116 (by omega), b5 116 (by omega), b4 116 (by omega), b3 116 (by omega), b2 116 (by omega), b1 116 (by omega)]

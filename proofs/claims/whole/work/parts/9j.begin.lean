/-! LEVEL 2: a scene begins -/
theorem pB_ {I : Nat → Nat → Int32} {L : Nat → Nat → Int64} {R : Nat → Nat → Option Nat} {q k : Nat} {v : Int32} (hq : isSc q) (hk : k = 0 ∨ k = 1 ∨ k = 2 ∨ k = 4 ∨ k = 14) : xpI 4 shA (I, L, R) q k v = some (xu I q k v, L, R) := by
  rcases hk with e | e | e | e | e <;> subst e <;> exact pI_of (ss_0 hq) rfl
theorem ob_cp {I : Nat → Nat → Int32} {L : Nat → Nat → Int64} {R : Nat → Nat → Option Nat} {a b na nb : Nat} (n : Nat) {N : Int32} (hN : N = nI n) (ha : shA[a]? = some (.inr (.int, na))) (hb : shA[b]? = some (.inr (.int, nb))) (h1 : n ≤ na) (h2 : n ≤ nb) (h3 : n < 1000) : ∃ I', xcp shA (I, L, R) a 0 b 0 N = some (I', L, R) ∧ (∀ k, k ≠ b → I' k = I k) ∧ ∀ j, j < n → I' b j = I a j :=
  ⟨_, cp_of n hN ha hb h1 h2 h3, fun k hk => xur_off hk, fun j hj => by rw [xur_at, cpy_in hj]⟩
theorem ob_fill {I : Nat → Nat → Int32} {L : Nat → Nat → Int64} {R : Nat → Nat → Option Nat} {q N : Nat} (v : Int32) (hN : shA[q]? = some (.inr (.int, N))) (hN2 : N < 1000) : ∃ I', f_J7_fill_53178 shA q v (I, L, R) = some (I', L, R) ∧ (∀ k, k ≠ q → I' k = I k) ∧ (∀ j, j < N → I' q j = v) := e_fill (d := (I, L, R)) hN hN2
theorem beginR_loop {P q nr : Nat} {L : Nat → Nat → Int64} {R : Nat → Nat → Option Nat} (hR : ∀ I, RefOK (I, L, R) P) (hp : isPl P) (hq : isSc q) (hn : nr ≤ 12) : ∀ k r I F, r + k = nr → k < F → I P 15 = nI nr → I q 14 = nI r → ∃ I', xloop (fun _ _ _ _ => none) (b_X4_begin_142 shA) F q P (nI r) (I, L, R) = some (I', L, R) ∧ (∀ k, k ≠ q → k ≠ q + 10 → k ≠ q + 11 → k ≠ q + 12 → k ≠ q + 13 → I' k = I k) ∧ (∀ k, k ≠ 14 → I' q k = I q k) ∧ I' q 14 = nI nr ∧ (∀ i, i < r → I' (q + 10) i = I (q + 10) i ∧ I' (q + 11) i = I (q + 11) i ∧ I' (q + 12) i = I (q + 12) i ∧ I' (q + 13) i = I (q + 13) i) ∧ ∀ i, r ≤ i → i < nr → I' (q + 10) i = I (P + 10) i ∧ I' (q + 11) i = I (P + 11) i ∧ I' (q + 12) i = I (P + 12) i ∧ I' (q + 13) i = 0 := by
  have hqr := isSc_ge hq
  have hpr := isPl_le hp
  intro k
  induction k with
  | zero =>
    intro r I F h1 h2 h3 h4
    obtain ⟨F, rfl⟩ : ∃ G, F = G + 1 := ⟨F - 1, by omega⟩
    refine ⟨I, ?_, fun _ _ _ _ _ _ => rfl, fun _ _ => rfl, by rw [h4, show r = nr by omega], fun _ _ => ⟨rfl, rfl, rfl, rfl⟩, fun i i1 i2 => by omega⟩
    have h3' : (I, L, R).1 P 15 = nI nr := h3
    rw [loop_s, b_X4_begin_142, gI_of (sp_0 hp), Option.bind_some, h3', if_pos (nI_le (by omega) (by omega))]; rfl
  | succ k ih =>
    intro r I F h1 h2 h3 h4
    obtain ⟨F, rfl⟩ : ∃ G, F = G + 1 := ⟨F - 1, by omega⟩
    have ea := e_addRest (c := (I, L, R)) (hR I) hq h4 (show r ≤ 12 by omega) (I (P + 10) r) (I (P + 11) r) (I (P + 12) r)
    dsimp only at ea
    obtain ⟨I', e1, e2, e3, e4, e5, e6⟩ := ih (r + 1) (xu (xu (xu (xu (xu I (q + 10) r (I (P + 10) r)) (q + 11) r (I (P + 11) r)) (q + 12) r (I (P + 12) r)) (q + 13) r 0) q 14 (nI (r + 1))) F (by omega) (by omega) (by simp (disch := omega) only [xu_cell]; exact h3) xu_at
    refine ⟨I', ?_, fun k k1 k2 k3 k4 k5 => ?_, fun k k1 => ?_, e4, fun i hi => ?_, fun i i1 i2 => ?_⟩
    · have h3' : (I, L, R).1 P 15 = nI nr := h3
      rw [loop_s, b_X4_begin_142, gI_of (sp_0 hp), Option.bind_some, h3', if_neg (nI_ge (by omega) (by omega)), if_neg (show ¬ (12 : Int32) ≤ nI r from nI_ge (b := 12) (by omega) (by omega)), gR_of (sp_0 hp) (rp_16 (hR I) hp), Option.bind_some, aI_of (sp_10 hp) (by omega) (by omega), Option.bind_some, gR_of (sp_0 hp) (rp_17 (hR I) hp), Option.bind_some, aI_of (sp_11 hp) (by omega) (by omega), Option.bind_some, gR_of (sp_0 hp) (rp_18 (hR I) hp), Option.bind_some, aI_of (sp_12 hp) (by omega) (by omega), Option.bind_some, on_of (ss_0 hq)]
      dsimp only
      rw [ea, Option.bind_some, nI_1]
      exact e1
    · rw [e2 k k1 k2 k3 k4 k5, xu_off k1, xu_off k5, xu_off k4, xu_off k3, xu_off k2]
    · rw [e3 k k1, xu_at2 k1]
      simp (disch := omega) only [xu_cell]
    · obtain ⟨y1, y2, y3, y4⟩ := e5 i (by omega)
      rw [y1, y2, y3, y4]
      simp (disch := omega) only [xu_cell, xu_at2]
      exact ⟨trivial, trivial, trivial, trivial⟩
    · by_cases z : i = r
      · subst z
        obtain ⟨y1, y2, y3, y4⟩ := e5 i (by omega)
        rw [y1, y2, y3, y4]
        simp (disch := omega) only [xu_cell, xu_at]
        exact ⟨trivial, trivial, trivial, trivial⟩
      · obtain ⟨y1, y2, y3, y4⟩ := e6 i (by omega) i2
        rw [y1, y2, y3, y4]
        simp (disch := omega) only [xu_cell]
        exact ⟨trivial, trivial, trivial, trivial⟩
def BG (P q nr : Nat) (c c' : xD) : Prop := c'.2.2 = c.2.2 ∧ (∀ k, (k < q ∨ q + 14 ≤ k) → c'.1 k = c.1 k) ∧ (∀ k, k ≠ 0 → k ≠ 1 → k ≠ 2 → k ≠ 4 → k ≠ 14 → c'.1 q k = c.1 q k) ∧ (c'.1 q 0 = 0 ∧ c'.1 q 1 = 0 ∧ c'.1 q 2 = c.1 P 1 ∧ c'.1 q 4 = c.1 P 9 ∧ c'.1 q 14 = nI nr) ∧ ((∀ k, k ≠ q → c'.2.1 k = c.2.1 k) ∧ c'.2.1 q 3 = (c.1 P 3).toInt64) ∧ (∀ i, i < 6 → c'.1 (q + 1) i = 0 ∧ c'.1 (q + 2) i = c.1 (P + 6) i ∧ c'.1 (q + 3) i = c.1 (P + 7) i ∧ c'.1 (q + 4) i = c.1 (P + 8) i ∧ c'.1 (q + 5) i = 0 ∧ c'.1 (q + 6) i = 0 ∧ c'.1 (q + 7) i = 0) ∧ (∀ b, b < 8 → c'.1 (q + 8) b = c.1 (P + 3) b ∧ c'.1 (q + 9) b = 0) ∧ ∀ i, i < nr → c'.1 (q + 10) i = c.1 (P + 10) i ∧ c'.1 (q + 11) i = c.1 (P + 11) i ∧ c'.1 (q + 12) i = c.1 (P + 12) i ∧ c'.1 (q + 13) i = 0
theorem e_begin {P q nr : Nat} {c : xD} (hRc : RefOK c P) (hp : isPl P) (hq : isSc q) (hn : nr ≤ 12) (h15 : c.1 P 15 = nI nr) : ∃ c', f_X4_begin shA q P c = some c' ∧ BG P q nr c c' := by
  have hqr := isSc_ge hq
  have hpr := isPl_le hp
  obtain ⟨I, L, R⟩ := c
  have hR : ∀ I L, RefOK (I, L, R) P := fun I L => hRc.same rfl
  dsimp only at h15
  obtain ⟨A0, hA0⟩ : ∃ A, A = xu (xu (xu I q 0 0) q 1 0) q 2 (I P 1) := ⟨_, rfl⟩
  obtain ⟨A1, hA1⟩ : ∃ A, A = xu A0 q 4 (I P 9) := ⟨_, rfl⟩
  obtain ⟨L1, hL1⟩ : ∃ K, K = xu L q 3 (I P 3).toInt64 := ⟨_, rfl⟩
  have a0 : ∀ k, k ≠ q → A0 k = I k := fun k hk => by rw [hA0, xu_off hk, xu_off hk, xu_off hk]
  have a1 : ∀ k, k ≠ q → A1 k = I k := fun k hk => by rw [hA1, xu_off hk, a0 k hk]
  obtain ⟨B1, e1, f1, g1⟩ := ob_fill (I := A1) (L := L1) (R := R) 0 (ss_1 hq) (by omega)
  obtain ⟨B2, e2, f2, g2⟩ := ob_cp (I := B1) (L := L1) (R := R) 6 (N := 6) rfl (sp_6 hp) (ss_2 hq) (by omega) (by omega) (by omega)
  obtain ⟨B3, e3, f3, g3⟩ := ob_cp (I := B2) (L := L1) (R := R) 6 (N := 6) rfl (sp_7 hp) (ss_3 hq) (by omega) (by omega) (by omega)
  obtain ⟨B4, e4, f4, g4⟩ := ob_cp (I := B3) (L := L1) (R := R) 6 (N := 6) rfl (sp_8 hp) (ss_4 hq) (by omega) (by omega) (by omega)
  obtain ⟨B5, e5, f5, g5⟩ := ob_fill (I := B4) (L := L1) (R := R) 0 (ss_5 hq) (by omega)
  obtain ⟨B6, e6, f6, g6⟩ := ob_fill (I := B5) (L := L1) (R := R) 0 (ss_6 hq) (by omega)
  obtain ⟨B7, e7, f7, g7⟩ := ob_fill (I := B6) (L := L1) (R := R) 0 (ss_7 hq) (by omega)
  obtain ⟨B8, e8, f8, g8⟩ := ob_cp (I := B7) (L := L1) (R := R) 8 (N := 8) rfl (sp_3 hp) (ss_8 hq) (by omega) (by omega) (by omega)
  obtain ⟨B9, e9, f9, g9⟩ := ob_fill (I := B8) (L := L1) (R := R) 0 (ss_9 hq) (by omega)
  have fr : ∀ k, k < q → B9 k = I k := fun k hk => by
    rw [f9 k (by omega), f8 k (by omega), f7 k (by omega), f6 k (by omega), f5 k (by omega), f4 k (by omega), f3 k (by omega), f2 k (by omega), f1 k (by omega), a1 k (by omega)]
  obtain ⟨C, r1, r2, r3, r4, r5, r6⟩ := beginR_loop (L := L1) (R := R) (fun I => hR I L1) hp hq hn nr 0 (xu B9 q 14 0) xF (by omega) (by unfold xF; omega) (by rw [xu_off (by omega), fr P (by omega)]; exact h15) xu_at
  rw [nI_0] at r1
  have fq : ∀ k, B9 q k = A1 q k := fun k => by
    rw [f9 q (by omega), f8 q (by omega), f7 q (by omega), f6 q (by omega), f5 q (by omega), f4 q (by omega), f3 q (by omega), f2 q (by omega), f1 q (by omega)]
  refine ⟨(C, L1, R), ?_, rfl, fun k hk => ?_, fun k k0 k1 k2 k4 k14 => ?_, ⟨?_, ?_, ?_, ?_, r4⟩, ⟨fun k hk => ?_, ?_⟩, fun i hi => ⟨?_, ?_, ?_, ?_, ?_, ?_, ?_⟩, fun b hb => ⟨?_, ?_⟩, fun i hi => ?_⟩
  · have v1 : (xu (xu I q 0 0) q 1 0) P 1 = I P 1 := by rw [xu_off (by omega), xu_off (by omega)]
    have v2 : A0 P 3 = I P 3 := by rw [a0 P (by omega)]
    have v3 : A0 P 9 = I P 9 := by rw [a0 P (by omega)]
    unfold f_X4_begin
    rw [pB_ hq (by omega), Option.bind_some, pB_ hq (by omega), Option.bind_some, gI_of (sp_0 hp), Option.bind_some]
    dsimp only
    rw [v1, pB_ hq (by omega), Option.bind_some, ← hA0, gI_of (sp_0 hp), Option.bind_some]
    dsimp only
    rw [v2, pS_L hq, Option.bind_some]
    dsimp only
    rw [← hL1, gI_of (sp_0 hp), Option.bind_some]
    dsimp only
    rw [v3, pB_ hq (by omega), Option.bind_some, ← hA1, gR_of (ss_0 hq) (rs_5 (hR _ _) hq), Option.bind_some, e1, Option.bind_some, gR_of (sp_0 hp) (rp_11 (hR _ _) hp), Option.bind_some, gR_of (ss_0 hq) (rs_6 (hR _ _) hq), Option.bind_some, e2, Option.bind_some, gR_of (sp_0 hp) (rp_12 (hR _ _) hp), Option.bind_some, gR_of (ss_0 hq) (rs_7 (hR _ _) hq), Option.bind_some, e3, Option.bind_some, gR_of (sp_0 hp) (rp_13 (hR _ _) hp), Option.bind_some, gR_of (ss_0 hq) (rs_8 (hR _ _) hq), Option.bind_some, e4, Option.bind_some, gR_of (ss_0 hq) (rs_9 (hR _ _) hq), Option.bind_some, e5, Option.bind_some, gR_of (ss_0 hq) (rs_10 (hR _ _) hq), Option.bind_some, e6, Option.bind_some, gR_of (ss_0 hq) (rs_11 (hR _ _) hq), Option.bind_some, e7, Option.bind_some, gR_of (sp_0 hp) (rp_7 (hR _ _) hp), Option.bind_some, gR_of (ss_0 hq) (rs_12 (hR _ _) hq), Option.bind_some, e8, Option.bind_some, gR_of (ss_0 hq) (rs_13 (hR _ _) hq), Option.bind_some, e9, Option.bind_some, pB_ hq (by omega), Option.bind_some]
    exact r1
  · dsimp only
    rw [r2 k (by omega) (by omega) (by omega) (by omega) (by omega), xu_off (by omega), f9 k (by omega), f8 k (by omega), f7 k (by omega), f6 k (by omega), f5 k (by omega), f4 k (by omega), f3 k (by omega), f2 k (by omega), f1 k (by omega), a1 k (by omega)]
  · dsimp only
    rw [r3 k k14, xu_at2 k14, fq, hA1, xu_at2 k4, hA0, xu_at2 k2, xu_at2 k1, xu_at2 k0]
  · dsimp only
    rw [r3 0 (by omega), xu_at2 (by omega), fq, hA1, xu_at2 (by omega), hA0, xu_at2 (by omega), xu_at2 (by omega), xu_at]
  · dsimp only
    rw [r3 1 (by omega), xu_at2 (by omega), fq, hA1, xu_at2 (by omega), hA0, xu_at2 (by omega), xu_at]
  · dsimp only
    rw [r3 2 (by omega), xu_at2 (by omega), fq, hA1, xu_at2 (by omega), hA0, xu_at]
  · dsimp only
    rw [r3 4 (by omega), xu_at2 (by omega), fq, hA1, xu_at]
  · dsimp only; rw [hL1, xu_off hk]
  · dsimp only; rw [hL1, xu_at]
  · dsimp only
    rw [r2 _ (by omega) (by omega) (by omega) (by omega) (by omega), xu_off (by omega), f9 _ (by omega), f8 _ (by omega), f7 _ (by omega), f6 _ (by omega), f5 _ (by omega), f4 _ (by omega), f3 _ (by omega), f2 _ (by omega), g1 i hi]
  · dsimp only
    rw [r2 _ (by omega) (by omega) (by omega) (by omega) (by omega), xu_off (by omega), f9 _ (by omega), f8 _ (by omega), f7 _ (by omega), f6 _ (by omega), f5 _ (by omega), f4 _ (by omega), f3 _ (by omega), g2 i hi, f1 _ (by omega), a1 _ (by omega)]
  · dsimp only
    rw [r2 _ (by omega) (by omega) (by omega) (by omega) (by omega), xu_off (by omega), f9 _ (by omega), f8 _ (by omega), f7 _ (by omega), f6 _ (by omega), f5 _ (by omega), f4 _ (by omega), g3 i hi, f2 _ (by omega), f1 _ (by omega), a1 _ (by omega)]
  · dsimp only
    rw [r2 _ (by omega) (by omega) (by omega) (by omega) (by omega), xu_off (by omega), f9 _ (by omega), f8 _ (by omega), f7 _ (by omega), f6 _ (by omega), f5 _ (by omega), g4 i hi, f3 _ (by omega), f2 _ (by omega), f1 _ (by omega), a1 _ (by omega)]
  · dsimp only
    rw [r2 _ (by omega) (by omega) (by omega) (by omega) (by omega), xu_off (by omega), f9 _ (by omega), f8 _ (by omega), f7 _ (by omega), f6 _ (by omega), g5 i hi]
  · dsimp only
    rw [r2 _ (by omega) (by omega) (by omega) (by omega) (by omega), xu_off (by omega), f9 _ (by omega), f8 _ (by omega), f7 _ (by omega), g6 i hi]
  · dsimp only
    rw [r2 _ (by omega) (by omega) (by omega) (by omega) (by omega), xu_off (by omega), f9 _ (by omega), f8 _ (by omega), g7 i hi]
  · dsimp only
    rw [r2 _ (by omega) (by omega) (by omega) (by omega) (by omega), xu_off (by omega), f9 _ (by omega), g8 b hb, f7 _ (by omega), f6 _ (by omega), f5 _ (by omega), f4 _ (by omega), f3 _ (by omega), f2 _ (by omega), f1 _ (by omega), a1 _ (by omega)]
  · dsimp only
    rw [r2 _ (by omega) (by omega) (by omega) (by omega) (by omega), xu_off (by omega), g9 b hb]
  · obtain ⟨y1, y2, y3, y4⟩ := r6 i (by omega) hi
    dsimp only
    rw [y1, y2, y3, y4, xu_off (by omega), xu_off (by omega), xu_off (by omega), fr _ (by omega), fr _ (by omega), fr _ (by omega)]
    exact ⟨rfl, rfl, rfl, rfl⟩

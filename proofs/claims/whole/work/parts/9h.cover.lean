/-! LEVEL 2: cover -/
theorem stretch_lock {P nw nb nr tp : Nat} {d m : xD} (hQ : RQ P nw nb nr tp d m) (x1 x2 : Int32) : ∀ k i x3 F F', i + k = tp + 1 → k < F → k < F' → ∃ b : Bool, xloop (fun _ _ _ _ _ _ => none) (b_X9_noStretchBeyond_5 shA) F 0 x1 x2 x3 (nI i) d = some (if b then 1 else 0, d) ∧ xloop (fun _ _ _ _ _ _ => none) (b_X10_doCover_5 shA) F' 99 x2 x1 x3 (nI i) m = some (if b then 1 else 0, m) := by
  have hp := pr_pl (rq_pr hQ)
  have hb8 := pr_b8 (rq_pr hQ); have ht60 := pr_t60 (rq_pr hQ)
  have hRc := rq_rc hQ; have hRm := rq_rm hQ
  have ct : d.1 P 0 = nI tp := pr_cT (rq_pr hQ)
  have mt : m.1 101 0 = nI tp := p0_mT (rq_pr hQ)
  obtain ⟨hW, hS⟩ := rq_rs hQ
  intro k
  induction k with
  | zero =>
    intro i x3 F F' h1 h2 h3
    obtain ⟨F, rfl⟩ : ∃ G, F = G + 1 := ⟨F - 1, by omega⟩
    obtain ⟨F', rfl⟩ : ∃ G, F' = G + 1 := ⟨F' - 1, by omega⟩
    refine ⟨true, ?_, ?_⟩
    · rw [loop_s, b_X9_noStretchBeyond_5, g0_4 hQ, Option.bind_some, gI_of (sp_0 hp), Option.bind_some, ct, if_pos (nI_lt (by omega) (by omega))]; rfl
    · rw [loop_s, b_X10_doCover_5, gR_of sA_99 (rf_99_3 hRm), Option.bind_some, aN_0, Option.bind_some, mt, if_pos (nI_lt (by omega) (by omega))]; rfl
  | succ k ih =>
    intro i x3 F F' h1 h2 h3
    obtain ⟨F, rfl⟩ : ∃ G, F = G + 1 := ⟨F - 1, by omega⟩
    obtain ⟨F', rfl⟩ : ∃ G, F' = G + 1 := ⟨F' - 1, by omega⟩
    have eB := e_benchOn hW (nI i)
    have eA := e_benchAt hW (nI i)
    rw [loop_s, loop_s, b_X9_noStretchBeyond_5, b_X10_doCover_5, g0_4 hQ, Option.bind_some, gI_of (sp_0 hp), Option.bind_some, ct, gR_of sA_99 (rf_99_3 hRm), Option.bind_some, Option.bind_some, aN_0, Option.bind_some, mt, if_neg (nI_nlt (by omega) (by omega)), if_neg (nI_nlt (by omega) (by omega)), on_of (sp_0 hp), eB, Option.bind_some, on_of sA_99, eA, Option.bind_some]
    dsimp only
    rw [g0_4 hQ, Option.bind_some, gI_of (sp_0 hp), Option.bind_some, ct, gR_of sA_99 (rf_99_3 hRm), Option.bind_some, aN_0, Option.bind_some, mt]
    unfold k_X9_noStretchBeyond_56 k_X9_noStretchBeyond_69 k_X9_noStretchBeyond_64 k_X10_doCover_53 k_X10_doCover_66 k_X10_doCover_61
    rw [nI_1]
    have step : ∃ b : Bool, (if nI i - x3 ≤ x1 then xloop (fun _ _ _ _ _ _ => none) (b_X9_noStretchBeyond_5 shA) F 0 x1 x2 (nI i) (nI (i + 1)) d else some (0, d)) = some (if b then 1 else 0, d) ∧ (if nI i - x3 ≤ x1 then xloop (fun _ _ _ _ _ _ => none) (b_X10_doCover_5 shA) F' 99 x2 x1 (nI i) (nI (i + 1)) m else some (0, m)) = some (if b then 1 else 0, m) := by
      by_cases c1 : nI i - x3 ≤ x1
      · rw [if_pos c1, if_pos c1]; exact ih (i + 1) (nI i) F F' (by omega) (by omega) (by omega)
      · rw [if_neg c1, if_neg c1]; exact ⟨false, rfl, rfl⟩
    by_cases c0 : nI i = nI tp
    · rw [if_pos c0, if_pos c0]; exact step
    rw [if_neg c0, if_neg c0]
    by_cases c2 : findI (m.1 103) (nI i) 0 nb = -1
    · rw [if_pos c2, if_pos c2]; exact ih (i + 1) x3 F F' (by omega) (by omega) (by omega)
    rw [if_neg c2, if_neg c2]
    obtain ⟨b, hb, g1, g2⟩ := e_found hW c2
    rw [g1, bi1 x2 (by omega)]
    cases t : bt x2 b with
    | true => rw [if_pos (by decide), if_neg (show ¬ (if true = true then (1 : Int32) else 0) = 0 by decide)]; exact step
    | false => rw [if_neg (show ¬ (if false = true then (1 : Int32) else 0) = 1 by decide), if_pos (by decide)]; exact ih (i + 1) x3 F F' (by omega) (by omega) (by omega)
theorem cv_1 : ∀ nb : Fin 9, (1 : Int32) <<< (nI nb.val &&& 31) = nI (2 ^ nb.val) ∧ 2 ^ nb.val ≤ 256 := by decide +kernel
theorem cover_lock {P nw nb nr tp : Nat} {d m : xD} (hQ : RQ P nw nb nr tp d m) (x1 : Int32) : ∀ k i F F' x2 x3, i + k = 2 ^ nb → k < F → k < F' → ((x3 = -2 ∧ x2 = 9) ∨ ∃ l, l < 256 ∧ x3 = nI l ∧ x2 = bo (nI l) 0 12 0) → ∃ r, xloop (fun _ _ _ _ _ _ => none) (b_X9_cover_22 shA) F 0 x1 x2 x3 (nI i) d = some (r, d) ∧ xloop (fun _ _ _ _ _ => none) (b_X10_cover_23 shA) F' 99 x1 x3 (nI i) m = some (r, m) := by
  have hp := pr_pl (rq_pr hQ)
  have hb8 := pr_b8 (rq_pr hQ); have ht60 := pr_t60 (rq_pr hQ)
  have hRc := rq_rc hQ; have hRm := rq_rm hQ
  have ct : d.1 P 4 = nI nb := pr_cB (rq_pr hQ)
  have mt : m.1 101 1 = nI nb := p0_mB (rq_pr hQ)
  obtain ⟨v1, v2⟩ := cv_1 ⟨nb, by omega⟩
  dsimp only at v1 v2
  intro k
  induction k with
  | zero =>
    intro i F F' x2 x3 h1 h2 h3 hx
    obtain ⟨F, rfl⟩ : ∃ G, F = G + 1 := ⟨F - 1, by omega⟩
    obtain ⟨F', rfl⟩ : ∃ G, F' = G + 1 := ⟨F' - 1, by omega⟩
    rw [loop_s, loop_s, b_X9_cover_22, b_X10_cover_23, g0_4 hQ, Option.bind_some, gI_of (sp_0 hp), Option.bind_some, ct, gR_of sA_99 (rf_99_3 hRm), Option.bind_some, aN_1, Option.bind_some, mt, v1, if_pos (nI_le (by omega) (by omega)), if_pos (nI_le (by omega) (by omega))]
    exact ⟨x3, rfl, rfl⟩
  | succ k ih =>
    intro i F F' x2 x3 h1 h2 h3 hx
    obtain ⟨F, rfl⟩ : ∃ G, F = G + 1 := ⟨F - 1, by omega⟩
    obtain ⟨F', rfl⟩ : ∃ G, F' = G + 1 := ⟨F' - 1, by omega⟩
    have hi : i < 256 := by omega
    obtain ⟨bb, e1, e2⟩ := stretch_lock hQ x1 (nI i) tp 1 0 xF xF (by omega) (by unfold xF; omega) (by unfold xF; omega)
    have e1 : f_X9_noStretchBeyond shA 0 x1 (nI i) d = _ := e1
    have e2 : f_X10_doCover shA 99 (nI i) x1 m = _ := e2
    obtain ⟨kk, hk⟩ := bo_dec ⟨i, hi⟩
    rw [loop_s, loop_s, b_X9_cover_22, b_X10_cover_23, g0_4 hQ, Option.bind_some, gI_of (sp_0 hp), Option.bind_some, ct, gR_of sA_99 (rf_99_3 hRm), Option.bind_some, aN_1, Option.bind_some, mt, v1, if_neg (nI_ge (by omega) (by omega)), if_neg (nI_ge (by omega) (by omega)), e_bitCount hi, Option.bind_some]
    unfold k_X9_cover_65 k_X10_cover_50 k_X10_cover_61
    dsimp only
    have go : ∃ r, ((xon 9 shA 0 (f_X9_noStretchBeyond shA 0 x1 (nI i) d)).bind fun z4 => if z4.1 = 0 then xloop (fun _ _ _ _ _ _ => none) (b_X9_cover_22 shA) F 0 x1 x2 x3 (nI i + 1) z4.2 else xloop (fun _ _ _ _ _ _ => none) (b_X9_cover_22 shA) F 0 x1 (bo (nI i) 0 12 0) (nI i) (nI i + 1) z4.2) = some (r, d) ∧ ((xon 10 shA 99 (f_X10_doCover shA 99 (nI i) x1 m)).bind fun z1 => if z1.1 = 0 then xloop (fun _ _ _ _ _ => none) (b_X10_cover_23 shA) F' 99 x1 x3 (nI i + 1) z1.2 else xloop (fun _ _ _ _ _ => none) (b_X10_cover_23 shA) F' 99 x1 (nI i) (nI i + 1) z1.2) = some (r, m) := by
      rw [on_of sA_0, e1, Option.bind_some, on_of sA_99, e2, Option.bind_some, nI_1]
      dsimp only
      cases bb with
      | false => 
        rw [if_pos (by decide), if_pos (by decide)]; exact ih (i + 1) F F' x2 x3 (by omega) (by omega) (by omega) hx
      | true => 
        rw [if_neg (by decide), if_neg (by decide)]; exact ih (i + 1) F F' _ (nI i) (by omega) (by omega) (by omega) (Or.inr ⟨i, hi, rfl, rfl⟩)
    rcases hx with ⟨rfl, rfl⟩ | ⟨l, hl, rfl, rfl⟩
    · rw [hk, if_neg (show ¬ (9 : Int32) ≤ nI kk.val from nI_ge (b := 9) kk.isLt (by omega)), if_pos (show (-2 : Int32) < 0 by decide), ← hk]
      exact go
    · rw [if_neg (show ¬ nI l < 0 from nI_pos (by omega)), e_bitsOf, Option.bind_some, e_bitsOf, Option.bind_some]
      dsimp only
      by_cases c1 : bo (nI l) 0 12 0 ≤ bo (nI i) 0 12 0
      · rw [if_pos c1, if_pos c1, nI_1]; exact ih (i + 1) F F' _ _ (by omega) (by omega) (by omega) (Or.inr ⟨l, hl, rfl, rfl⟩)
      · rw [if_neg c1, if_neg c1]; exact go
theorem l2_cover : L2_cover Rel := by
  intro d a1 hd
  refine co_L2 (fC := f_X9_cover shA 0 a1) (fM := f_X10_cover shA 99 a1) (co_look hd ?_)
  intro P nw nb nr tp md m hm hQ
  have hb8 := pr_b8 (rq_pr hQ)
  obtain ⟨v1, v2⟩ := cv_1 ⟨nb, by omega⟩
  dsimp only at v1 v2
  unfold f_X10_cover
  rw [t0_e, ← hm]
  unfold f_X9_cover k_X9_cover_11 k_X10_cover_16
  by_cases c1 : a1 < 1
  · rw [if_pos c1, if_pos c1]; exact ⟨_, rfl, rfl⟩
  rw [if_neg c1, if_neg c1]
  by_cases c2 : a1 ≤ 60
  · rw [if_pos c2, if_pos c2]
    have z := cover_lock hQ a1 (2 ^ nb) 0 xF xF 9 (-2) (by omega) (by unfold xF; omega) (by unfold xF; omega) (Or.inl ⟨rfl, rfl⟩)
    rw [nI_0] at z
    exact z
  · rw [if_neg c2, if_neg c2]; exact ⟨_, rfl, rfl⟩

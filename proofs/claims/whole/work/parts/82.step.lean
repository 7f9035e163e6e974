/-! LEVEL 2: a walker's steps in a minute -/
def RS (P q s nw nb nr tp e tl : Nat) (mt : Nat → Nat → Prop) (fl : Prop) (c0 m0 c m : xD) : Prop := WF P q s nw nb nr tp c0 m0 c m ∧ SC nw nb nr e tp tl mt fl m0.1 (m.1 99 53) (vC q c.1) (c.2.1 q 3) (vM s m.1)
def PA (nw : Nat) (G : Nat → Nat → Int32) : Prop := ∀ p, p < nw → ∃ a, a ≤ 9 ∧ (if nI p = G 99 51 then G 99 52 else G 108 p) = nI a
theorem e_outM {P q s nw nb nr tp : Nat} {c0 m0 c m : xD} (h : WF P q s nw nb nr tp c0 m0 c m) {p : Nat} (hpw : p < nw) : f_X10_goesOut shA 99 (nI s) (nI p) m = some (xu (xu (xu (xu m.1 124 (6 * s + p) 1) 127 (6 * s + p) (-1)) 128 (6 * s + p) 0) 124 (6 * s + p) 3, m.2.1, m.2.2) := by
  have hRc := wf_rc h; have hRm := wf_rm h; have hq := wf_sq h; have hp := pr_pl (wf_pr h); have hs23 := wf_s23 h; have hqr := isSc_ge hq; have hpr := isPl_le hp; have hw6 := pr_w6 (wf_pr h); have hb8 := pr_b8 (wf_pr h); have hr12 := pr_r12 (wf_pr h); have ht2 := pr_t2 (wf_pr h); have ht60 := pr_t60 (wf_pr h)
  unfold f_X10_goesOut f_X10_getsUp
  simp (disch := omega) only [xgR, sA_99, on_of sA_99, rf_99_40 hRm, rf_99_43 hRm, rf_99_44 hRm, m6_, nI_add, sI_of sA_124, sI_of sA_127, sI_of sA_128, ↓reduceIte, Option.bind_some]
theorem rs_out {P q s nw nb nr tp e tl : Nat} {mt : Nat → Nat → Prop} {fl : Prop} {c0 m0 c m : xD} (hr : RS P q s nw nb nr tp e tl mt fl c0 m0 c m) {p : Nat} (hpw : p < nw) (h0 : vM s m.1 5 p ≠ 2) : RS P q s nw nb nr tp e tl mt fl c0 m0 (xu c.1 (q + 1) p 3, c.2.1, c.2.2) (xu (xu (xu (xu m.1 124 (6 * s + p) 1) 127 (6 * s + p) (-1)) 128 (6 * s + p) 0) 124 (6 * s + p) 3, m.2.1, m.2.2) := by
  obtain ⟨h, hs⟩ := hr
  have hRc := wf_rc h; have hRm := wf_rm h; have hq := wf_sq h; have hp := pr_pl (wf_pr h); have hs23 := wf_s23 h; have hqr := isSc_ge hq; have hpr := isPl_le hp; have hw6 := pr_w6 (wf_pr h); have hb8 := pr_b8 (wf_pr h); have hr12 := pr_r12 (wf_pr h); have ht2 := pr_t2 (wf_pr h); have ht60 := pr_t60 (wf_pr h)
  refine ⟨wf_m2 (wf_m2 (wf_m2 (wf_m2 (wf_c (j := 1) h (by omega) (by omega)) (by omega) (by omega) (by omega)) (by omega) (by omega) (by omega)) (by omega) (by omega) (by omega)) (by omega) (by omega) (by omega), ?_⟩
  show SC nw nb nr e tp tl mt fl m0.1 (xu (xu (xu (xu m.1 124 (6 * s + p) 1) 127 (6 * s + p) (-1)) 128 (6 * s + p) 0) 124 (6 * s + p) 3 99 53) (vC q (xu c.1 (q + 1) p 3)) (c.2.1 q 3) (vM s (xu (xu (xu (xu m.1 124 (6 * s + p) 1) 127 (6 * s + p) (-1)) 128 (6 * s + p) 0) 124 (6 * s + p) 3))
  simp (disch := omega) only [xu_cell, vC_xu, vM_124, vM_127, vM_128]
  exact sc_out hs h0
theorem rs_turn {P q s nw nb nr tp e tl : Nat} {mt : Nat → Nat → Prop} {fl : Prop} {c0 m0 c m : xD} (hr : RS P q s nw nb nr tp e tl mt fl c0 m0 c m) {p : Nat} {v : Int32} (hpw : p < nw) : RS P q s nw nb nr tp e tl mt fl c0 m0 (xu c.1 (q + 3) p v, c.2.1, c.2.2) (xu m.1 126 (6 * s + p) v, m.2.1, m.2.2) := by
  obtain ⟨h, hs⟩ := hr
  have hRc := wf_rc h; have hRm := wf_rm h; have hq := wf_sq h; have hp := pr_pl (wf_pr h); have hs23 := wf_s23 h; have hqr := isSc_ge hq; have hpr := isPl_le hp; have hw6 := pr_w6 (wf_pr h); have hb8 := pr_b8 (wf_pr h); have hr12 := pr_r12 (wf_pr h); have ht2 := pr_t2 (wf_pr h); have ht60 := pr_t60 (wf_pr h)
  refine ⟨wf_m2 (wf_c (j := 3) h (by omega) (by omega)) (by omega) (by omega) (by omega), ?_⟩
  show SC nw nb nr e tp tl mt fl m0.1 (xu m.1 126 (6 * s + p) v 99 53) (vC q (xu c.1 (q + 3) p v)) (c.2.1 q 3) (vM s (xu m.1 126 (6 * s + p) v))
  simp (disch := omega) only [xu_cell, vC_xu, vM_126]
  exact sc_turn hs
theorem rs_step {P q s nw nb nr tp e tl : Nat} {mt : Nat → Nat → Prop} {fl : Prop} {c0 m0 c m : xD} (hr : RS P q s nw nb nr tp e tl mt fl c0 m0 c m) {p a : Nat} (hpw : p < nw) (ha : a ≤ tp) (h0 : vM s m.1 5 p ≠ 2) : RS P q s nw nb nr tp e tl mt fl c0 m0 (xu c.1 (q + 2) p (nI a), c.2.1, c.2.2) (xu m.1 125 (6 * s + p) (nI a), m.2.1, m.2.2) := by
  obtain ⟨h, hs⟩ := hr
  have hRc := wf_rc h; have hRm := wf_rm h; have hq := wf_sq h; have hp := pr_pl (wf_pr h); have hs23 := wf_s23 h; have hqr := isSc_ge hq; have hpr := isPl_le hp; have hw6 := pr_w6 (wf_pr h); have hb8 := pr_b8 (wf_pr h); have hr12 := pr_r12 (wf_pr h); have ht2 := pr_t2 (wf_pr h); have ht60 := pr_t60 (wf_pr h)
  refine ⟨wf_m2 (wf_c (j := 2) h (by omega) (by omega)) (by omega) (by omega) (by omega), ?_⟩
  show SC nw nb nr e tp tl mt fl m0.1 (xu m.1 125 (6 * s + p) (nI a) 99 53) (vC q (xu c.1 (q + 2) p (nI a))) (c.2.1 q 3) (vM s (xu m.1 125 (6 * s + p) (nI a)))
  simp (disch := omega) only [xu_cell, vC_xu, vM_125]
  exact sc_step hs ha h0
theorem walk_loop {P q s nw nb nr tp e tl : Nat} {mt : Nat → Nat → Prop} {fl : Prop} {c0 m0 : xD} {p pc : Nat} (hpw : p < nw) (hpc : pc ≤ 9) (hpa : (if nI p = m0.1 99 51 then m0.1 99 52 else m0.1 108 p) = nI pc) : ∀ n k F1 F2 c m, k + n = pc → n < F1 → n < F2 → RS P q s nw nb nr tp e tl mt fl c0 m0 c m → vM s m.1 5 p = 1 → ∃ c' m', xloop (fun _ _ _ _ _ _ => none) (b_X2_walk_10 shA) F1 87 q (nI p) (nI pc) (nI k) c = some c' ∧ xloop (fun _ _ _ _ _ _ => none) (b_X10_walks_10 shA) F2 99 (nI s) (nI p) (nI (6 * s + p)) (nI k) m = some m' ∧ RS P q s nw nb nr tp e tl mt fl c0 m0 c' m' := by
  intro n
  induction n with
  | zero =>
    intro k F1 F2 c m h1 h2 h3 hr h5
    obtain ⟨F1, rfl⟩ : ∃ G, F1 = G + 1 := ⟨F1 - 1, by omega⟩
    obtain ⟨F2, rfl⟩ : ∃ G, F2 = G + 1 := ⟨F2 - 1, by omega⟩
    obtain ⟨h, hs⟩ := hr
    have eP : f_X10_paceOf shA 99 (nI p) m = some (if nI p = m0.1 99 51 then m0.1 99 52 else m0.1 108 p, m) := e_paceOf h hpw m.2.1
    rw [hpa] at eP
    refine ⟨c, m, ?_, ?_, h, hs⟩
    · rw [loop_s, b_X2_walk_10]; rw [if_pos (nI_le (by omega) (by omega))]; rfl
    · rw [loop_s, b_X10_walks_10]; rw [on_of sA_99, eP, Option.bind_some]; dsimp only; rw [if_pos (nI_le (by omega) (by omega))]; rfl
  | succ n ih =>
    intro k F1 F2 c m h1 h2 h3 hr h5
    obtain ⟨F1, rfl⟩ : ∃ G, F1 = G + 1 := ⟨F1 - 1, by omega⟩
    obtain ⟨F2, rfl⟩ : ∃ G, F2 = G + 1 := ⟨F2 - 1, by omega⟩
    have hr0 := hr
    obtain ⟨h, hs⟩ := hr
    have eP : f_X10_paceOf shA 99 (nI p) m = some (if nI p = m0.1 99 51 then m0.1 99 52 else m0.1 108 p, m) := e_paceOf h hpw m.2.1
    rw [hpa] at eP
    have hRc := wf_rc h; have hRm := wf_rm h; have hq := wf_sq h; have hp := pr_pl (wf_pr h); have hs23 := wf_s23 h; have hqr := isSc_ge hq; have hpr := isPl_le hp; have hw6 := pr_w6 (wf_pr h); have hb8 := pr_b8 (wf_pr h); have hr12 := pr_r12 (wf_pr h); have ht2 := pr_t2 (wf_pr h); have ht60 := pr_t60 (wf_pr h)
    have h5' : vM s m.1 5 p ≠ 2 := by rw [h5]; decide
    obtain ⟨a, ha, x2, y6⟩ := sc_sp hs p hpw
    have x2 : c.1 (q + 2) p = nI a := x2
    have x3 : c.1 (q + 3) p = vM s m.1 7 p := sc_dn hs p hpw
    obtain ⟨pa, hpa', y3, x02⟩ := sc_pi hs
    have x02 : c.1 q 2 = if pa = 0 then -2 else nI pa := x02
    have y3 : m.1 122 s = nI pa := by rw [← y3]; exact rM_122
    have tpC : c.1 P 0 = nI tp := by rw [wf_oc h P (Or.inl (by omega))]; exact pr_cT (wf_pr h)
    have tpM : m.1 101 0 = nI tp := by rw [wf_om h 101 (Or.inl (by omega)) (by omega)]; exact p0_mT (wf_pr h)
    have main : ∀ y1 : Int32, (y1 = -1 ∨ y1 = 1) → ∃ c' m', k_X2_walk_37 shA (xloop (fun _ _ _ _ _ _ => none) (b_X2_walk_10 shA) F1) 87 q (nI p) (nI pc) (nI k) (nI a) y1 c = some c' ∧ k_X10_walks_41 shA (xloop (fun _ _ _ _ _ _ => none) (b_X10_walks_10 shA) F2) 99 (nI s) (nI p) (nI (6 * s + p)) (nI k) (nI a) y1 m = some m' ∧ RS P q s nw nb nr tp e tl mt fl c0 m0 c' m' := by
      intro y1 hy
      have hnx : nI a + y1 = -1 ∨ ∃ b, b ≤ 61 ∧ nI a + y1 = nI b := by
        rcases hy with hy | hy
        · subst hy
          by_cases a0 : a = 0
          · subst a0; exact Or.inl (by decide)
          · obtain ⟨g, rfl⟩ : ∃ g, a = g + 1 := ⟨a - 1, by omega⟩
            exact Or.inr ⟨g, by omega, nI_m1 g⟩
        · subst hy; exact Or.inr ⟨a + 1, by omega, nI_1 a⟩
      have outC : k_X2_walk_81 shA q (nI p) c = some (xu c.1 (q + 1) p 3, c.2.1, c.2.2) := by
        unfold k_X2_walk_81
        simp (disch := omega) only [xgR, ss_0 hq, rs_5 hRc hq, sI_of (ss_1 hq), ↓reduceIte, Option.bind_some]
      have outM : k_X10_walks_60 shA 99 (nI s) (nI p) m = some (xu (xu (xu (xu m.1 124 (6 * s + p) 1) 127 (6 * s + p) (-1)) 128 (6 * s + p) 0) 124 (6 * s + p) 3, m.2.1, m.2.2) := by
        unfold k_X10_walks_60; rw [on_of sA_99, e_outM h hpw]; rfl
      unfold k_X2_walk_37 k_X10_walks_41
      rcases hnx with hnx | ⟨b, hb61, hnx⟩
      · rw [hnx]
        have n1 : ¬ (-1 : Int32) = c.1 q 2 := by
          rw [x02]
          by_cases z : pa = 0
          · rw [if_pos z]; decide
          · rw [if_neg z]; exact fun w => nI_ne_m1 (show pa < 2 ^ 31 by omega) w.symm
        rw [gI_of (ss_0 hq), Option.bind_some, if_neg n1, if_pos (by decide), if_pos (by decide), outC, outM]
        exact ⟨_, _, rfl, rfl, rs_out hr0 hpw h5'⟩
      · rw [hnx]
        have nn : ¬ nI b < 0 := nI_pos (by omega)
        by_cases hpi : pa ≠ 0 ∧ b = pa
        · obtain ⟨p0, p1⟩ := hpi
          rw [gI_of (ss_0 hq), Option.bind_some, x02, if_neg p0, p1, if_pos rfl, if_neg (nI_pos (by omega))]
          unfold k_X2_walk_49 k_X10_walks_87
          simp (disch := omega) only [xgR, ss_0 hq, rs_7 hRc hq, aI_of (ss_3 hq), sI_of (ss_3 hq), ↓reduceIte, Option.bind_some, x3, sA_99, rf_99_3 hRm, rf_99_38 hRm, rf_99_42 hRm, aN_0, tpM, aI_of sA_122, y3, aI_of sA_126, sI_of sA_126, rM_126, if_pos (nI_le (show pa ≤ tp by omega) (show tp < 2 ^ 31 by omega)), if_neg (nI_nle (show 0 < pa by omega) (show pa < 2 ^ 31 by omega))]
          exact ⟨_, _, rfl, rfl, rs_turn hr0 hpw⟩
        · have n1 : ¬ nI b = c.1 q 2 := by
            rw [x02]
            by_cases z : pa = 0
            · rw [if_pos z]; exact nI_ne_m2 (by omega)
            · rw [if_neg z]; exact fun w => hpi ⟨z, (nI_eq (by omega) (by omega)).mp w⟩
          rw [gI_of (ss_0 hq), Option.bind_some, if_neg n1, if_neg nn, if_neg nn]
          by_cases hbt : b ≤ tp
          · have c102 : ∃ m', ((xgR 10 shA m 99 38).bind fun v14 => (xaI .int shA m v14 (nI s)).bind fun v15 => if v15 ≤ 0 then (k_X10_walks_102 shA (xloop (fun _ _ _ _ _ _ => none) (b_X10_walks_10 shA) F2) 99 (nI s) (nI p) (nI (6 * s + p)) (nI k) (nI b) m) else ((xgR 10 shA m 99 38).bind fun v16 => (xaI .int shA m v16 (nI s)).bind fun v17 => if (nI b) = v17 then (k_X10_walks_87 shA 99 (nI (6 * s + p)) m) else (k_X10_walks_102 shA (xloop (fun _ _ _ _ _ _ => none) (b_X10_walks_10 shA) F2) 99 (nI s) (nI p) (nI (6 * s + p)) (nI k) (nI b) m))) = m' ∧ k_X10_walks_102 shA (xloop (fun _ _ _ _ _ _ => none) (b_X10_walks_10 shA) F2) 99 (nI s) (nI p) (nI (6 * s + p)) (nI k) (nI b) m = m' := by
              refine ⟨_, ?_, rfl⟩
              simp (disch := omega) only [xgR, ↓reduceIte, Option.bind_some, sA_99, rf_99_38 hRm, aI_of sA_122, y3]
              by_cases z : nI pa ≤ 0
              · rw [if_pos z]
              · rw [if_neg z]
                have z1 : ¬ nI b = nI pa := by
                  intro w
                  have w1 := (nI_eq (show b < 2 ^ 31 by omega) (show pa < 2 ^ 31 by omega)).mp w
                  refine hpi ⟨?_, w1⟩
                  intro w2; subst w2; exact z (by decide)
                rw [if_neg z1]
            obtain ⟨M, c1, c2⟩ := c102
            have le1 := nI_le hbt (show tp < 2 ^ 31 by omega)
            simp only [xgR, sA_87, rf_87_0 hRc, sA_99, rf_99_3 hRm, aN_0, tpM, ↓reduceIte, Option.bind_some, gI_of (sp_0 hp), tpC, if_pos le1] at c1 ⊢
            rw [c1, ← c2]
            have hr1 := rs_step hr0 (a := b) hpw hbt h5'
            have h0' : vM s (xu m.1 125 (6 * s + p) (nI b)) 5 p ≠ 2 := by rw [vM_125]; exact h5'
            have h0'' : vM s (xu m.1 125 (6 * s + p) (nI b)) 5 p = 1 := by rw [vM_125]; exact h5
            unfold k_X10_walks_102
            have tpC1 : (xu c.1 (q + 2) p (nI b)) P 0 = nI tp := by rw [xu_cell (by omega)]; exact tpC
            have tpM1 : (xu m.1 125 (6 * s + p) (nI b)) 101 0 = nI tp := by rw [xu_cell (by omega)]; exact tpM
            simp (disch := omega) only [xgR, sA_87, rf_87_0 hRc, sA_99, rf_99_3 hRm, rf_99_41 hRm, aN_0, ↓reduceIte, Option.bind_some, gI_of (sp_0 hp), ss_0 hq, rs_6 hRc hq, sI_of (ss_2 hq), sI_of sA_125, tpC1, tpM1, on_of (sp_0 hp), on_of sA_87, on_of sA_99]
            have out2 : ∃ c' m', k_X2_walk_114 shA q (nI p) (xu c.1 (q + 2) p (nI b), c.2.1, c.2.2) = some c' ∧ k_X10_walks_126 shA 99 (nI s) (nI p) (xu m.1 125 (6 * s + p) (nI b), m.2.1, m.2.2) = some m' ∧ RS P q s nw nb nr tp e tl mt fl c0 m0 c' m' := by
              have e1 := e_outM hr1.1 hpw
              try dsimp only at e1
              unfold k_X2_walk_114 k_X10_walks_126
              simp (disch := omega) only [xgR, ss_0 hq, rs_5 hRc hq, sI_of (ss_1 hq), ↓reduceIte, Option.bind_some, on_of sA_99, e1]
              exact ⟨_, _, rfl, rfl, rs_out hr1 hpw h0'⟩
            by_cases b0 : nI b = 0
            · rw [if_pos b0, if_pos b0]; exact out2
            · rw [if_neg b0, if_neg b0]
              by_cases bt' : nI b = nI tp
              · rw [if_pos bt', if_pos bt']; exact out2
              · rw [if_neg bt', if_neg bt']
                have eB := e_benchOn hr1.1 (nI b)
                try dsimp only at eB
                rw [eB, Option.bind_some]
                try dsimp only
                by_cases hx : findI (m0.1 103) (nI b) 0 nb = -1
                · have eA := e_benchAt hr1.1 (nI b)
                  try dsimp only at eA
                  rw [if_pos hx]
                  unfold f_X10_sitsAt k_X10_sitsAt_23 k_X2_walk_151
                  rw [on_of sA_99, eA, Option.bind_some]
                  try dsimp only
                  rw [if_pos hx, Option.bind_some]
                  try dsimp only
                  rw [if_pos rfl, nI_1]
                  exact ih (k + 1) F1 F2 _ _ (by omega) (by omega) (by omega) hr1 h0''
                · obtain ⟨b', hb', e1, e2⟩ := e_found h hx
                  have hst : vM s (xu m.1 125 (6 * s + p) (nI b)) 6 p = m0.1 103 b' := by rw [vM_125, xu_at, e2]
                  obtain ⟨r, c', m', k1, k2, k3, k4, k5⟩ := e_sits hr1.1 hr1.2 hpw hb' hst
                  rw [e2] at k2
                  rw [if_neg hx, e1, k1, k2, Option.bind_some, Option.bind_some]
                  unfold k_X2_walk_151 k_X2_walk_150 k_X10_walks_144
                  cases r with
                  | true => exact ⟨c', m', rfl, rfl, k3, k4⟩
                  | false =>
                    try dsimp only
                    rw [if_pos (by decide), if_pos (by decide), nI_1]
                    refine ih (k + 1) F1 F2 c' m' (by omega) (by omega) (by omega) ⟨k3, k4⟩ ?_
                    rw [k5 rfl]; exact h0''
          · have le1 : ¬ nI b ≤ nI tp := nI_ge (by omega) (by omega)
            simp only [xgR, sA_87, rf_87_0 hRc, sA_99, rf_99_3 hRm, aN_0, tpM, ↓reduceIte, Option.bind_some, gI_of (sp_0 hp), tpC, if_neg le1, outC, outM]
            exact ⟨_, _, rfl, rfl, rs_out hr0 hpw h5'⟩
    rw [loop_s, loop_s, b_X2_walk_10, b_X10_walks_10]
    have e0 : ¬ nI pc ≤ nI k := nI_ge (by omega) (by omega)
    have y6' : m.1 125 (6 * s + p) = nI a := y6
    simp (disch := omega) only [if_neg e0, xgR, ss_0 hq, rs_6 hRc hq, rs_7 hRc hq, aI_of (ss_2 hq), aI_of (ss_3 hq), ↓reduceIte, Option.bind_some, x2, x3, on_of sA_99, eP, sA_99, rf_99_41 hRm, rf_99_42 hRm, aI_of sA_125, aI_of sA_126, y6', rM_126]
    by_cases d1 : vM s m.1 7 p = 1
    · rw [if_pos d1, if_pos d1]; exact main (-1) (Or.inl rfl)
    · rw [if_neg d1, if_neg d1]; exact main 1 (Or.inr rfl)
theorem e_walk {P q s nw nb nr tp e tl : Nat} {mt : Nat → Nat → Prop} {fl : Prop} {c0 m0 c m : xD} (hr : RS P q s nw nb nr tp e tl mt fl c0 m0 c m) (hpa : PA nw m0.1) {p : Nat} (hpw : p < nw) (h5 : vM s m.1 5 p = 1) : ∃ c' m', f_X2_walk shA 87 q (nI p) c = some c' ∧ f_X10_walks shA 99 (nI s) (nI p) m = some m' ∧ RS P q s nw nb nr tp e tl mt fl c0 m0 c' m' := by
  have hr0 := hr
  obtain ⟨h, hs⟩ := hr
  have hRc := wf_rc h; have hRm := wf_rm h; have hq := wf_sq h; have hp := pr_pl (wf_pr h); have hs23 := wf_s23 h; have hqr := isSc_ge hq; have hpr := isPl_le hp; have hw6 := pr_w6 (wf_pr h); have hb8 := pr_b8 (wf_pr h); have hr12 := pr_r12 (wf_pr h); have ht2 := pr_t2 (wf_pr h); have ht60 := pr_t60 (wf_pr h)
  obtain ⟨pc, hpc, e1⟩ := hpa p hpw
  obtain ⟨c', m', k1, k2, k3⟩ := walk_loop hpw hpc e1 pc 0 xF xF c m (by omega) (xF_big (by omega)) (xF_big (by omega)) hr0 h5
  refine ⟨c', m', ?_, ?_, k3⟩
  · unfold f_X2_walk
    have x4 : c.1 (q + 4) p = nI pc := by rw [← e1]; exact sc_pa hs p hpw
    simp (disch := omega) only [xgR, ss_0 hq, rs_8 hRc hq, aI_of (ss_4 hq), ↓reduceIte, Option.bind_some, x4]
    exact k1
  · unfold f_X10_walks
    rw [m6_, nI_add]
    exact k2

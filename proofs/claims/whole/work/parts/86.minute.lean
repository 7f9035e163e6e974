/-! LEVEL 2: calls, getting up, a whole minute -/
theorem sc_up0 {nw nb nr e tp tl : Nat} {mt : Nat → Nat → Prop} {fl : Prop} {G : Nat → Nat → Int32} {xw : Int32} {X : Nat → Nat → Int32} {nu : Int64} {Y : Nat → Nat → Int32} (hs : SC nw nb nr e tp tl mt fl G xw X nu Y) {p : Nat} : SC nw nb nr e tp tl mt fl G xw (xu (xu X 1 p 1) 5 p 0) nu (xu (xu (xu Y 5 p 1) 8 p (-1)) 9 p 0) := by
  have z := sc_up hs (p := p) (v := X 5 p) (w := Y 9 p)
  rw [xu_self, xu_self] at z
  exact z
theorem andL (n : Nat) : lN n &&& (2147483647 : Int64) = lN (n % 2 ^ 31) := by
  apply Int64.toBitVec_inj.mp
  rw [Int64.toBitVec_and]
  show BitVec.ofNat 64 n &&& BitVec.ofNat 64 2147483647 = BitVec.ofNat 64 (n % 2 ^ 31)
  apply BitVec.eq_of_toNat_eq
  rw [BitVec.toNat_and, BitVec.toNat_ofNat, BitVec.toNat_ofNat, BitVec.toNat_ofNat, show 2147483647 % 2 ^ 64 = 2 ^ 31 - 1 by decide, Nat.and_two_pow_sub_one_eq_mod]
  omega
theorem andI (n : Nat) : nI n &&& (2147483647 : Int32) = nI (n % 2 ^ 31) := by
  apply Int32.toBitVec_inj.mp
  rw [Int32.toBitVec_and]
  show BitVec.ofNat 32 n &&& BitVec.ofNat 32 2147483647 = BitVec.ofNat 32 (n % 2 ^ 31)
  apply BitVec.eq_of_toNat_eq
  rw [BitVec.toNat_and, BitVec.toNat_ofNat, BitVec.toNat_ofNat, BitVec.toNat_ofNat, show 2147483647 % 2 ^ 32 = 2 ^ 31 - 1 by decide, Nat.and_two_pow_sub_one_eq_mod]
  omega
theorem drawL (a : Nat) : ((lN a * (1103515245 : Int64)) + (12345 : Int64)) &&& (2147483647 : Int64) = lN ((a * 1103515245 + 12345) % 2 ^ 31) := by
  rw [show (1103515245 : Int64) = lN 1103515245 from rfl, show (12345 : Int64) = lN 12345 from rfl, lN_mul, lN_add, andL]
theorem drawI (a : Nat) : ((nI a * (1103515245 : Int32)) + (12345 : Int32)) &&& (2147483647 : Int32) = nI ((a * 1103515245 + 12345) % 2 ^ 31) := by
  rw [show (1103515245 : Int32) = nI 1103515245 from rfl, show (12345 : Int32) = nI 12345 from rfl, pk_mul, nI_add, andI]
theorem draw_ex (a : Nat) : ∃ a', a' < 2 ^ 31 ∧ ((lN a * (1103515245 : Int64)) + (12345 : Int64)) &&& (2147483647 : Int64) = lN a' ∧ ((nI a * (1103515245 : Int32)) + (12345 : Int32)) &&& (2147483647 : Int32) = nI a' :=
  ⟨_, Nat.mod_lt _ (by decide), drawL a, drawI a⟩
theorem cmpN {x y : Nat} (hx : x < 2 ^ 31) (hy : y < 2 ^ 31) : 0 ≤ lg_cmp (lN x) (lN y) ↔ y ≤ x := by
  unfold lg_cmp
  by_cases p : lN x > lN y
  · rw [if_pos p]
    have p1 := (lN_lt hy hx).mp p
    exact ⟨fun _ => by omega, fun _ => by decide⟩
  · rw [if_neg p]
    have p1 : ¬ y < x := fun z => p ((lN_lt hy hx).mpr z)
    by_cases p2 : lN x = lN y
    · rw [if_pos p2]
      have p3 := (lN_eq hx hy).mp p2
      exact ⟨fun _ => by omega, fun _ => by decide⟩
    · rw [if_neg p2]
      have p3 : x ≠ y := fun z => p2 (by rw [z])
      exact ⟨fun z => absurd z (by decide), fun z => by omega⟩
def CB (cl bn tw : Int32) : Prop := (cl = 1 ∧ tw = 1) ∨ (cl = 0 ∧ bn = 0 ∧ tw ≠ 1) ∨ (cl = 2 ∧ bn = 1 ∧ tw ≠ 1)
theorem aN_5' {d : xD} : xaI .int shA d 101 (5 : Int32) = some (d.1 101 5) := aN_5
theorem dr_1 {a' : Nat} (ha2 : a' < 2 ^ 31) : xdL (lN a') 65536 = some (lN (a' / 65536)) := by
  unfold xdL
  rw [if_neg (show ¬ (65536 : Int64) = 0 by decide)]
  exact congrArg some (pk_lDiv (a := a') (b := 65536) (by omega) (by omega) (by omega))
theorem dr_2 {a' : Nat} (ha2 : a' < 2 ^ 31) : xmL (lN (a' / 65536)) 100 = some (lN (a' / 65536 % 100)) := by
  unfold xmL
  rw [if_neg (show ¬ (100 : Int64) = 0 by decide)]
  exact congrArg some (pk_lRem (a := a' / 65536) (b := 100) (by omega) (by omega) (by omega))
theorem dr_3 {a' : Nat} (ha2 : a' < 2 ^ 31) : xmI (nI a' >>> ((16 : Int32) &&& 31)) 100 = some (nI (a' / 65536 % 100)) := by
  have e1 : nI a' >>> ((16 : Int32) &&& 31) = nI (a' / 2 ^ 16) := pk_shrN ha2 _ 16 (by decide)
  rw [e1, show (2 : Nat) ^ 16 = 65536 by decide]
  unfold xmI
  rw [if_neg (show ¬ (100 : Int32) = 0 by decide)]
  exact congrArg some (pk_rem (a := a' / 65536) (d := 100) (by omega) (by omega) (by omega))
theorem e_called {P q s nw nb nr tp e tl : Nat} {mt : Nat → Nat → Prop} {fl : Prop} {c0 m0 c m : xD} (hr : RS P q s nw nb nr tp e tl mt fl c0 m0 c m) {cl bn : Int32} (hcb : CB cl bn (m0.1 99 50)) : ∃ (r : Bool) (c' m' : xD), f_X2_isCalled shA 87 q cl c = some (if r then 1 else 0, c') ∧ f_X10_isCalled shA 99 (nI s) bn m = some (if r then 1 else 0, m') ∧ RS P q s nw nb nr tp e tl mt fl c0 m0 c' m' ∧ c'.1 = c.1 ∧ (∀ j, j ≠ 1 → vM s m'.1 j = vM s m.1 j) := by
  have hr0 := hr
  obtain ⟨h, hs⟩ := hr
  have hRc := wf_rc h; have hRm := wf_rm h; have hq := wf_sq h; have hp := pr_pl (wf_pr h); have hs23 := wf_s23 h; have hqr := isSc_ge hq; have hpr := isPl_le hp; have hw6 := pr_w6 (wf_pr h); have hb8 := pr_b8 (wf_pr h); have hr12 := pr_r12 (wf_pr h); have ht2 := pr_t2 (wf_pr h); have ht60 := pr_t60 (wf_pr h)
  obtain ⟨ca, hca, y1, x1⟩ := p0_ca (wf_pr h)
  have x1 : c.1 P 2 = nI ca := by rw [wf_oc h P (Or.inl (by omega))]; exact x1
  have y1 : m.1 101 5 = nI ca := by rw [wf_om h 101 (Or.inl (by omega)) (by omega)]; exact y1
  have y50 : m.1 99 50 = m0.1 99 50 := wf_o9 h 50 (by omega) (by omega)
  unfold f_X2_isCalled f_X10_isCalled k_X2_isCalled_15 k_X2_isCalled_38 k_X2_isCalled_102 k_X10_isCalled_31 k_X10_isCalled_42 k_X10_isCalled_88
  simp only [gI_of sA_99, Option.bind_some, y50, gR_of sA_99 (rf_99_3 hRm), gR_of sA_87 (rf_87_0 hRc), gI_of (sp_0 hp), x1, aN_5, y1]
  have fifty : (nI ca < (50 : Int32)) ↔ ca < 50 := nI_ltI (b := 50) (by omega) (by omega)
  have zero : (nI ca = (0 : Int32)) ↔ ca = 0 := nI_eq (b := 0) (by omega) (by omega)
  have hund : (nI ca = (100 : Int32)) ↔ ca = 100 := nI_eq (b := 100) (by omega) (by omega)
  rcases hcb with ⟨e1, e2⟩ | ⟨e1, e2, e3⟩ | ⟨e1, e2, e3⟩
  · rw [if_pos e1, if_pos e2]
    exact ⟨false, c, m, rfl, rfl, hr0, rfl, fun _ _ => rfl⟩
  · subst e1; subst e2
    rw [if_neg (by decide), if_neg e3]
    simp only [↓reduceIte]
    by_cases z : ca < 50
    · refine ⟨false, c, m, ?_, ?_, hr0, rfl, fun _ _ => rfl⟩
      · by_cases z0 : nI ca = 0
        · rw [if_pos z0]; rfl
        · rw [if_neg z0, if_pos (fifty.mpr z)]; rfl
      · rw [if_pos (fifty.mpr z)]; rfl
    · refine ⟨true, c, m, ?_, ?_, hr0, rfl, fun _ _ => rfl⟩
      · rw [if_neg (fun z0 => by have := zero.mp z0; omega), if_neg (fun w => z (fifty.mp w))]; rfl
      · rw [if_neg (fun w => z (fifty.mp w))]; rfl
  · subst e1; subst e2
    rw [if_neg (by decide), if_neg e3, if_neg one_ne_zero32]
    by_cases z0 : nI ca = 0
    · rw [if_pos z0, if_pos z0, if_pos (fifty.mpr (by have := zero.mp z0; omega))]
      exact ⟨false, c, m, rfl, rfl, hr0, rfl, fun _ _ => rfl⟩
    · rw [if_neg z0, if_neg z0, if_neg (by decide)]
      by_cases z1 : nI ca = 100
      · rw [if_pos z1, if_pos z1, if_neg (fun w => by have := fifty.mp w; have := hund.mp z1; omega)]
        exact ⟨true, c, m, rfl, rfl, hr0, rfl, fun _ _ => rfl⟩
      · rw [if_neg z1, if_neg z1]
        obtain ⟨a, ha, y2, x2⟩ := sc_nu hs
        have y2 : m.1 120 s = nI a := by rw [← y2]; exact rM_120
        obtain ⟨a', ha2, dr1, dr2⟩ := draw_ex a
        have hr1 : RS P q s nw nb nr tp e tl mt fl c0 m0 (c.1, xu c.2.1 q 3 (lN a'), c.2.2) (xu m.1 120 s (nI a'), m.2.1, m.2.2) := by
          refine ⟨wf_m1 (wf_cL h (fun k k1 k2 k3 => xu_off k1)) (by omega) (by omega), ?_⟩
          show SC nw nb nr e tp tl mt fl m0.1 (xu m.1 120 s (nI a') 99 53) (vC q c.1) (xu c.2.1 q 3 (lN a') q 3) (vM s (xu m.1 120 s (nI a')))
          rw [xu_cell (by omega), xu_at, vM_120]
          exact sc_nu' hs ha2
        have d1 := dr_1 ha2
        have d2 := dr_2 ha2
        have d3 := dr_3 ha2
        refine ⟨decide (a' / 65536 % 100 < ca), _, _, ?_, ?_, hr1, rfl, fun j j1 => by dsimp only; rw [vM_120, xu_off j1]⟩
        · have pl : ∀ v, xpL 4 shA c q 3 v = some (c.1, xu c.2.1 q 3 v, c.2.2) := fun v => by unfold xpL; rw [if_pos (ss_0 hq)]
          have g3 : xgL 4 shA (c.1, xu c.2.1 q 3 (lN a'), c.2.2) q 3 = some (lN a') := by rw [gL_of (ss_0 hq)]; exact congrArg some xu_at
          have g4 : xgR 2 shA (c.1, xu c.2.1 q 3 (lN a'), c.2.2) 87 0 = some P := gR_of sA_87 (rf_87_0 hRc)
          have g5 : xgI 3 shA (c.1, xu c.2.1 q 3 (lN a'), c.2.2) P 2 = some (nI ca) := by rw [gI_of (sp_0 hp)]; exact congrArg some x1
          rw [gL_of (ss_0 hq), Option.bind_some, x2, dr1, pl, Option.bind_some, g3, Option.bind_some, d1, Option.bind_some, d2, Option.bind_some, g4, Option.bind_some, g5, Option.bind_some, nI_l (show ca < 2 ^ 31 by omega)]
          by_cases w : a' / 65536 % 100 < ca
          · rw [if_neg (fun v => by have := (cmpN (by omega) (by omega)).mp v; omega), decide_eq_true w]; rfl
          · rw [if_pos ((cmpN (by omega) (by omega)).mpr (by omega)), decide_eq_false w]; rfl
        · have g3 : xgR 10 shA (xu m.1 120 s (nI a'), m.2.1, m.2.2) 99 36 = some 120 := gR_of sA_99 (rf_99_36 hRm)
          have g4 : xaI .int shA (xu m.1 120 s (nI a'), m.2.1, m.2.2) 120 (nI s) = some (nI a') := by rw [aI_of sA_120 hs23 (by omega)]; dsimp only; rw [xu_at]
          rw [gR_of sA_99 (rf_99_36 hRm), Option.bind_some, Option.bind_some, aI_of sA_120 hs23 (by omega), Option.bind_some, y2, dr2, sI_of sA_120 hs23 (by omega), Option.bind_some, g3, Option.bind_some, g4, Option.bind_some, d3, Option.bind_some]
          by_cases w : a' / 65536 % 100 < ca
          · rw [if_neg (nI_ge w (by omega)), decide_eq_true w]; rfl
          · rw [if_pos (nI_le (by omega) (by omega)), decide_eq_false w]; rfl
theorem min32 (x k : Int32) : (if k < x then k else x) = (if x < k then x else k) := by
  by_cases h1 : x < k
  · rw [if_pos h1, if_neg (fun z => Int32.lt_irrefl (Int32.lt_trans h1 z))]
  · rw [if_neg h1]
    by_cases h2 : k < x
    · rw [if_pos h2]
    · rw [if_neg h2]; exact Int32.le_antisymm (Int32.not_lt.mp h2) (Int32.not_lt.mp h1)
theorem e_standC {P q s nw nb nr tp : Nat} {c0 m0 c m : xD} (h : WF P q s nw nb nr tp c0 m0 c m) {p : Nat} (hpw : p < nw) : f_X4_stand shA q (nI p) c = some (xu (xu c.1 (q + 1) p 1) (q + 5) p 0, c.2.1, c.2.2) := by
  have hRc := wf_rc h; have hRm := wf_rm h; have hq := wf_sq h; have hp := pr_pl (wf_pr h); have hs23 := wf_s23 h; have hqr := isSc_ge hq; have hpr := isPl_le hp; have hw6 := pr_w6 (wf_pr h); have hb8 := pr_b8 (wf_pr h); have hr12 := pr_r12 (wf_pr h); have ht2 := pr_t2 (wf_pr h); have ht60 := pr_t60 (wf_pr h)
  unfold f_X4_stand
  simp (disch := omega) only [xgR, ss_0 hq, rs_5 hRc hq, rs_9 hRc hq, sI_of (ss_1 hq), sI_of (ss_5 hq), ↓reduceIte, Option.bind_some]
theorem e_getsUpM {P q s nw nb nr tp : Nat} {c0 m0 c m : xD} (h : WF P q s nw nb nr tp c0 m0 c m) {p : Nat} (hpw : p < nw) : f_X10_getsUp shA 99 (nI s) (nI p) m = some (xu (xu (xu m.1 124 (6 * s + p) 1) 127 (6 * s + p) (-1)) 128 (6 * s + p) 0, m.2.1, m.2.2) := by
  have hRc := wf_rc h; have hRm := wf_rm h; have hq := wf_sq h; have hp := pr_pl (wf_pr h); have hs23 := wf_s23 h; have hqr := isSc_ge hq; have hpr := isPl_le hp; have hw6 := pr_w6 (wf_pr h); have hb8 := pr_b8 (wf_pr h); have hr12 := pr_r12 (wf_pr h); have ht2 := pr_t2 (wf_pr h); have ht60 := pr_t60 (wf_pr h)
  unfold f_X10_getsUp
  simp (disch := omega) only [xgR, sA_99, rf_99_40 hRm, rf_99_43 hRm, rf_99_44 hRm, m6_, nI_add, sI_of sA_124, sI_of sA_127, sI_of sA_128, ↓reduceIte, Option.bind_some]
theorem wf_stand {P q s nw nb nr tp : Nat} {c0 m0 c m : xD} (h : WF P q s nw nb nr tp c0 m0 c m) {p : Nat} (hpw : p < nw) : WF P q s nw nb nr tp c0 m0 (xu (xu c.1 (q + 1) p 1) (q + 5) p 0, c.2.1, c.2.2) (xu (xu (xu m.1 124 (6 * s + p) 1) 127 (6 * s + p) (-1)) 128 (6 * s + p) 0, m.2.1, m.2.2) := by
  have hRc := wf_rc h; have hRm := wf_rm h; have hq := wf_sq h; have hp := pr_pl (wf_pr h); have hs23 := wf_s23 h; have hqr := isSc_ge hq; have hpr := isPl_le hp; have hw6 := pr_w6 (wf_pr h); have hb8 := pr_b8 (wf_pr h); have hr12 := pr_r12 (wf_pr h); have ht2 := pr_t2 (wf_pr h); have ht60 := pr_t60 (wf_pr h)
  exact wf_m2 (wf_m2 (wf_m2 (wf_c (j := 5) (wf_c (j := 1) h (by omega) (by omega)) (by omega) (by omega)) (by omega) (by omega) (by omega)) (by omega) (by omega) (by omega)) (by omega) (by omega) (by omega)
theorem rs_stand {P q s nw nb nr tp e tl : Nat} {mt : Nat → Nat → Prop} {fl : Prop} {c0 m0 c m : xD} (hr : RS P q s nw nb nr tp e tl mt fl c0 m0 c m) {p : Nat} (hpw : p < nw) : RS P q s nw nb nr tp e tl mt fl c0 m0 (xu (xu c.1 (q + 1) p 1) (q + 5) p 0, c.2.1, c.2.2) (xu (xu (xu m.1 124 (6 * s + p) 1) 127 (6 * s + p) (-1)) 128 (6 * s + p) 0, m.2.1, m.2.2) := by
  obtain ⟨h, hs⟩ := hr
  refine ⟨wf_stand h hpw, ?_⟩
  show SC nw nb nr e tp tl mt fl m0.1 (xu (xu (xu m.1 124 (6 * s + p) 1) 127 (6 * s + p) (-1)) 128 (6 * s + p) 0 99 53) (vC q (xu (xu c.1 (q + 1) p 1) (q + 5) p 0)) (c.2.1 q 3) (vM s (xu (xu (xu m.1 124 (6 * s + p) 1) 127 (6 * s + p) (-1)) 128 (6 * s + p) 0))
  simp (disch := omega) only [xu_cell, vC_xu, vM_124, vM_127, vM_128]
  exact sc_up0 hs
theorem getUp_loop {P q s nw nb nr tp e tl : Nat} {mt : Nat → Nat → Prop} {fl : Prop} {c0 m0 : xD} {cl bn : Int32} (hcb : CB cl bn (m0.1 99 50)) : ∀ n p F1 F2 c m, p + n = nw → n < F1 → n < F2 → RS P q s nw nb nr tp e tl mt fl c0 m0 c m → ∃ c' m', xloop (fun _ _ _ _ _ => none) (b_X2_getUp_2 shA) F1 87 q cl (nI p) c = some c' ∧ xloop (fun _ _ _ _ _ => none) (b_X10_passes_148 shA) F2 99 (nI s) bn (nI p) m = k_X10_passes_244 shA 99 (nI s) m' ∧ RS P q s nw nb nr tp e tl mt fl c0 m0 c' m' := by
  intro n
  induction n with
  | zero =>
    intro p F1 F2 c m h1 h2 h3 hr
    obtain ⟨F1, rfl⟩ : ∃ G, F1 = G + 1 := ⟨F1 - 1, by omega⟩
    obtain ⟨F2, rfl⟩ : ∃ G, F2 = G + 1 := ⟨F2 - 1, by omega⟩
    have hr0 := hr
    obtain ⟨h, hs⟩ := hr
    have hRc := wf_rc h; have hRm := wf_rm h; have hq := wf_sq h; have hp := pr_pl (wf_pr h); have hs23 := wf_s23 h; have hqr := isSc_ge hq; have hpr := isPl_le hp; have hw6 := pr_w6 (wf_pr h); have hb8 := pr_b8 (wf_pr h); have hr12 := pr_r12 (wf_pr h); have ht2 := pr_t2 (wf_pr h); have ht60 := pr_t60 (wf_pr h)
    have cw : c.1 P 9 = nI nw := by rw [wf_oc h P (Or.inl (by omega))]; exact pr_cW (wf_pr h)
    have mw : m.1 101 2 = nI nw := by rw [wf_om h 101 (Or.inl (by omega)) (by omega)]; exact p0_mW (wf_pr h)
    refine ⟨c, m, ?_, ?_, hr0⟩
    · rw [loop_s, b_X2_getUp_2, gR_of sA_87 (rf_87_0 hRc), Option.bind_some, gI_of (sp_0 hp), Option.bind_some, cw, if_pos (nI_le (by omega) (by omega))]; rfl
    · rw [loop_s, b_X10_passes_148, gR_of sA_99 (rf_99_3 hRm), Option.bind_some, aN_2, Option.bind_some, mw, if_pos (nI_le (by omega) (by omega))]
  | succ n ih =>
    intro p F1 F2 c m h1 h2 h3 hr
    obtain ⟨F1, rfl⟩ : ∃ G, F1 = G + 1 := ⟨F1 - 1, by omega⟩
    obtain ⟨F2, rfl⟩ : ∃ G, F2 = G + 1 := ⟨F2 - 1, by omega⟩
    have hr0 := hr
    obtain ⟨h, hs⟩ := hr
    have hRc := wf_rc h; have hRm := wf_rm h; have hq := wf_sq h; have hp := pr_pl (wf_pr h); have hs23 := wf_s23 h; have hqr := isSc_ge hq; have hpr := isPl_le hp; have hw6 := pr_w6 (wf_pr h); have hb8 := pr_b8 (wf_pr h); have hr12 := pr_r12 (wf_pr h); have ht2 := pr_t2 (wf_pr h); have ht60 := pr_t60 (wf_pr h)
    have cw : c.1 P 9 = nI nw := by rw [wf_oc h P (Or.inl (by omega))]; exact pr_cW (wf_pr h)
    have mw : m.1 101 2 = nI nw := by rw [wf_om h 101 (Or.inl (by omega)) (by omega)]; exact p0_mW (wf_pr h)
    have a1 : c.1 (q + 1) p = vM s m.1 5 p := sc_st hs p (by omega)
    have a6 : c.1 (q + 6) p = vM s m.1 10 p := sc_sa hs p (by omega)
    rw [loop_s, loop_s, b_X2_getUp_2, b_X10_passes_148, gR_of sA_87 (rf_87_0 hRc), Option.bind_some, gI_of (sp_0 hp), Option.bind_some, cw, if_neg (nI_ge (by omega) (by omega)), gR_of sA_99 (rf_99_3 hRm), Option.bind_some, aN_2, Option.bind_some, mw, if_neg (nI_ge (by omega) (by omega)), gR_of (ss_0 hq) (rs_5 hRc hq), Option.bind_some, aI_of (ss_1 hq) (by omega) (by omega), Option.bind_some, a1, gR_of sA_99 (rf_99_40 hRm), Option.bind_some, m6_, nI_add, aI_of sA_124 (by omega) (by omega), Option.bind_some, rM_124 (s := s) (k := p) (J := m.1)]
    unfold k_X2_getUp_71 k_X10_passes_232 k_X2_getUp_76 k_X10_passes_238
    by_cases h5 : vM s m.1 5 p = 2
    · rw [if_pos h5, if_pos h5]
      obtain ⟨a, a2, a3, x5, y9⟩ := sc_lf hs p (by omega) h5
      obtain ⟨g, rfl⟩ : ∃ g, a = g + 1 := ⟨a - 1, by omega⟩
      have x5 : c.1 (q + 5) p = nI (g + 1) := x5
      have y9 : m.1 128 (6 * s + p) = nI (g + 1) := y9
      have y10 : m.1 129 (6 * s + p) = vM s m.1 10 p := rfl
      generalize hsv : (if vM s m.1 10 p + 1 < (999 : Int32) then vM s m.1 10 p + 1 else (999 : Int32)) = sv
      have hsv2 : (if (999 : Int32) < vM s m.1 10 p + 1 then (999 : Int32) else vM s m.1 10 p + 1) = sv := by rw [min32]; exact hsv
      simp (disch := omega) only [xgR, ss_0 hq, rs_10 hRc hq, rs_9 hRc hq, aI_of (ss_6 hq), sI_of (ss_6 hq), aI_of (ss_5 hq), sI_of (ss_5 hq), ↓reduceIte, Option.bind_some, a6, hsv2, xu_cell, x5, nI_pred, xu_at, sA_99, rf_99_45 hRm, rf_99_44 hRm, aI_of sA_129, sI_of sA_129, aI_of sA_128, sI_of sA_128, y10, hsv, y9, on_of (ss_0 hq), on_of sA_99, on_of sA_87]
      by_cases g0 : g = 0
      · subst g0
        have w1 : WF P q s nw nb nr tp c0 m0 (xu (xu c.1 (q + 6) p sv) (q + 5) p (nI 0), c.2.1, c.2.2) (xu (xu m.1 129 (6 * s + p) sv) 128 (6 * s + p) (nI 0), m.2.1, m.2.2) :=
          wf_m2 (wf_m2 (wf_c (j := 5) (wf_c (j := 6) h (by omega) (by omega)) (by omega) (by omega)) (by omega) (by omega) (by omega)) (by omega) (by omega) (by omega)
        have e1 := e_standC w1 (show p < nw by omega)
        have e2 := e_getsUpM w1 (show p < nw by omega)
        dsimp only at e1 e2
        rw [if_pos (by decide), if_pos (by decide), e1, e2, Option.bind_some, Option.bind_some, nI_1]
        refine ih (p + 1) F1 F2 _ _ (by omega) (by omega) (by omega) ⟨wf_stand w1 (by omega), ?_⟩
        show SC nw nb nr e tp tl mt fl m0.1 (xu (xu (xu (xu (xu m.1 129 (6 * s + p) sv) 128 (6 * s + p) (nI 0)) 124 (6 * s + p) 1) 127 (6 * s + p) (-1)) 128 (6 * s + p) 0 99 53) (vC q (xu (xu (xu (xu c.1 (q + 6) p sv) (q + 5) p (nI 0)) (q + 1) p 1) (q + 5) p 0)) (c.2.1 q 3) (vM s (xu (xu (xu (xu (xu m.1 129 (6 * s + p) sv) 128 (6 * s + p) (nI 0)) 124 (6 * s + p) 1) 127 (6 * s + p) (-1)) 128 (6 * s + p) 0))
        simp (disch := omega) only [xu_cell, vC_xu, vM_124, vM_127, vM_128, vM_129]
        exact sc_up (sc_sato hs)
      · have r1 : RS P q s nw nb nr tp e tl mt fl c0 m0 (xu (xu c.1 (q + 6) p sv) (q + 5) p (nI g), c.2.1, c.2.2) (xu (xu m.1 129 (6 * s + p) sv) 128 (6 * s + p) (nI g), m.2.1, m.2.2) := by
          refine ⟨wf_m2 (wf_m2 (wf_c (j := 5) (wf_c (j := 6) h (by omega) (by omega)) (by omega) (by omega)) (by omega) (by omega) (by omega)) (by omega) (by omega) (by omega), ?_⟩
          show SC nw nb nr e tp tl mt fl m0.1 (xu (xu m.1 129 (6 * s + p) sv) 128 (6 * s + p) (nI g) 99 53) (vC q (xu (xu c.1 (q + 6) p sv) (q + 5) p (nI g))) (c.2.1 q 3) (vM s (xu (xu m.1 129 (6 * s + p) sv) 128 (6 * s + p) (nI g)))
          simp (disch := omega) only [xu_cell, vC_xu, vM_128, vM_129]
          exact sc_sat hs (by omega) (by omega) h5
        obtain ⟨r, c2, m2, k1, k2, k3, _, _⟩ := e_called r1 hcb
        rw [if_neg (nI_nle (by omega) (by omega)), if_neg (nI_ne0 (by omega) (by omega)), k1, k2, Option.bind_some, Option.bind_some]
        cases r with
        | false =>
          dsimp only
          rw [if_pos (by decide), if_pos (by decide), nI_1]
          exact ih (p + 1) F1 F2 c2 m2 (by omega) (by omega) (by omega) k3
        | true =>
          dsimp only
          rw [if_neg (by decide), if_neg (by decide), e_standC k3.1 (by omega), e_getsUpM k3.1 (by omega), Option.bind_some, Option.bind_some, nI_1]
          exact ih (p + 1) F1 F2 _ _ (by omega) (by omega) (by omega) (rs_stand k3 (by omega))
    · rw [if_neg h5, if_neg h5, nI_1]
      exact ih (p + 1) F1 F2 c m (by omega) (by omega) (by omega) hr0
theorem e_getUp {P q s nw nb nr tp e tl : Nat} {mt : Nat → Nat → Prop} {fl : Prop} {c0 m0 c m : xD} (hr : RS P q s nw nb nr tp e tl mt fl c0 m0 c m) {cl bn : Int32} (hcb : CB cl bn (m0.1 99 50)) : ∃ c' m', f_X2_getUp shA 87 q cl c = some c' ∧ k_X10_passes_146 shA 99 (nI s) bn m = k_X10_passes_244 shA 99 (nI s) m' ∧ RS P q s nw nb nr tp e tl mt fl c0 m0 c' m' := by
  have hw6 := pr_w6 (wf_pr hr.1)
  exact getUp_loop hcb nw 0 xF xF c m (by omega) (xF_big (by omega)) (xF_big (by omega)) hr

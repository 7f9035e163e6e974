/-! LEVEL 2: amounts, sitting down, walking -/
theorem cmp0 {a b : Int64} : lg_cmp a b = 0 ↔ a = b := by
  unfold lg_cmp
  by_cases p : a > b
  · rw [if_pos p]
    constructor
    · intro w; exact absurd w (by decide)
    · intro w; subst w; exact absurd p Int64.lt_irrefl
  · rw [if_neg p]
    by_cases p2 : a = b
    · rw [if_pos p2]; exact ⟨fun _ => p2, fun _ => rfl⟩
    · rw [if_neg p2]; exact ⟨fun w => absurd w (by decide), fun w => absurd w p2⟩
theorem xu_self {α : Type} {f : Nat → Nat → α} {q k : Nat} : xu f q k (f q k) = f := by
  funext a b
  unfold xu
  by_cases h1 : a = q
  · by_cases h2 : b = k
    · rw [if_pos h1, if_pos h2, h1, h2]
    · rw [if_pos h1, if_neg h2]
  · rw [if_neg h1]
theorem min99 (v : Int64) : (if (99 : Int64) < v then (99 : Int64) else v) = (if v < (99 : Int64) then v else 99) := by
  by_cases h1 : v < 99
  · rw [if_pos h1, if_neg (fun z => Int64.lt_irrefl (Int64.lt_trans h1 z))]
  · rw [if_neg h1]
    by_cases h2 : 99 < v
    · rw [if_pos h2]
    · rw [if_neg h2]; exact Int64.le_antisymm (Int64.not_lt.mp h2) (Int64.not_lt.mp h1)
theorem e_am36 {o : Option Int64} (hv : ∀ v, o = some v → v ≠ -9223372036854775808) (c : xD) : k_X2_amount_36 shA (o.getD (-9223372036854775808)) c = some (am o, c) := by
  unfold k_X2_amount_36
  cases o with
  | none => rw [if_pos (by decide)]; rfl
  | some v =>
    rw [Option.getD_some, if_neg (fun z => hv v rfl (cmp0.mp z))]
    simp only [min99, am]
theorem e_amountC {P q s nw nb nr tp : Nat} {c0 m0 c m : xD} (h : WF P q s nw nb nr tp c0 m0 c m) {e tl : Nat} {mt : Nat → Nat → Prop} {fl : Prop} (hs : SC nw nb nr e tp tl mt fl m0.1 (m.1 99 53) (vC q c.1) (c.2.1 q 3) (vM s m.1)) {k p b : Nat} (hk : k < 3) (hpw : p < nw) (hb : b < nb) (hst : vM s m.1 6 p = m0.1 103 b) : ∃ L', (∀ j, j ≠ 88 → j ≠ P + 18 → L' j = c.2.1 j) ∧ f_X2_amount shA 87 q (nI k) (nI p) c = some (am (lvv m0.1 (vM s m.1) nw k p b (vM s m.1 12 b)), (c.1, L', c.2.2)) := by
  have hRc := wf_rc h; have hRm := wf_rm h; have hq := wf_sq h; have hp := pr_pl (wf_pr h); have hs23 := wf_s23 h; have hqr := isSc_ge hq; have hpr := isPl_le hp; have hw6 := pr_w6 (wf_pr h); have hb8 := pr_b8 (wf_pr h); have hr12 := pr_r12 (wf_pr h); have ht2 := pr_t2 (wf_pr h); have ht60 := pr_t60 (wf_pr h)
  obtain ⟨L', hL, e⟩ := e_worth h hs hk hpw hb
  refine ⟨L', hL, ?_⟩
  have x2 : c.1 (q + 2) p = m0.1 103 b := by obtain ⟨a, _, y1, y2⟩ := sc_sp hs p hpw; rw [← hst, y2]; exact y1
  unfold f_X2_amount
  simp (disch := omega) only [xgR, sA_87, rf_87_0 hRc, ss_0 hq, rs_6 hRc hq, aI_of (ss_2 hq), ↓reduceIte, Option.bind_some, x2, on_of (sp_0 hp), e_benchOn h, e_foundAt h hb, if_neg (nI_ne_m1 (show b < 2 ^ 31 by omega)), on_of sA_87, e]
  exact e_am36 (fun v hv => lvv_ne (wf_pr h) hk hv) _
theorem e_withinM {P q s nw nb nr tp : Nat} {c0 m0 c m : xD} (h : WF P q s nw nb nr tp c0 m0 c m) {k p b : Nat} (hk : k < 3) {Y : Nat → Nat → Int32} {w : Int32} (hnm : ∀ a, a < 7 → m.2.1 117 a = nmv m0.1 Y nw p b w a) : ∃ (h' : Int32) (L' : Nat → Nat → Int64), (∀ j, j ≠ 118 → L' j = m.2.1 j) ∧ f_X10_within shA 99 (nI k) 99 1 m = some (am (lvv m0.1 Y nw k p b w), (xu m.1 99 34 h', L', m.2.2)) := by
  have hRc := wf_rc h; have hRm := wf_rm h; have hq := wf_sq h; have hp := pr_pl (wf_pr h); have hs23 := wf_s23 h; have hqr := isSc_ge hq; have hpr := isPl_le hp; have hw6 := pr_w6 (wf_pr h); have hb8 := pr_b8 (wf_pr h); have hr12 := pr_r12 (wf_pr h); have ht2 := pr_t2 (wf_pr h); have ht60 := pr_t60 (wf_pr h)
  unfold f_X10_within k_X10_within_16
  by_cases hl : m0.1 113 k < m0.1 114 k
  · obtain ⟨L', h', hL, hv, e⟩ := e_goes h hk hl hnm
    refine ⟨h', L', hL, ?_⟩
    simp only [on_of sA_99, e_hasLaw h hk, if_pos hl, Option.bind_some, if_neg one_ne_zero32, e]
    cases hO : lvv m0.1 Y nw k p b w with
    | none => simp; rfl
    | some v =>
      have e0 : xaL shA (xu m.1 99 34 h', L', m.2.2) 118 0 = some (L' 118 0) := aL_of (i := 0) sA_118 (by omega) (by omega)
      simp only [Option.isSome_some, ↓reduceIte, if_neg one_ne_zero32, xgR, sA_99, rf_99_33 hRm, Option.bind_some, e0, hv v hO, am]
      rfl
  · refine ⟨m.1 99 34, m.2.1, fun _ _ => rfl, ?_⟩
    have e0 : lvv m0.1 Y nw k p b w = none := by unfold lvv; rw [if_neg hl]
    simp only [on_of sA_99, e_hasLaw h hk, if_neg hl, Option.bind_some, ↓reduceIte, e0, xu_self]
    rfl
theorem e_amountM {P q s nw nb nr tp : Nat} {c0 m0 c m : xD} (h : WF P q s nw nb nr tp c0 m0 c m) {k p b : Nat} (hk : k < 3) (hpw : p < nw) (hb : b < nb) : ∃ (L1 : Nat → Nat → Int64) (h' : Int32) (L2 : Nat → Nat → Int64), f_X10_calls shA 99 (nI s) (nI p) (nI b) m = some (m.1, L1, m.2.2) ∧ f_X10_within shA 99 (nI k) 99 1 (m.1, L1, m.2.2) = some (am (lvv m0.1 (vM s m.1) nw k p b (vM s m.1 12 b)), (xu m.1 99 34 h', L2, m.2.2)) ∧ (∀ j, j ≠ 117 → j ≠ 118 → L2 j = m.2.1 j) := by
  obtain ⟨L1, h1, h2, h3⟩ := e_calls h hpw hb
  obtain ⟨h', L2, h4, h5⟩ := e_withinM (wf_mL h (L := L1) (fun k k1 _ => h1 k k1)) hk (p := p) (b := b) (Y := vM s m.1) (w := vM s m.1 12 b) h2
  exact ⟨L1, h', L2, h3, h5, fun j j1 j2 => (h4 j j2).trans (h1 j j1)⟩
theorem restC_loop {c : xD} {P q N p b : Nat} (hRc : RefOK c P) (hq : isSc q) (hN : c.1 q 14 = nI N) (hN2 : N ≤ 13) : ∀ n r F, r + n = N → n < F → xloop (fun _ _ _ _ _ => none) (b_X4_restNotTaken_2 shA) F q (nI p) (nI b) (nI r) c = some ((match fstR (fun i => decide (c.1 (q + 10) i = nI p ∧ c.1 (q + 11) i = nI b ∧ c.1 (q + 13) i = 0)) r n with | some j => nI j | none => -1), c) := by
  intro n
  induction n with
  | zero =>
    intro r F h1 h2
    obtain ⟨F, rfl⟩ : ∃ G, F = G + 1 := ⟨F - 1, by omega⟩
    rw [loop_s, b_X4_restNotTaken_2]
    rw [gI_of (ss_0 hq), Option.bind_some, hN, if_pos (nI_le (by omega) (by omega))]
    rfl
  | succ n ih =>
    intro r F h1 h2
    obtain ⟨F, rfl⟩ : ∃ G, F = G + 1 := ⟨F - 1, by omega⟩
    have e1 := ih (r + 1) F (by omega) (by omega)
    rw [loop_s, b_X4_restNotTaken_2]
    unfold k_X4_restNotTaken_39 k_X4_restNotTaken_41
    rw [gI_of (ss_0 hq), Option.bind_some, hN, if_neg (nI_ge (by omega) (by omega))]
    simp (disch := omega) only [xgR, ss_0 hq, rs_15 hRc hq, rs_16 hRc hq, rs_18 hRc hq, aI_of (ss_10 hq), aI_of (ss_11 hq), aI_of (ss_13 hq), ↓reduceIte, Option.bind_some, nI_1, e1]
    by_cases hc : c.1 (q + 10) r = nI p ∧ c.1 (q + 11) r = nI b ∧ c.1 (q + 13) r = 0
    · rw [fstR_t (decide_eq_true hc), if_pos hc.1, if_pos hc.2.1, if_pos hc.2.2]
    · rw [fstR_f (decide_eq_false hc)]
      by_cases c1 : c.1 (q + 10) r = nI p
      · rw [if_pos c1]
        by_cases c2 : c.1 (q + 11) r = nI b
        · rw [if_pos c2, if_neg (fun c3 => hc ⟨c1, c2, c3⟩)]
        · rw [if_neg c2]
      · rw [if_neg c1]
theorem restM_loop {P q s nw nb nr tp : Nat} {c0 m0 c m : xD} (h : WF P q s nw nb nr tp c0 m0 c m) (h4 : m0.1 99 50 ≠ 4) {p b : Nat} : ∀ n r F, r + n = nr → n < F → xloop (fun _ _ _ _ _ _ => none) (b_X10_sitsAt_28 shA) F 99 (nI s) (nI p) (nI b) (nI r) m = (match fstR (fun i => decide (bt (m.1 123 s) i = false ∧ m0.1 110 i = nI p ∧ m0.1 111 i = nI b)) r n with | some j => k_X10_sitsAt_88 shA 99 (nI s) (nI p) (nI b) (nI j) m | none => k_X10_sitsAt_124 shA 99 (nI s) (nI p) (nI b) m) := by
  have hRc := wf_rc h; have hRm := wf_rm h; have hq := wf_sq h; have hp := pr_pl (wf_pr h); have hs23 := wf_s23 h; have hqr := isSc_ge hq; have hpr := isPl_le hp; have hw6 := pr_w6 (wf_pr h); have hb8 := pr_b8 (wf_pr h); have hr12 := pr_r12 (wf_pr h); have ht2 := pr_t2 (wf_pr h); have ht60 := pr_t60 (wf_pr h)
  intro n
  induction n with
  | zero =>
    intro r F h1 h2
    obtain ⟨F, rfl⟩ : ∃ G, F = G + 1 := ⟨F - 1, by omega⟩
    rw [loop_s, b_X10_sitsAt_28]
    simp only [xgR, sA_99, rf_99_3 hRm, aN_3, ↓reduceIte, Option.bind_some, wf_om h 101 (Or.inl (by omega)) (by omega), p0_mR (wf_pr h)]
    rw [if_pos (nI_le (by omega) (by omega))]
    rfl
  | succ n ih =>
    intro r F h1 h2
    obtain ⟨F, rfl⟩ : ∃ G, F = G + 1 := ⟨F - 1, by omega⟩
    have e1 := ih (r + 1) F (by omega) (by omega)
    rw [loop_s, b_X10_sitsAt_28]
    unfold k_X10_sitsAt_118
    simp (disch := omega) only [xgI, xgR, sA_99, rf_99_3 hRm, rf_99_39 hRm, rf_99_12 hRm, rf_99_13 hRm, aN_3, aI_of sA_123, aI_of sA_110, aI_of sA_111, ↓reduceIte, Option.bind_some, wf_om h 101 (Or.inl (by omega)) (by omega), wf_om h 110 (Or.inl (by omega)) (by omega), wf_om h 111 (Or.inl (by omega)) (by omega), wf_o9 h 50 (by omega) (by omega), p0_mR (wf_pr h), if_neg h4, bi1 _ (show r < 32 by omega), nI_1, e1]
    rw [if_neg (nI_ge (by omega) (by omega))]
    by_cases hc : bt (m.1 123 s) r = false ∧ m0.1 110 r = nI p ∧ m0.1 111 r = nI b
    · rw [fstR_t (decide_eq_true hc), hc.1, if_neg (by decide), if_pos hc.2.1, if_pos hc.2.2]
    · rw [fstR_f (decide_eq_false hc)]
      cases c1 : bt (m.1 123 s) r with
      | true => rw [if_pos (by decide)]
      | false =>
        rw [if_neg (by decide)]
        by_cases c2 : m0.1 110 r = nI p
        · rw [if_pos c2, if_neg (fun c3 => hc ⟨c1, c2, c3⟩)]
        · rw [if_neg c2]
theorem restM_4 {P q s nw nb nr tp : Nat} {c0 m0 c m : xD} (h : WF P q s nw nb nr tp c0 m0 c m) (h4 : m0.1 99 50 = 4) {p b F : Nat} : xloop (fun _ _ _ _ _ _ => none) (b_X10_sitsAt_28 shA) (F + 1) 99 (nI s) (nI p) (nI b) (nI 0) m = k_X10_sitsAt_124 shA 99 (nI s) (nI p) (nI b) m := by
  have hRc := wf_rc h; have hRm := wf_rm h; have hq := wf_sq h; have hp := pr_pl (wf_pr h); have hs23 := wf_s23 h; have hqr := isSc_ge hq; have hpr := isPl_le hp; have hw6 := pr_w6 (wf_pr h); have hb8 := pr_b8 (wf_pr h); have hr12 := pr_r12 (wf_pr h); have ht2 := pr_t2 (wf_pr h); have ht60 := pr_t60 (wf_pr h)
  rw [loop_s, b_X10_sitsAt_28]
  simp (disch := omega) only [xgI, xgR, sA_99, rf_99_3 hRm, aN_3, ↓reduceIte, Option.bind_some, wf_om h 101 (Or.inl (by omega)) (by omega), wf_o9 h 50 (by omega) (by omega), p0_mR (wf_pr h), h4]
  by_cases c1 : nI nr ≤ nI 0
  · rw [if_pos c1]
  · rw [if_neg c1]
/-- the reference sits one down -/
theorem e_sitsDownM {P q s nw nb nr tp : Nat} {c0 m0 c m : xD} (h : WF P q s nw nb nr tp c0 m0 c m) {p b : Nat} {v : Int32} (hpw : p < nw) : f_X10_sitsDown shA 99 (nI s) (nI p) (nI b) v m = some (xu (xu (xu m.1 124 (6 * s + p) 2) 127 (6 * s + p) (nI b)) 128 (6 * s + p) v, m.2.1, m.2.2) := by
  have hRc := wf_rc h; have hRm := wf_rm h; have hq := wf_sq h; have hp := pr_pl (wf_pr h); have hs23 := wf_s23 h; have hqr := isSc_ge hq; have hpr := isPl_le hp; have hw6 := pr_w6 (wf_pr h); have hb8 := pr_b8 (wf_pr h); have hr12 := pr_r12 (wf_pr h); have ht2 := pr_t2 (wf_pr h); have ht60 := pr_t60 (wf_pr h)
  unfold f_X10_sitsDown
  simp (disch := omega) only [xgR, sA_99, rf_99_40 hRm, rf_99_43 hRm, rf_99_44 hRm, m6_, nI_add, sI_of sA_124, sI_of sA_127, sI_of sA_128, ↓reduceIte, Option.bind_some]
theorem e_seatC {P q s nw nb nr tp : Nat} {c0 m0 c m : xD} (h : WF P q s nw nb nr tp c0 m0 c m) {p : Nat} {v : Int32} (hpw : p < nw) : f_X4_seat shA q (nI p) v c = some (xu (xu c.1 (q + 1) p 2) (q + 5) p v, c.2.1, c.2.2) := by
  have hRc := wf_rc h; have hRm := wf_rm h; have hq := wf_sq h; have hp := pr_pl (wf_pr h); have hs23 := wf_s23 h; have hqr := isSc_ge hq; have hpr := isPl_le hp; have hw6 := pr_w6 (wf_pr h); have hb8 := pr_b8 (wf_pr h); have hr12 := pr_r12 (wf_pr h); have ht2 := pr_t2 (wf_pr h); have ht60 := pr_t60 (wf_pr h)
  unfold f_X4_seat
  simp (disch := omega) only [xgR, ss_0 hq, rs_5 hRc hq, rs_9 hRc hq, sI_of (ss_1 hq), sI_of (ss_5 hq), ↓reduceIte, Option.bind_some]
theorem wf_seat {P q s nw nb nr tp : Nat} {c0 m0 c m : xD} (h : WF P q s nw nb nr tp c0 m0 c m) {p b : Nat} {v : Int32} (hpw : p < nw) : WF P q s nw nb nr tp c0 m0 (xu (xu c.1 (q + 1) p 2) (q + 5) p v, c.2.1, c.2.2) (xu (xu (xu m.1 124 (6 * s + p) 2) 127 (6 * s + p) (nI b)) 128 (6 * s + p) v, m.2.1, m.2.2) := by
  have hRc := wf_rc h; have hRm := wf_rm h; have hq := wf_sq h; have hp := pr_pl (wf_pr h); have hs23 := wf_s23 h; have hqr := isSc_ge hq; have hpr := isPl_le hp; have hw6 := pr_w6 (wf_pr h); have hb8 := pr_b8 (wf_pr h); have hr12 := pr_r12 (wf_pr h); have ht2 := pr_t2 (wf_pr h); have ht60 := pr_t60 (wf_pr h)
  exact wf_m2 (wf_m2 (wf_m2 (wf_c (j := 5) (wf_c (j := 1) h (by omega) (by omega)) (by omega) (by omega)) (by omega) (by omega) (by omega)) (by omega) (by omega) (by omega)) (by omega) (by omega) (by omega)
theorem sc_seat {P q s nw nb nr tp : Nat} {c0 m0 c m : xD} (h : WF P q s nw nb nr tp c0 m0 c m) {e tl : Nat} {mt : Nat → Nat → Prop} {fl : Prop} (hs : SC nw nb nr e tp tl mt fl m0.1 (m.1 99 53) (vC q c.1) (c.2.1 q 3) (vM s m.1)) {p b a : Nat} (hpw : p < nw) (hb : b < nb) (hst : vM s m.1 6 p = m0.1 103 b) (h1 : 1 ≤ a) (h2 : a ≤ 30) : SC nw nb nr e tp tl mt fl m0.1 (xu (xu (xu m.1 124 (6 * s + p) 2) 127 (6 * s + p) (nI b)) 128 (6 * s + p) (nI a) 99 53) (vC q (xu (xu c.1 (q + 1) p 2) (q + 5) p (nI a))) (c.2.1 q 3) (vM s (xu (xu (xu m.1 124 (6 * s + p) 2) 127 (6 * s + p) (nI b)) 128 (6 * s + p) (nI a))) := by
  simp (disch := omega) only [xu_cell, vC_xu, vM_124, vM_127, vM_128]
  exact sc_sit hs hb hst.symm h1 h2
theorem e_k160 {P q s nw nb nr tp : Nat} {c0 m0 c m : xD} (h : WF P q s nw nb nr tp c0 m0 c m) {p b : Nat} (hpw : p < nw) (hb : b < nb) : ∃ (h' : Int32) (L' : Nat → Nat → Int64), (∀ j, j ≠ 117 → j ≠ 118 → L' j = m.2.1 j) ∧ k_X10_sitsAt_160 shA 99 (nI s) (nI p) (nI b) m = (if (∃ v, lvv m0.1 (vM s m.1) nw 0 p b (vM s m.1 12 b) = some v ∧ v ≠ 0) then some (1, (xu (xu (xu (xu m.1 99 34 h') 124 (6 * s + p) 2) 127 (6 * s + p) (nI b)) 128 (6 * s + p) 1, L', m.2.2)) else some (0, (xu m.1 99 34 h', L', m.2.2))) := by
  have hRc := wf_rc h; have hRm := wf_rm h; have hq := wf_sq h; have hp := pr_pl (wf_pr h); have hs23 := wf_s23 h; have hqr := isSc_ge hq; have hpr := isPl_le hp; have hw6 := pr_w6 (wf_pr h); have hb8 := pr_b8 (wf_pr h); have hr12 := pr_r12 (wf_pr h); have ht2 := pr_t2 (wf_pr h); have ht60 := pr_t60 (wf_pr h)
  obtain ⟨L1, h1, h2, h3⟩ := e_calls h hpw hb
  have hw := wf_mL h (L := L1) (fun k k1 _ => h1 k k1)
  have e1 := e_hasLaw hw (k := 0) (by omega)
  rw [nI_0] at e1
  unfold k_X10_sitsAt_160 k_X10_sitsAt_195
  by_cases hl : m0.1 113 0 < m0.1 114 0
  · obtain ⟨L', h', hL, hv, e2⟩ := e_goes hw (k := 0) (by omega) hl (p := p) (b := b) (Y := vM s m.1) (w := vM s m.1 12 b) h2
    rw [nI_0] at e2
    refine ⟨h', L', fun j j1 j2 => (hL j j2).trans (h1 j j1), ?_⟩
    simp only [on_of sA_99, h3, Option.bind_some, e1, if_pos hl, if_neg one_ne_zero32, e2]
    cases hO : lvv m0.1 (vM s m.1) nw 0 p b (vM s m.1 12 b) with
    | none => simp
    | some v =>
      have e0 : xaL shA (xu m.1 99 34 h', L', m.2.2) 118 0 = some (L' 118 0) := aL_of (i := 0) sA_118 (by omega) (by omega)
      have hw2 := wf_mL (wf_m9 h (k := 34) (v := h') (Or.inl rfl)) (L := L') (fun j j1 j2 => (hL j j2).trans (h1 j j1))
      have e4 := e_sitsDownM hw2 (p := p) (b := b) (v := 1) hpw
      dsimp only at e4
      simp only [Option.isSome_some, ↓reduceIte, if_neg one_ne_zero32, xgR, sA_99, rf_99_33 hRm, Option.bind_some, e0, hv v hO, cmp0, e4, Option.some.injEq]
      by_cases hz : v = 0
      · rw [if_pos hz, if_neg (by rintro ⟨w, w1, w2⟩; exact w2 ((Option.some.inj w1).symm.trans hz))]
      · rw [if_neg hz, if_pos ⟨v, rfl, hz⟩]
  · refine ⟨m.1 99 34, L1, fun j j1 _ => h1 j j1, ?_⟩
    have e0 : lvv m0.1 (vM s m.1) nw 0 p b (vM s m.1 12 b) = none := by unfold lvv; rw [if_neg hl]
    simp only [on_of sA_99, h3, Option.bind_some, e1, if_neg hl, ↓reduceIte, e0, xu_self]
    rw [if_neg (by rintro ⟨w, w1, _⟩; exact absurd w1 (by simp))]
theorem e_sits {P q s nw nb nr tp : Nat} {c0 m0 c m : xD} (h : WF P q s nw nb nr tp c0 m0 c m) {e tl : Nat} {mt : Nat → Nat → Prop} {fl : Prop} (hs : SC nw nb nr e tp tl mt fl m0.1 (m.1 99 53) (vC q c.1) (c.2.1 q 3) (vM s m.1)) {p b : Nat} (hpw : p < nw) (hb : b < nb) (hst : vM s m.1 6 p = m0.1 103 b) : ∃ (r : Bool) (c' m' : xD), f_X2_sitsDown shA 87 q (nI p) (nI b) c = some (if r then 1 else 0, c') ∧ f_X10_sitsAt shA 99 (nI s) (nI p) (m0.1 103 b) m = some (if r then 1 else 0, m') ∧ WF P q s nw nb nr tp c0 m0 c' m' ∧ SC nw nb nr e tp tl mt fl m0.1 (m'.1 99 53) (vC q c'.1) (c'.2.1 q 3) (vM s m'.1) ∧ (r = false → vM s m'.1 = vM s m.1) := by
  have hRc := wf_rc h; have hRm := wf_rm h; have hq := wf_sq h; have hp := pr_pl (wf_pr h); have hs23 := wf_s23 h; have hqr := isSc_ge hq; have hpr := isPl_le hp; have hw6 := pr_w6 (wf_pr h); have hb8 := pr_b8 (wf_pr h); have hr12 := pr_r12 (wf_pr h); have ht2 := pr_t2 (wf_pr h); have ht60 := pr_t60 (wf_pr h)
  obtain ⟨fr, v, f1, f2, f3⟩ := e_free h hs hb
  have x3 : c.1 (P + 2) b = m0.1 103 b := by rw [wf_oc h (P + 2) (Or.inl (by omega))]; exact p0_bs (wf_pr h) b hb
  have eC : f_X2_sitsDown shA 87 q (nI p) (nI b) c = if fr then ((f_X4_restNotTaken shA q (nI p) (nI b) c).bind fun z5 => if z5.1 = (-1 : Int32) then ((f_X2_worth shA 87 q (0 : Int32) (nI p) (nI b) z5.2).bind fun z6 => if (lg_cmp z6.1 (0 : Int64)) = 0 then (some (0, z6.2)) else (if (lg_cmp z6.1 (-9223372036854775808 : Int64)) = 0 then (some (0, z6.2)) else ((f_X4_seat shA q (nI p) (1 : Int32) z6.2).bind fun d7 => some ((1 : Int32), d7)))) else ((xgR 4 shA z5.2 q 18).bind fun v8 => (xsI .int shA z5.2 v8 z5.1 (1 : Int32)).bind fun d9 => (xgR 4 shA d9 q 17).bind fun v10 => (xaI .int shA d9 v10 z5.1).bind fun v11 => (f_X4_seat shA q (nI p) v11 d9).bind fun d12 => some ((1 : Int32), d12))) else some (0, c) := by
    unfold f_X2_sitsDown k_X2_sitsDown_81
    simp (disch := omega) only [xgR, sA_87, rf_87_0 hRc, sp_0 hp, rp_6 hRc hp, aI_of (sp_2 hp), ↓reduceIte, Option.bind_some, x3, on_of (ss_0 hq), on_of sA_87, f1]
    cases fr
    · rfl
    · rfl
  have eM : f_X10_sitsAt shA 99 (nI s) (nI p) (m0.1 103 b) m = if fr then xloop (fun _ _ _ _ _ _ => none) (b_X10_sitsAt_28 shA) xF 99 (nI s) (nI p) (nI b) (0 : Int32) m else some (0, m) := by
    unfold f_X10_sitsAt k_X10_sitsAt_23
    simp only [on_of sA_99, e_benchAt h, e_foundAt h hb, Option.bind_some, if_neg (nI_ne_m1 (show b < 2 ^ 31 by omega)), f2]
    by_cases z : 0 < v
    · rw [if_pos z, f3.mp z]; rfl
    · rw [if_neg z]
      cases hf : fr with
      | false => rfl
      | true => exact absurd (f3.mpr hf) z
  rw [eC, eM]
  cases fr with
  | false => exact ⟨false, c, m, rfl, rfl, h, hs, fun _ => rfl⟩
  | true =>
    have hN : c.1 q 14 = nI (nr + e) := sc_rc hs
    have he1 := sc_e1 hs
    have hC := restC_loop (p := p) (b := b) hRc hq hN (by omega) (nr + e) 0 xF (by omega) (xF_big (by omega))
    have hC' : f_X4_restNotTaken shA q (nI p) (nI b) c = _ := hC
    have hsplit : (fstR (fun i => decide (c.1 (q + 10) i = nI p ∧ c.1 (q + 11) i = nI b ∧ c.1 (q + 13) i = 0)) 0 nr = none ∧ xloop (fun _ _ _ _ _ _ => none) (b_X10_sitsAt_28 shA) xF 99 (nI s) (nI p) (nI b) (0 : Int32) m = k_X10_sitsAt_124 shA 99 (nI s) (nI p) (nI b) m) ∨ (∃ r, r < nr ∧ m0.1 99 50 ≠ 4 ∧ fstR (fun i => decide (c.1 (q + 10) i = nI p ∧ c.1 (q + 11) i = nI b ∧ c.1 (q + 13) i = 0)) 0 nr = some r ∧ xloop (fun _ _ _ _ _ _ => none) (b_X10_sitsAt_28 shA) xF 99 (nI s) (nI p) (nI b) (0 : Int32) m = k_X10_sitsAt_88 shA 99 (nI s) (nI p) (nI b) (nI r) m) := by
      by_cases h4 : m0.1 99 50 = 4
      · refine Or.inl ⟨fstR_none nr 0 (fun j _ j2 => ?_), restM_4 h h4⟩
        have z : c.1 (q + 13) j = _ := sc_rt hs j (by omega)
        rw [if_pos h4] at z
        apply decide_eq_false
        rintro ⟨_, _, z3⟩
        rw [z] at z3
        exact absurd z3 (by decide)
      · have hM := restM_loop h h4 (p := p) (b := b) nr 0 xF (by omega) (xF_big (by omega))
        have hcg : fstR (fun i => decide (c.1 (q + 10) i = nI p ∧ c.1 (q + 11) i = nI b ∧ c.1 (q + 13) i = 0)) 0 nr = fstR (fun i => decide (bt (m.1 123 s) i = false ∧ m0.1 110 i = nI p ∧ m0.1 111 i = nI b)) 0 nr := by
          apply fstR_congr
          intro j _ j2
          have z : c.1 (q + 13) j = _ := sc_rt hs j (by omega)
          obtain ⟨z1, z2, _⟩ := sc_rr hs j (by omega)
          have z1 : c.1 (q + 10) j = m0.1 110 j := z1
          have z2 : c.1 (q + 11) j = m0.1 111 j := z2
          rw [if_neg h4] at z
          have z0 : vM s m.1 4 0 = m.1 123 s := rM_123.symm
          rw [z0] at z
          apply decide_eq_decide.mpr
          rw [z, z1, z2]
          cases bt (m.1 123 s) j
          · simp
          · simp
        rw [hcg]
        cases hf : fstR (fun i => decide (bt (m.1 123 s) i = false ∧ m0.1 110 i = nI p ∧ m0.1 111 i = nI b)) 0 nr with
        | none => rw [hf] at hM; exact Or.inl ⟨rfl, hM⟩
        | some r => rw [hf] at hM; exact Or.inr ⟨r, by have z := fstR_spec nr 0 r hf; omega, h4, rfl, hM⟩
    rcases hsplit with ⟨s1, s2⟩ | ⟨r, hr, h4, s1, s2⟩
    · -- no rest of the text
      by_cases hx : e = 1 ∧ (c.1 (q + 10) nr = nI p ∧ c.1 (q + 11) nr = nI b ∧ c.1 (q + 13) nr = 0)
      · obtain ⟨x1, y1, y2, y3⟩ := hx
        have hR : f_X4_restNotTaken shA q (nI p) (nI b) c = some (nI nr, c) := by
          rw [hC', x1, fstR_add, s1]
          simp only [Nat.zero_add]
          rw [decide_eq_true ⟨y1, y2, y3⟩]; rfl
        rcases sc_x1 hs x1 with ⟨g1, g2, g3, g4, a, a1, a2, a3⟩ | ⟨g1, _⟩
        · have g2 : m.1 99 53 = c.1 (q + 10) nr := g2
          have g3 : m0.1 99 54 = c.1 (q + 11) nr := g3
          have g4 : m0.1 99 55 = c.1 (q + 12) nr := g4
          have a3 : c.1 (q + 12) nr = nI a := a3
          have hwc := wf_c (j := 13) (k := nr) (v := 1) h (by omega) (by omega)
          have hw1 := wf_m9 hwc (k := 53) (v := -1) (Or.inr rfl)
          have hs1 : SC nw nb nr e tp tl mt fl m0.1 (xu m.1 99 53 (-1) 99 53) (vC q (xu c.1 (q + 13) nr 1)) (c.2.1 q 3) (vM s (xu m.1 99 53 (-1))) := by
            rw [vM_off (by omega), vC_xu, xu_at]; exact sc_takeX hs x1
          have e5 := e_seatC hw1 (p := p) (v := nI a) hpw
          have e6 := e_sitsDownM hw1 (p := p) (b := b) (v := nI a) hpw
          dsimp only at e5 e6
          refine ⟨true, _, _, ?_, ?_, wf_seat hw1 hpw, sc_seat hw1 hs1 hpw hb ?_ a1 a2, fun z => absurd z (by decide)⟩
          · simp (disch := omega) only [↓reduceIte, hR, Option.bind_some, if_neg (nI_ne_m1 (show nr < 2 ^ 31 by omega)), xgR, ss_0 hq, rs_18 hRc hq, rs_17 hRc hq, sI_of (ss_13 hq), aI_of (ss_12 hq), xu_cell, a3, e5]
          · rw [if_pos rfl, s2]
            unfold k_X10_sitsAt_124
            simp only [xgI, sA_99, ↓reduceIte, Option.bind_some, g2, y1, wf_o9 h 54 (by omega) (by omega), g3, y2, pM_53, on_of sA_99]
            simp (disch := omega) only [xu_at2, wf_o9 h 55 (by omega) (by omega), g4, a3, e6, Option.bind_some]
          · show vM s (xu m.1 99 53 (-1)) 6 p = _
            rw [vM_off (by omega)]; exact hst
        · have g1 : c.1 (q + 13) nr = 1 := g1
          rw [g1] at y3; exact absurd y3 (by decide)
      · have hR : f_X4_restNotTaken shA q (nI p) (nI b) c = some (-1, c) := by
          rw [hC']
          rcases (show e = 0 ∨ e = 1 by omega) with x0 | x1
          · rw [show nr + e = nr by omega, s1]
          · rw [x1, fstR_add, s1]
            simp only [Nat.zero_add]
            rw [decide_eq_false (fun z => hx ⟨x1, z⟩)]; rfl
        have hK : k_X10_sitsAt_124 shA 99 (nI s) (nI p) (nI b) m = k_X10_sitsAt_160 shA 99 (nI s) (nI p) (nI b) m := by
          unfold k_X10_sitsAt_124
          simp only [xgI, sA_99, ↓reduceIte, Option.bind_some, wf_o9 h 54 (by omega) (by omega)]
          by_cases z1 : m.1 99 53 = nI p
          · rw [if_pos z1]
            by_cases z2 : m0.1 99 54 = nI b
            · exfalso
              rcases (show e = 0 ∨ e = 1 by omega) with x0 | x1
              · rw [sc_x0 hs x0] at z1; exact nI_ne_m1 (show p < 2 ^ 31 by omega) z1.symm
              · rcases sc_x1 hs x1 with ⟨g1, g2, g3, _⟩ | ⟨_, g1⟩
                · have g2 : m.1 99 53 = c.1 (q + 10) nr := g2
                  have g3 : m0.1 99 54 = c.1 (q + 11) nr := g3
                  exact hx ⟨x1, g2 ▸ z1, g3 ▸ z2, g1⟩
                · rw [g1] at z1; exact nI_ne_m1 (show p < 2 ^ 31 by omega) z1.symm
            · rw [if_neg z2]
          · rw [if_neg z1]
        obtain ⟨h', L', hL', eK⟩ := e_k160 h hpw hb
        obtain ⟨L2, hL2, eW⟩ := e_worth h hs (k := 0) (by omega) hpw hb
        rw [nI_0] at eW
        have hw1 := wf_mL (wf_m9 (wf_cL h (L := L2) (fun k k1 k2 k3 => hL2 k k2 k3)) (k := 34) (v := h') (Or.inl rfl)) (L := L') hL'
        have hs1 : SC nw nb nr e tp tl mt fl m0.1 (xu m.1 99 34 h' 99 53) (vC q c.1) (L2 q 3) (vM s (xu m.1 99 34 h')) := by
          rw [vM_off (by omega), xu_at2 (by omega), hL2 q (by omega) (by omega)]; exact hs
        have e5 := e_seatC hw1 (p := p) (v := 1) hpw
        dsimp only at e5
        rw [s2, hK, eK]
        simp only [↓reduceIte, hR, Option.bind_some, eW, cmp0]
        by_cases hz : ∃ v, lvv m0.1 (vM s m.1) nw 0 p b (vM s m.1 12 b) = some v ∧ v ≠ 0
        · rw [if_pos hz]
          obtain ⟨v, v1, v2⟩ := hz
          rw [v1]
          simp only [Option.getD_some, if_neg v2, if_neg (lvv_ne (wf_pr h) (by omega) v1), e5, Option.bind_some]
          have e7 := sc_seat hw1 hs1 (a := 1) hpw hb (by show vM s (xu m.1 99 34 h') 6 p = _; rw [vM_off (by omega)]; exact hst) (by omega) (by omega)
          exact ⟨true, _, _, rfl, rfl, wf_seat hw1 hpw, e7, fun z => absurd z (by decide)⟩
        · rw [if_neg hz]
          refine ⟨false, (c.1, L2, c.2.2), (xu m.1 99 34 h', L', m.2.2), ?_, rfl, hw1, hs1, fun _ => vM_off (by omega)⟩
          cases hO : lvv m0.1 (vM s m.1) nw 0 p b (vM s m.1 12 b) with
          | none => rfl
          | some v =>
            by_cases v0 : v = 0
            · simp only [Option.getD_some, if_pos v0]; rfl
            · exact absurd ⟨v, hO, v0⟩ hz
    · -- a rest of the text
      have hR : f_X4_restNotTaken shA q (nI p) (nI b) c = some (nI r, c) := by
        rw [hC']
        rcases (show e = 0 ∨ e = 1 by omega) with x0 | x1
        · rw [show nr + e = nr by omega, s1]
        · rw [x1, fstR_add, s1]
      obtain ⟨a, a1, a2, a3⟩ := p0_rm (wf_pr h) r hr
      have a4 : c.1 (q + 12) r = nI a := by rw [← a3]; exact (sc_rr hs r hr).2.2
      have hwc := wf_c (j := 13) (k := r) (v := 1) h (by omega) (by omega)
      have hw1 := wf_m1 hwc (k := 123) (v := m.1 123 s ||| ((1 : Int32) <<< (nI r &&& 31))) (by omega) (by omega)
      have hs1 : SC nw nb nr e tp tl mt fl m0.1 (xu m.1 123 s (m.1 123 s ||| ((1 : Int32) <<< (nI r &&& 31))) 99 53) (vC q (xu c.1 (q + 13) r 1)) (c.2.1 q 3) (vM s (xu m.1 123 s (m.1 123 s ||| ((1 : Int32) <<< (nI r &&& 31))))) := by
        rw [vM_123, vC_xu, xu_cell (by omega), rM_123 (s := s) (J := m.1)]; exact sc_take hs hr hr12 h4
      have e5 := e_seatC hw1 (p := p) (v := nI a) hpw
      have e6 := e_sitsDownM hw1 (p := p) (b := b) (v := nI a) hpw
      dsimp only at e5 e6
      refine ⟨true, _, _, ?_, ?_, wf_seat hw1 hpw, sc_seat hw1 hs1 hpw hb ?_ a1 a2, fun z => absurd z (by decide)⟩
      · simp (disch := omega) only [↓reduceIte, hR, Option.bind_some, if_neg (nI_ne_m1 (show r < 2 ^ 31 by omega)), xgR, ss_0 hq, rs_18 hRc hq, rs_17 hRc hq, sI_of (ss_13 hq), aI_of (ss_12 hq), xu_cell, a4, e5]
      · rw [if_pos rfl, s2]
        unfold k_X10_sitsAt_88
        simp (disch := omega) only [xgR, sA_99, ↓reduceIte, Option.bind_some, rf_99_39 hRm, rf_99_14 hRm, aI_of sA_123, sI_of sA_123, aI_of sA_112, on_of sA_99, xu_cell, wf_om h 112 (Or.inl (by omega)) (by omega), a3, e6]
      · show vM s (xu m.1 123 s (m.1 123 s ||| ((1 : Int32) <<< (nI r &&& 31)))) 6 p = _
        rw [vM_123]; exact hst

/-! LEVEL 2: a whole minute, many minutes -/
theorem begin_loop {P q s nw nb nr tp e tl : Nat} {mt : Nat → Nat → Prop} {fl : Prop} {c0 m0 : xD} {cl bn : Int32} : ∀ n p F1 F2 c m, p + n = nw → n < F1 → n < F2 → RS P q s nw nb nr tp e tl mt fl c0 m0 c m → ∃ c' m', xloop (fun _ _ _ _ _ => none) (b_X2_oneMinute_2 shA) F1 87 q cl (nI p) c = k_X2_oneMinute_51 shA 87 q cl c' ∧ xloop (fun _ _ _ _ _ => none) (b_X10_passes_2 shA) F2 99 (nI s) bn (nI p) m = k_X10_passes_59 shA 99 (nI s) bn m' ∧ RS P q s nw nb nr tp e tl mt fl c0 m0 c' m' := by
  intro n
  induction n with
  | zero =>
    intro p F1 F2 c m h1 h2 h3 hr
    obtain ⟨F1, rfl⟩ : ∃ G, F1 = G + 1 := ⟨F1 - 1, by omega⟩
    obtain ⟨F2, rfl⟩ : ∃ G, F2 = G + 1 := ⟨F2 - 1, by omega⟩
    have hr0 := hr
    obtain ⟨h, hs⟩ := hr
    have hRc := wf_rc h; have hRm := wf_rm h; have hq := wf_sq h; have hp := pr_pl (wf_pr h); have hs23 := wf_s23 h; have hqr := isSc_ge hq; have hpr := isPl_le hp; have hw6 := pr_w6 (wf_pr h); have hb8 := pr_b8 (wf_pr h); have hr12 := pr_r12 (wf_pr h); have ht2 := pr_t2 (wf_pr h); have ht60 := pr_t60 (wf_pr h)
    have cw : c.1 P 9 = nI nw := by rw [wf_oc h P (Or.inl (by omega))]; exact pr_cW (wf_pr h)
    have mw : m.1 101 2 = nI nw := by rw [wf_om h 101 (Or.inl (by omega)) (by omega)]; exact p0_mW (wf_pr h)
    refine ⟨c, m, ?_, ?_, hr0⟩
    · rw [loop_s, b_X2_oneMinute_2, gR_of sA_87 (rf_87_0 hRc), Option.bind_some, gI_of (sp_0 hp), Option.bind_some, cw, if_pos (nI_le (by omega) (by omega))]
    · rw [loop_s, b_X10_passes_2, gR_of sA_99 (rf_99_3 hRm), Option.bind_some, aN_2, Option.bind_some, mw, if_pos (nI_le (by omega) (by omega))]
  | succ n ih =>
    intro p F1 F2 c m h1 h2 h3 hr
    obtain ⟨F1, rfl⟩ : ∃ G, F1 = G + 1 := ⟨F1 - 1, by omega⟩
    obtain ⟨F2, rfl⟩ : ∃ G, F2 = G + 1 := ⟨F2 - 1, by omega⟩
    have hr0 := hr
    obtain ⟨h, hs⟩ := hr
    have hRc := wf_rc h; have hRm := wf_rm h; have hq := wf_sq h; have hp := pr_pl (wf_pr h); have hs23 := wf_s23 h; have hqr := isSc_ge hq; have hpr := isPl_le hp; have hw6 := pr_w6 (wf_pr h); have hb8 := pr_b8 (wf_pr h); have hr12 := pr_r12 (wf_pr h); have ht2 := pr_t2 (wf_pr h); have ht60 := pr_t60 (wf_pr h)
    have cw : c.1 P 9 = nI nw := by rw [wf_oc h P (Or.inl (by omega))]; exact pr_cW (wf_pr h)
    have mw : m.1 101 2 = nI nw := by rw [wf_om h 101 (Or.inl (by omega)) (by omega)]; exact p0_mW (wf_pr h)
    have a1 : c.1 (q + 1) p = vM s m.1 5 p := sc_st hs p (by omega)
    have a0 : c.1 q 0 = vM s m.1 0 0 := sc_mi hs
    have a9 : c.1 (P + 9) p = m0.1 109 p := by rw [wf_oc h (P + 9) (Or.inl (by omega))]; exact p0_wm (wf_pr h) p (by omega)
    rw [loop_s, loop_s, b_X2_oneMinute_2, b_X10_passes_2, gR_of sA_87 (rf_87_0 hRc), Option.bind_some, gI_of (sp_0 hp), Option.bind_some, cw, if_neg (nI_ge (by omega) (by omega)), gR_of sA_99 (rf_99_3 hRm), Option.bind_some, Option.bind_some, aN_2, Option.bind_some, mw, if_neg (nI_ge (by omega) (by omega)), gR_of (ss_0 hq) (rs_5 hRc hq), Option.bind_some, aI_of (ss_1 hq) (by omega) (by omega), Option.bind_some, a1, gR_of sA_99 (rf_99_40 hRm), Option.bind_some, Option.bind_some, m6_, nI_add, aI_of sA_124 (by omega) (by omega), Option.bind_some, rM_124 (s := s) (k := p) (J := m.1)]
    unfold k_X2_oneMinute_45 k_X10_passes_53
    by_cases h5 : vM s m.1 5 p = 0
    · simp (disch := omega) only [if_pos h5, xgR, xgI, sA_87, rf_87_0 hRc, sp_0 hp, rp_14 hRc hp, aI_of (sp_9 hp), ↓reduceIte, Option.bind_some, ss_0 hq, a9, a0, rs_5 hRc hq, sI_of (ss_1 hq), sA_99, rf_99_11 hRm, aI_of sA_109, wf_om h 109 (Or.inl (by omega)) (by omega), rf_99_35 hRm, aI_of sA_119, rM_119, rf_99_40 hRm, sI_of sA_124, nI_1]
      by_cases h6 : m0.1 109 p = vM s m.1 0 0
      · rw [if_pos h6, if_pos h6]
        refine ih (p + 1) F1 F2 _ _ (by omega) (by omega) (by omega) ⟨wf_m2 (wf_c (j := 1) h (by omega) (by omega)) (by omega) (by omega) (by omega), ?_⟩
        show SC nw nb nr e tp tl mt fl m0.1 (xu m.1 124 (6 * s + p) 1 99 53) (vC q (xu c.1 (q + 1) p 1)) (c.2.1 q 3) (vM s (xu m.1 124 (6 * s + p) 1))
        rw [xu_cell (by omega), vC_xu, vM_124]
        exact sc_stat hs (by decide) (by rw [h5]; decide)
      · rw [if_neg h6, if_neg h6]
        exact ih (p + 1) F1 F2 _ _ (by omega) (by omega) (by omega) hr0
    · rw [if_neg h5, if_neg h5, nI_1]
      exact ih (p + 1) F1 F2 _ _ (by omega) (by omega) (by omega) hr0
theorem walks_loop {P q s nw nb nr tp e tl : Nat} {mt : Nat → Nat → Prop} {fl : Prop} {c0 m0 : xD} {cl bn : Int32} (hpa : PA nw m0.1) : ∀ n p F1 F2 c m, p + n = nw → n < F1 → n < F2 → RS P q s nw nb nr tp e tl mt fl c0 m0 c m → ∃ c' m', xloop (fun _ _ _ _ _ => none) (b_X2_oneMinute_53 shA) F1 87 q cl (nI p) c = k_X2_oneMinute_86 shA 87 q cl c' ∧ xloop (fun _ _ _ _ _ => none) (b_X10_passes_61 shA) F2 99 (nI s) bn (nI p) m = k_X10_passes_98 shA 99 (nI s) bn m' ∧ RS P q s nw nb nr tp e tl mt fl c0 m0 c' m' := by
  intro n
  induction n with
  | zero =>
    intro p F1 F2 c m h1 h2 h3 hr
    obtain ⟨F1, rfl⟩ : ∃ G, F1 = G + 1 := ⟨F1 - 1, by omega⟩
    obtain ⟨F2, rfl⟩ : ∃ G, F2 = G + 1 := ⟨F2 - 1, by omega⟩
    have hr0 := hr
    obtain ⟨h, hs⟩ := hr
    have hRc := wf_rc h; have hRm := wf_rm h; have hq := wf_sq h; have hp := pr_pl (wf_pr h); have hs23 := wf_s23 h; have hqr := isSc_ge hq; have hpr := isPl_le hp; have hw6 := pr_w6 (wf_pr h); have hb8 := pr_b8 (wf_pr h); have hr12 := pr_r12 (wf_pr h); have ht2 := pr_t2 (wf_pr h); have ht60 := pr_t60 (wf_pr h)
    have cw : c.1 P 9 = nI nw := by rw [wf_oc h P (Or.inl (by omega))]; exact pr_cW (wf_pr h)
    have mw : m.1 101 2 = nI nw := by rw [wf_om h 101 (Or.inl (by omega)) (by omega)]; exact p0_mW (wf_pr h)
    refine ⟨c, m, ?_, ?_, hr0⟩
    · rw [loop_s, b_X2_oneMinute_53, gR_of sA_87 (rf_87_0 hRc), Option.bind_some, gI_of (sp_0 hp), Option.bind_some, cw, if_pos (nI_le (by omega) (by omega))]
    · rw [loop_s, b_X10_passes_61, gR_of sA_99 (rf_99_3 hRm), Option.bind_some, aN_2, Option.bind_some, mw, if_pos (nI_le (by omega) (by omega))]
  | succ n ih =>
    intro p F1 F2 c m h1 h2 h3 hr
    obtain ⟨F1, rfl⟩ : ∃ G, F1 = G + 1 := ⟨F1 - 1, by omega⟩
    obtain ⟨F2, rfl⟩ : ∃ G, F2 = G + 1 := ⟨F2 - 1, by omega⟩
    have hr0 := hr
    obtain ⟨h, hs⟩ := hr
    have hRc := wf_rc h; have hRm := wf_rm h; have hq := wf_sq h; have hp := pr_pl (wf_pr h); have hs23 := wf_s23 h; have hqr := isSc_ge hq; have hpr := isPl_le hp; have hw6 := pr_w6 (wf_pr h); have hb8 := pr_b8 (wf_pr h); have hr12 := pr_r12 (wf_pr h); have ht2 := pr_t2 (wf_pr h); have ht60 := pr_t60 (wf_pr h)
    have cw : c.1 P 9 = nI nw := by rw [wf_oc h P (Or.inl (by omega))]; exact pr_cW (wf_pr h)
    have mw : m.1 101 2 = nI nw := by rw [wf_om h 101 (Or.inl (by omega)) (by omega)]; exact p0_mW (wf_pr h)
    have a1 : c.1 (q + 1) p = vM s m.1 5 p := sc_st hs p (by omega)
    rw [loop_s, loop_s, b_X2_oneMinute_53, b_X10_passes_61, gR_of sA_87 (rf_87_0 hRc), Option.bind_some, gI_of (sp_0 hp), Option.bind_some, cw, if_neg (nI_ge (by omega) (by omega)), gR_of sA_99 (rf_99_3 hRm), Option.bind_some, aN_2, Option.bind_some, mw, if_neg (nI_ge (by omega) (by omega)), gR_of (ss_0 hq) (rs_5 hRc hq), Option.bind_some, aI_of (ss_1 hq) (by omega) (by omega), Option.bind_some, a1, gR_of sA_99 (rf_99_40 hRm), Option.bind_some, m6_, nI_add, aI_of sA_124 (by omega) (by omega), Option.bind_some, rM_124 (s := s) (k := p) (J := m.1)]
    unfold k_X2_oneMinute_80 k_X10_passes_92
    by_cases h5 : vM s m.1 5 p = 1
    · obtain ⟨c', m', k1, k2, k3⟩ := e_walk hr0 hpa (show p < nw by omega) h5
      rw [if_pos h5, if_pos h5, on_of sA_87, on_of sA_99, k1, k2, Option.bind_some, Option.bind_some, nI_1]
      exact ih (p + 1) F1 F2 _ _ (by omega) (by omega) (by omega) k3
    · rw [if_neg h5, if_neg h5, nI_1]
      exact ih (p + 1) F1 F2 _ _ (by omega) (by omega) (by omega) hr0
def cntI (f : Nat → Int32) (v : Int32) : Nat → Nat → Nat → Nat
  | _, 0, a => a
  | i, n + 1, a => cntI f v (i + 1) n (if f i = v then a + 1 else a)
theorem cntI_s {f : Nat → Int32} {v : Int32} {i n a : Nat} : cntI f v i (n + 1) a = cntI f v (i + 1) n (if f i = v then a + 1 else a) := rfl
theorem cntI_ge {f : Nat → Int32} {v : Int32} : ∀ n i a, a ≤ cntI f v i n a := by
  intro n
  induction n with
  | zero => intro i a; exact Nat.le_refl a
  | succ n ih =>
    intro i a
    rw [cntI_s]
    by_cases h : f i = v
    · rw [if_pos h]; have := ih (i + 1) (a + 1); omega
    · rw [if_neg h]; exact ih (i + 1) a
theorem cntI_le {f : Nat → Int32} {v : Int32} : ∀ n i a, cntI f v i n a ≤ a + n := by
  intro n
  induction n with
  | zero => intro i a; exact Nat.le_refl a
  | succ n ih =>
    intro i a
    rw [cntI_s]
    by_cases h : f i = v
    · rw [if_pos h]; have := ih (i + 1) (a + 1); omega
    · rw [if_neg h]; have := ih (i + 1) a; omega
theorem cntI_0 {f : Nat → Int32} {v : Int32} : ∀ n i, cntI f v i n 0 = 0 → ∀ j, i ≤ j → j < i + n → f j ≠ v := by
  intro n
  induction n with
  | zero => intro i _ j h1 h2; omega
  | succ n ih =>
    intro i h j h1 h2
    rw [cntI_s] at h
    by_cases hc : f i = v
    · rw [if_pos hc] at h
      have := cntI_ge (f := f) (v := v) n (i + 1) (0 + 1)
      omega
    · rw [if_neg hc] at h
      by_cases e : j = i
      · subst e; exact hc
      · exact ih (i + 1) h j (by omega) (by omega)
theorem cntI_congr {f g : Nat → Int32} {v : Int32} : ∀ n i a, (∀ j, i ≤ j → j < i + n → f j = g j) → cntI f v i n a = cntI g v i n a := by
  intro n
  induction n with
  | zero => intro i a _; rfl
  | succ n ih =>
    intro i a h
    rw [cntI_s, cntI_s, h i (by omega) (by omega), ih (i + 1) _ (fun j h1 h2 => h j (by omega) (by omega))]
theorem howMany_loop {d : xD} {P q nw : Nat} (hR : RefOK d P) (hq : isSc q) (hn : d.1 q 4 = nI nw) (hw : nw ≤ 6) (v : Int32) : ∀ n i F a, i + n = nw → n < F → xloop (fun _ _ _ _ _ => none) (b_X4_howMany_4 shA) F q v (nI a) (nI i) d = some (nI (cntI (d.1 (q + 1)) v i n a), d) := by
  intro n
  induction n with
  | zero =>
    intro i F a h1 h2
    obtain ⟨F, rfl⟩ : ∃ G, F = G + 1 := ⟨F - 1, by omega⟩
    rw [loop_s, b_X4_howMany_4, gI_of (ss_0 hq), Option.bind_some, hn, if_pos (nI_le (by omega) (by omega))]
    rfl
  | succ n ih =>
    intro i F a h1 h2
    obtain ⟨F, rfl⟩ : ∃ G, F = G + 1 := ⟨F - 1, by omega⟩
    rw [loop_s, b_X4_howMany_4, gI_of (ss_0 hq), Option.bind_some, hn, if_neg (nI_ge (by omega) (by omega)), gR_of (ss_0 hq) (rs_5 hR hq), Option.bind_some, aI_of (ss_1 hq) (by omega) (by omega), Option.bind_some, cntI_s]
    unfold k_X4_howMany_25
    by_cases hc : d.1 (q + 1) i = v
    · rw [if_pos hc, if_pos hc, nI_1, nI_1]; exact ih (i + 1) F (a + 1) (by omega) (by omega)
    · rw [if_neg hc, if_neg hc, nI_1]; exact ih (i + 1) F a (by omega) (by omega)
theorem e_howMany {d : xD} {P q nw : Nat} (hR : RefOK d P) (hq : isSc q) (hn : d.1 q 4 = nI nw) (hw : nw ≤ 6) (v : Int32) : f_X4_howMany shA q v d = some (nI (cntI (d.1 (q + 1)) v 0 nw 0), d) :=
  howMany_loop hR hq hn hw v nw 0 xF 0 (by omega) (xF_big (by omega))
/-! nobody sits: nothing happens -/
theorem ns_in {c : xD} {P q nw : Nat} (hRc : RefOK c P) (hp : isPl P) (hq : isSc q) (hw6 : nw ≤ 6) (cw : c.1 P 9 = nI nw) (hns : ∀ i, i < nw → c.1 (q + 1) i ≠ 2) {p : Nat} (hpw : p < nw) {RC : Nat → Nat → Int32 → xD → Option xD} : ∀ n j F, j + n = nw → n < F → xloop (fun _ _ _ _ _ => none) (b_X2_talkByTwo_17 shA RC) F 87 q (nI p) (nI j) c = RC 87 q (nI (p + 1)) c := by
  intro n
  induction n with
  | zero =>
    intro j F h1 h2
    obtain ⟨F, rfl⟩ : ∃ G, F = G + 1 := ⟨F - 1, by omega⟩
    rw [loop_s, b_X2_talkByTwo_17, gR_of sA_87 (rf_87_0 hRc), Option.bind_some, gI_of (sp_0 hp), Option.bind_some, cw, if_pos (nI_le (by omega) (by omega))]
    unfold k_X2_talkByTwo_92
    rw [nI_1]
  | succ n ih =>
    intro j F h1 h2
    obtain ⟨F, rfl⟩ : ∃ G, F = G + 1 := ⟨F - 1, by omega⟩
    have e1 : f_X2_sitTogether shA q (nI p) (nI j) c = some (0, c) := by
      unfold f_X2_sitTogether k_X2_sitTogether_39 k_X2_sitTogether_40
      rw [gR_of (ss_0 hq) (rs_5 hRc hq), Option.bind_some, aI_of (ss_1 hq) (by omega) (by omega), Option.bind_some, if_neg (hns p hpw)]
      rfl
    rw [loop_s, b_X2_talkByTwo_17, gR_of sA_87 (rf_87_0 hRc), Option.bind_some, gI_of (sp_0 hp), Option.bind_some, cw, if_neg (nI_ge (by omega) (by omega)), e1, Option.bind_some]
    unfold k_X2_talkByTwo_86
    dsimp only
    rw [if_pos rfl, nI_1]
    exact ih (j + 1) F (by omega) (by omega)
theorem ns_out {c : xD} {P q nw : Nat} (hRc : RefOK c P) (hp : isPl P) (hq : isSc q) (hw6 : nw ≤ 6) (cw : c.1 P 9 = nI nw) (hns : ∀ i, i < nw → c.1 (q + 1) i ≠ 2) : ∀ n p F, p + n = nw → n < F → xloop (fun _ _ _ _ => none) (b_X2_talkByTwo_2 shA) F 87 q (nI p) c = some c := by
  intro n
  induction n with
  | zero =>
    intro p F h1 h2
    obtain ⟨F, rfl⟩ : ∃ G, F = G + 1 := ⟨F - 1, by omega⟩
    rw [loop_s, b_X2_talkByTwo_2, gR_of sA_87 (rf_87_0 hRc), Option.bind_some, gI_of (sp_0 hp), Option.bind_some, cw, if_pos (nI_le (by omega) (by omega))]
    rfl
  | succ n ih =>
    intro p F h1 h2
    obtain ⟨F, rfl⟩ : ∃ G, F = G + 1 := ⟨F - 1, by omega⟩
    rw [loop_s, b_X2_talkByTwo_2, gR_of sA_87 (rf_87_0 hRc), Option.bind_some, gI_of (sp_0 hp), Option.bind_some, cw, if_neg (nI_ge (by omega) (by omega)), nI_1, ns_in hRc hp hq hw6 cw hns (by omega) (nw - (p + 1)) (p + 1) xF (by omega) (xF_big (by omega))]
    exact ih (p + 1) F (by omega) (by omega)
theorem ns_wear {P q s nw nb nr tp : Nat} {c0 m0 c m : xD} (h : WF P q s nw nb nr tp c0 m0 c m) (hns : ∀ i, i < nw → c.1 (q + 1) i ≠ 2) : ∀ n p F, p + n = nw → n < F → xloop (fun _ _ _ _ => none) (b_X2_wearBenches_2 shA) F 87 q (nI p) c = some c := by
  have hRc := wf_rc h; have hRm := wf_rm h; have hq := wf_sq h; have hp := pr_pl (wf_pr h); have hs23 := wf_s23 h; have hqr := isSc_ge hq; have hpr := isPl_le hp; have hw6 := pr_w6 (wf_pr h); have hb8 := pr_b8 (wf_pr h); have hr12 := pr_r12 (wf_pr h); have ht2 := pr_t2 (wf_pr h); have ht60 := pr_t60 (wf_pr h)
  have cw : c.1 P 9 = nI nw := by rw [wf_oc h P (Or.inl (by omega))]; exact pr_cW (wf_pr h)
  intro n
  induction n with
  | zero =>
    intro p F h1 h2
    obtain ⟨F, rfl⟩ : ∃ G, F = G + 1 := ⟨F - 1, by omega⟩
    rw [loop_s, b_X2_wearBenches_2, gR_of sA_87 (rf_87_0 hRc), Option.bind_some, gI_of (sp_0 hp), Option.bind_some, cw, if_pos (nI_le (by omega) (by omega))]
    rfl
  | succ n ih =>
    intro p F h1 h2
    obtain ⟨F, rfl⟩ : ∃ G, F = G + 1 := ⟨F - 1, by omega⟩
    have eB := e_benchOn h (c.1 (q + 2) p)
    rw [loop_s, b_X2_wearBenches_2, gR_of sA_87 (rf_87_0 hRc), Option.bind_some, gI_of (sp_0 hp), Option.bind_some, cw, if_neg (nI_ge (by omega) (by omega)), Option.bind_some, gR_of (ss_0 hq) (rs_6 hRc hq), Option.bind_some, aI_of (ss_2 hq) (by omega) (by omega), Option.bind_some, on_of (sp_0 hp), eB, Option.bind_some]
    dsimp only
    rw [gR_of (ss_0 hq) (rs_5 hRc hq), Option.bind_some, aI_of (ss_1 hq) (by omega) (by omega), Option.bind_some, if_neg (hns p (by omega))]
    unfold k_X2_wearBenches_72
    rw [nI_1]
    exact ih (p + 1) F (by omega) (by omega)
theorem ns_getUp {c : xD} {P q nw : Nat} {cl : Int32} (hRc : RefOK c P) (hp : isPl P) (hq : isSc q) (hw6 : nw ≤ 6) (cw : c.1 P 9 = nI nw) (hns : ∀ i, i < nw → c.1 (q + 1) i ≠ 2) : ∀ n p F, p + n = nw → n < F → xloop (fun _ _ _ _ _ => none) (b_X2_getUp_2 shA) F 87 q cl (nI p) c = some c := by
  intro n
  induction n with
  | zero =>
    intro p F h1 h2
    obtain ⟨F, rfl⟩ : ∃ G, F = G + 1 := ⟨F - 1, by omega⟩
    rw [loop_s, b_X2_getUp_2, gR_of sA_87 (rf_87_0 hRc), Option.bind_some, gI_of (sp_0 hp), Option.bind_some, cw, if_pos (nI_le (by omega) (by omega))]
    rfl
  | succ n ih =>
    intro p F h1 h2
    obtain ⟨F, rfl⟩ : ∃ G, F = G + 1 := ⟨F - 1, by omega⟩
    rw [loop_s, b_X2_getUp_2, gR_of sA_87 (rf_87_0 hRc), Option.bind_some, gI_of (sp_0 hp), Option.bind_some, cw, if_neg (nI_ge (by omega) (by omega)), gR_of (ss_0 hq) (rs_5 hRc hq), Option.bind_some, aI_of (ss_1 hq) (by omega) (by omega), Option.bind_some, if_neg (hns p (by omega))]
    unfold k_X2_getUp_76
    rw [nI_1]
    exact ih (p + 1) F (by omega) (by omega)
theorem e_minute {P q s nw nb nr tp e tl : Nat} {mt : Nat → Nat → Prop} {fl : Prop} {c0 m0 c m : xD} (hr : RS P q s nw nb nr tp e tl mt fl c0 m0 c m) (hpa : PA nw m0.1) {cl bn : Int32} (hcb : CB cl bn (m0.1 99 50)) : ∃ c' m', f_X2_oneMinute shA 87 q cl c = some c' ∧ f_X10_passes shA 99 (nI s) bn m = some m' ∧ RS P q s nw nb nr tp e tl mt fl c0 m0 c' m' := by
  have hw6 := pr_w6 (wf_pr hr.1)
  obtain ⟨c1, m1, a1, a2, a3⟩ := begin_loop (cl := cl) (bn := bn) nw 0 xF xF c m (by omega) (xF_big (by omega)) (xF_big (by omega)) hr
  obtain ⟨c2, m2, b1, b2, b3⟩ := walks_loop (cl := cl) (bn := bn) hpa nw 0 xF xF c1 m1 (by omega) (xF_big (by omega)) (xF_big (by omega)) a3
  obtain ⟨c3, m3, d1, d2, d3⟩ := e_talk b3 bn
  obtain ⟨c4, m4, e1, e2, e3⟩ := e_wear d3 bn
  obtain ⟨c5, m5, f1, f2, f3⟩ := e_getUp e3 hcb
  have eC : f_X2_oneMinute shA 87 q cl c = k_X2_oneMinute_86 shA 87 q cl c2 := a1.trans b1
  have eM : f_X10_passes shA 99 (nI s) bn m = k_X10_passes_244 shA 99 (nI s) m5 := a2.trans (b2.trans (d2.trans (e2.trans f2)))
  have c86 : k_X2_oneMinute_86 shA 87 q cl c2 = k_X2_oneMinute_110 shA q c5 := by
    obtain ⟨h, hs⟩ := b3
    have hRc := wf_rc h; have hRm := wf_rm h; have hq := wf_sq h; have hp := pr_pl (wf_pr h); have hs23 := wf_s23 h; have hqr := isSc_ge hq; have hpr := isPl_le hp; have hw6 := pr_w6 (wf_pr h); have hb8 := pr_b8 (wf_pr h); have hr12 := pr_r12 (wf_pr h); have ht2 := pr_t2 (wf_pr h); have ht60 := pr_t60 (wf_pr h)
    have cw : c2.1 P 9 = nI nw := by rw [wf_oc h P (Or.inl (by omega))]; exact pr_cW (wf_pr h)
    unfold k_X2_oneMinute_86
    rw [on_of (ss_0 hq), e_howMany hRc hq (sc_cw hs) hw6, Option.bind_some]
    dsimp only
    have hle := cntI_le (f := c2.1 (q + 1)) (v := 2) nw 0 0
    by_cases hz : cntI (c2.1 (q + 1)) 2 0 nw 0 = 0
    · have hns : ∀ i, i < nw → c2.1 (q + 1) i ≠ 2 := fun i hi => cntI_0 nw 0 hz i (by omega) (by omega)
      have g1 : f_X2_talkByTwo shA 87 q c2 = some c2 := ns_out hRc hp hq hw6 cw hns nw 0 xF (by omega) (xF_big (by omega))
      rw [d1] at g1
      have g1' := Option.some.inj g1
      subst g1'
      have g2 : f_X2_wearBenches shA 87 q c3 = some c3 := ns_wear h hns nw 0 xF (by omega) (xF_big (by omega))
      rw [e1] at g2
      have g2' := Option.some.inj g2
      subst g2'
      have g3 : f_X2_getUp shA 87 q cl c4 = some c4 := ns_getUp hRc hp hq hw6 cw hns nw 0 xF (by omega) (xF_big (by omega))
      rw [f1] at g3
      have g3' := Option.some.inj g3
      rw [hz, if_pos (by decide), g3']
    · rw [if_neg (nI_nle (by omega) (by omega)), on_of sA_87, d1, Option.bind_some, on_of sA_87, e1, Option.bind_some, on_of sA_87, f1, Option.bind_some]
  obtain ⟨h, hs⟩ := f3
  have hRc := wf_rc h; have hRm := wf_rm h; have hq := wf_sq h; have hp := pr_pl (wf_pr h); have hs23 := wf_s23 h; have hqr := isSc_ge hq; have hpr := isPl_le hp; have hw6 := pr_w6 (wf_pr h); have hb8 := pr_b8 (wf_pr h); have hr12 := pr_r12 (wf_pr h); have ht2 := pr_t2 (wf_pr h); have ht60 := pr_t60 (wf_pr h)
  refine ⟨(xu c5.1 q 0 (c5.1 q 0 + 1), c5.2.1, c5.2.2), (xu m5.1 119 s (m5.1 119 s + 1), m5.2.1, m5.2.2), ?_, ?_, wf_m1 (wf_c0 h (Or.inl rfl)) (by omega) (by omega), ?_⟩
  · rw [eC, c86]
    unfold k_X2_oneMinute_110
    rw [gI_of (ss_0 hq), Option.bind_some, pS_0 hq]; rfl
  · rw [eM]
    unfold k_X10_passes_244
    rw [gR_of sA_99 (rf_99_35 hRm), Option.bind_some, aI_of sA_119 hs23 (by omega), Option.bind_some, sI_of sA_119 hs23 (by omega)]; rfl
  · show SC nw nb nr e tp tl mt fl m0.1 (xu m5.1 119 s (m5.1 119 s + 1) 99 53) (vC q (xu c5.1 q 0 (c5.1 q 0 + 1))) (c5.2.1 q 3) (vM s (xu m5.1 119 s (m5.1 119 s + 1)))
    rw [xu_cell (by omega), vC_xu0, vM_119, rM_119 (s := s) (J := m5.1)]
    exact sc_min hs
/-- n minutes -/
def itC (q : Nat) (cl : Int32) : Nat → xD → Option xD
  | 0, c => some c
  | n + 1, c => (f_X2_oneMinute shA 87 q cl c).bind fun c' => itC q cl n c'
def itM (s : Nat) (bn : Int32) : Nat → xD → Option xD
  | 0, m => some m
  | n + 1, m => (f_X10_passes shA 99 (nI s) bn m).bind fun m' => itM s bn n m'
theorem e_its {P q s nw nb nr tp e tl : Nat} {mt : Nat → Nat → Prop} {fl : Prop} {c0 m0 : xD} (hpa : PA nw m0.1) {cl bn : Int32} (hcb : CB cl bn (m0.1 99 50)) : ∀ n c m, RS P q s nw nb nr tp e tl mt fl c0 m0 c m → ∃ c' m', itC q cl n c = some c' ∧ itM s bn n m = some m' ∧ RS P q s nw nb nr tp e tl mt fl c0 m0 c' m' := by
  intro n
  induction n with
  | zero => intro c m hr; exact ⟨c, m, rfl, rfl, hr⟩
  | succ n ih =>
    intro c m hr
    obtain ⟨c1, m1, k1, k2, k3⟩ := e_minute hr hpa hcb
    obtain ⟨c2, m2, j1, j2, j3⟩ := ih c1 m1 k3
    refine ⟨c2, m2, ?_, ?_, j3⟩
    · rw [itC, k1, Option.bind_some]; exact j1
    · rw [itM, k2, Option.bind_some]; exact j2
theorem talkMore_loop {q : Nat} (hq : isSc q) {cl b0 : Int32} : ∀ n i F c N c', i + n = N → N < 2 ^ 31 → n < F → itC q cl n c = some c' → xloop (fun _ _ _ _ _ _ _ => none) (b_X2_talkMore_9 shA) F 87 q (nI N) cl b0 (nI i) c = some (c'.1 q 1 - b0, c') := by
  intro n
  induction n with
  | zero =>
    intro i F c N c' h1 h2 h3 h4
    obtain ⟨F, rfl⟩ : ∃ G, F = G + 1 := ⟨F - 1, by omega⟩
    have h4 : some c = some c' := h4
    rw [← Option.some.inj h4, loop_s, b_X2_talkMore_9, if_pos (nI_le (by omega) (by omega))]
    unfold k_X2_talkMore_27
    rw [gI_of (ss_0 hq), Option.bind_some]
  | succ n ih =>
    intro i F c N c' h1 h2 h3 h4
    obtain ⟨F, rfl⟩ : ∃ G, F = G + 1 := ⟨F - 1, by omega⟩
    rw [itC] at h4
    obtain ⟨c1, k1, k2⟩ := x_ob h4
    rw [loop_s, b_X2_talkMore_9, if_neg (nI_ge (by omega) (by omega)), on_of sA_87, k1, Option.bind_some, nI_1]
    exact ih (i + 1) F c1 N c' (by omega) h2 (by omega) k2
theorem e_talkMore {q n : Nat} (hq : isSc q) (hn : n < 1000) {cl : Int32} {c c' : xD} (h : itC q cl n c = some c') : f_X2_talkMore shA 87 q (nI n) cl c = some (c'.1 q 1 - c.1 q 1, c') := by
  unfold f_X2_talkMore
  rw [gI_of (ss_0 hq), Option.bind_some]
  exact talkMore_loop hq n 0 xF c n c' (by omega) (by omega) (xF_big hn) h
theorem goesOn_loop : ∀ n i F m N m', i + n = N → N < 2 ^ 31 → n < F → itM 1 0 n m = some m' → xloop (fun _ _ _ _ => none) (b_X10_goesOn_2 shA) F 99 (nI N) (nI i) m = some m' := by
  intro n
  induction n with
  | zero =>
    intro i F m N m' h1 h2 h3 h4
    obtain ⟨F, rfl⟩ : ∃ G, F = G + 1 := ⟨F - 1, by omega⟩
    have h4 : some m = some m' := h4
    rw [← Option.some.inj h4, loop_s, b_X10_goesOn_2, if_pos (nI_le (by omega) (by omega))]
    rfl
  | succ n ih =>
    intro i F m N m' h1 h2 h3 h4
    obtain ⟨F, rfl⟩ : ∃ G, F = G + 1 := ⟨F - 1, by omega⟩
    rw [itM] at h4
    obtain ⟨c1, k1, k2⟩ := x_ob h4
    have k1 : f_X10_passes shA 99 1 0 m = some c1 := k1
    rw [loop_s, b_X10_goesOn_2, if_neg (nI_ge (by omega) (by omega)), on_of sA_99, k1, Option.bind_some, nI_1]
    exact ih (i + 1) F c1 N m' (by omega) h2 (by omega) k2
theorem e_goesOn {n : Nat} (hn : n < 1000) {m m' : xD} (h : itM 1 0 n m = some m') : f_X10_goesOn shA 99 (nI n) m = some m' :=
  goesOn_loop n 0 xF m n m' (by omega) (by omega) (xF_big hn) h

/-! LEVEL 2: wear -/
def wfd (G Y : Nat → Nat → Int32) (nw b : Nat) : Nat → Nat → Nat → Nat
  | _, 0, w => w
  | p, n + 1, w => wfd G Y nw b (p + 1) n (if Y 5 p = 2 ∧ Y 8 p = nI b then min 9999 (w + amN (lvv G Y nw 2 p b (nI w))) else w)
theorem wfd_t {G Y : Nat → Nat → Int32} {nw b p n w : Nat} (h : cdp Y b p) : wfd G Y nw b p (n + 1) w = wfd G Y nw b (p + 1) n (min 9999 (w + amN (lvv G Y nw 2 p b (nI w)))) := by rw [wfd, if_pos (show Y 5 p = 2 ∧ Y 8 p = nI b from h)]
theorem wfd_f {G Y : Nat → Nat → Int32} {nw b p n w : Nat} (h : ¬ cdp Y b p) : wfd G Y nw b p (n + 1) w = wfd G Y nw b (p + 1) n w := by rw [wfd, if_neg (show ¬ (Y 5 p = 2 ∧ Y 8 p = nI b) from h)]
theorem wfd_le {G Y : Nat → Nat → Int32} {nw b : Nat} : ∀ n p w, w ≤ 9999 → wfd G Y nw b p n w ≤ 9999 := by
  intro n
  induction n with
  | zero => intro p w h; exact h
  | succ n ih =>
    intro p w h
    by_cases hc : cdp Y b p
    · rw [wfd_t hc]; exact ih _ _ (Nat.min_le_left _ _)
    · rw [wfd_f hc]; exact ih _ _ h
theorem wearC_loop {P q s nw nb nr tp e tl : Nat} {mt : Nat → Nat → Prop} {fl : Prop} {c0 m0 : xD} {Y : Nat → Nat → Int32} : ∀ n p F c m (w : Nat → Nat), p + n = nw → n < F → RS P q s nw nb nr tp e tl mt fl c0 m0 c m → (∀ j, j ≠ 12 → vM s m.1 j = Y j) → (∀ b, b < nb → c.1 (q + 9) b = nI (w b) ∧ w b ≤ 9999) → ∃ c', xloop (fun _ _ _ _ => none) (b_X2_wearBenches_2 shA) F 87 q (nI p) c = some c' ∧ c'.2.2 = c.2.2 ∧ (∀ k, k ≠ 88 → k ≠ P + 18 → c'.2.1 k = c.2.1 k) ∧ (∀ k, k ≠ q + 9 → c'.1 k = c.1 k) ∧ ∀ b, b < nb → c'.1 (q + 9) b = nI (wfd m0.1 Y nw b p n (w b)) := by
  intro n
  induction n with
  | zero =>
    intro p F c m w h1 h2 hr hY hw
    obtain ⟨F, rfl⟩ : ∃ G, F = G + 1 := ⟨F - 1, by omega⟩
    obtain ⟨h, hs⟩ := hr
    have hRc := wf_rc h; have hRm := wf_rm h; have hq := wf_sq h; have hp := pr_pl (wf_pr h); have hs23 := wf_s23 h; have hqr := isSc_ge hq; have hpr := isPl_le hp; have hw6 := pr_w6 (wf_pr h); have hb8 := pr_b8 (wf_pr h); have hr12 := pr_r12 (wf_pr h); have ht2 := pr_t2 (wf_pr h); have ht60 := pr_t60 (wf_pr h)
    have cw : c.1 P 9 = nI nw := by rw [wf_oc h P (Or.inl (by omega))]; exact pr_cW (wf_pr h)
    refine ⟨c, ?_, rfl, fun _ _ _ => rfl, fun _ _ => rfl, fun b hb => (hw b hb).1⟩
    rw [loop_s, b_X2_wearBenches_2, gR_of sA_87 (rf_87_0 hRc), Option.bind_some, gI_of (sp_0 hp), Option.bind_some, cw, if_pos (nI_le (by omega) (by omega))]
    rfl
  | succ n ih =>
    intro p F c m w h1 h2 hr hY hw
    obtain ⟨F, rfl⟩ : ∃ G, F = G + 1 := ⟨F - 1, by omega⟩
    have hr0 := hr
    obtain ⟨h, hs⟩ := hr
    have hRc := wf_rc h; have hRm := wf_rm h; have hq := wf_sq h; have hp := pr_pl (wf_pr h); have hs23 := wf_s23 h; have hqr := isSc_ge hq; have hpr := isPl_le hp; have hw6 := pr_w6 (wf_pr h); have hb8 := pr_b8 (wf_pr h); have hr12 := pr_r12 (wf_pr h); have ht2 := pr_t2 (wf_pr h); have ht60 := pr_t60 (wf_pr h)
    have cw : c.1 P 9 = nI nw := by rw [wf_oc h P (Or.inl (by omega))]; exact pr_cW (wf_pr h)
    have a1 : c.1 (q + 1) p = vM s m.1 5 p := sc_st hs p (by omega)
    have a2 : c.1 (q + 2) p = vM s m.1 6 p := by obtain ⟨a, _, y1, y2⟩ := sc_sp hs p (by omega); rw [y2]; exact y1
    have eB := e_benchOn h (vM s m.1 6 p)
    rw [loop_s, b_X2_wearBenches_2, gR_of sA_87 (rf_87_0 hRc), Option.bind_some, gI_of (sp_0 hp), Option.bind_some, cw, if_neg (nI_ge (by omega) (by omega)), Option.bind_some, gR_of (ss_0 hq) (rs_6 hRc hq), Option.bind_some, aI_of (ss_2 hq) (by omega) (by omega), Option.bind_some, a2, on_of (sp_0 hp), eB, Option.bind_some]
    dsimp only
    rw [gR_of (ss_0 hq) (rs_5 hRc hq), Option.bind_some, aI_of (ss_1 hq) (by omega) (by omega), Option.bind_some, a1]
    unfold k_X2_wearBenches_72
    by_cases h5 : vM s m.1 5 p = 2
    · obtain ⟨s1, s2, s3⟩ := e_sbn hr0 (show p < nw by omega) h5
      generalize sbn (vM s m.1) p = b0 at s1 s2 s3
      obtain ⟨L', hL, e1⟩ := e_amountC h hs (k := 2) (by omega) (show p < nw by omega) s1 s3.symm
      have y12 : vM s m.1 12 b0 = nI (w b0) := by
        obtain ⟨a, _, z1, z2⟩ := sc_wo hs b0 s1
        rw [z2, ← z1]; exact (hw b0 s1).1
      have e2 : am (lvv m0.1 (vM s m.1) nw 2 p b0 (vM s m.1 12 b0)) = nI (amN (lvv m0.1 Y nw 2 p b0 (nI (w b0)))) := by
        rw [← (am_N _).1, lvv_congr (Y' := vM s m.1) (Y := Y) (fun j _ _ j3 => hY j j3), y12]
      rw [e2, show nI 2 = (2 : Int32) from rfl] at e1
      have hA := (am_N (lvv m0.1 Y nw 2 p b0 (nI (w b0)))).2
      generalize hw1 : min 9999 (w b0 + amN (lvv m0.1 Y nw 2 p b0 (nI (w b0)))) = w1
      have hw1' : w1 ≤ 9999 := by omega
      have hw0 := (hw b0 s1).2
      have hr1 : RS P q s nw nb nr tp e tl mt fl c0 m0 (xu c.1 (q + 9) b0 (nI w1), L', c.2.2) (xu m.1 131 (8 * s + b0) (nI w1), m.2.1, m.2.2) := by
        refine ⟨wf_m3 (wf_cL (wf_c (j := 9) h (by omega) (by omega)) (fun k k1 k2 k3 => hL k k2 k3)) (by omega), ?_⟩
        show SC nw nb nr e tp tl mt fl m0.1 (xu m.1 131 (8 * s + b0) (nI w1) 99 53) (vC q (xu c.1 (q + 9) b0 (nI w1))) (L' q 3) (vM s (xu m.1 131 (8 * s + b0) (nI w1)))
        rw [xu_cell (by omega), vC_xu, vM_131, hL q (by omega) (by omega)]
        refine sc_wear hs (fun j j1 => xu_off j1) (fun j j1 => xu_off j1) (fun b hb => ?_)
        rw [xu_is, xu_is]
        by_cases z : b = b0
        · rw [if_pos z, if_pos z]; exact ⟨w1, hw1', rfl, rfl⟩
        · rw [if_neg z, if_neg z]; exact sc_wo hs b hb
      obtain ⟨c', k1, k2, k3, k4, k5⟩ := ih (p + 1) F _ _ (fun b => if b = b0 then w1 else w b) (by omega) (by omega) hr1 (fun j j1 => by rw [vM_131, xu_off j1]; exact hY j j1) (fun b hb => by
        show xu c.1 (q + 9) b0 (nI w1) (q + 9) b = _ ∧ _
        rw [xu_is]
        by_cases z : b = b0
        · rw [if_pos z, if_pos z]; exact ⟨rfl, hw1'⟩
        · rw [if_neg z, if_neg z]; exact hw b hb)
      refine ⟨c', ?_, k2, fun k z1 z2 => (k3 k z1 z2).trans (hL k z1 z2), fun k z1 => (k4 k z1).trans (xu_off z1), fun b hb => ?_⟩
      · rw [if_pos h5, ← s3, e_foundAt h s1, if_neg (nI_ne_m1 (by omega)), on_of sA_87, e1, Option.bind_some]
        simp (disch := omega) only [xgR, ss_0 hq, rs_13 hRc hq, ↓reduceIte, Option.bind_some, aI_of (ss_9 hq), sI_of (ss_9 hq), (hw b0 s1).1, nI_add, minC (show (9999 : Int32) = nI 9999 from rfl) (show 9999 < 2 ^ 31 by omega) (show w b0 + amN (lvv m0.1 Y nw 2 p b0 (nI (w b0))) < 2 ^ 31 by omega), hw1, nI_1]
        exact k1
      · rw [k5 b hb]
        try dsimp only
        have y8 : Y 8 p = nI b0 := by rw [← hY 8 (by omega)]; exact s2
        have y5 : Y 5 p = 2 := by rw [← hY 5 (by omega)]; exact h5
        by_cases z : b = b0
        · subst z
          rw [if_pos rfl, wfd_t (show cdp Y b p from ⟨y5, y8⟩), hw1]
        · rw [if_neg z, wfd_f (fun z1 => z ((nI_eq (show b < 2 ^ 31 by omega) (show b0 < 2 ^ 31 by omega)).mp (z1.2.symm.trans y8)))]
    · obtain ⟨c', k1, k2, k3, k4, k5⟩ := ih (p + 1) F c m w (by omega) (by omega) hr0 hY hw
      refine ⟨c', ?_, k2, k3, k4, fun b hb => ?_⟩
      · rw [if_neg h5, nI_1]; exact k1
      · rw [k5 b hb, wfd_f (fun z1 => h5 (by rw [hY 5 (by omega)]; exact z1.1))]
theorem wearM_loop {P q s nw nb nr tp : Nat} {c0 m0 c : xD} {Y : Nat → Nat → Int32} {b : Nat} (hb : b < nb) : ∀ n p F m w, p + n = nw → n < F → WF P q s nw nb nr tp c0 m0 c m → (∀ j, j ≠ 12 → vM s m.1 j = Y j) → m.1 131 (8 * s + b) = nI w → w ≤ 9999 → ∃ m', xloop (fun _ _ _ _ _ _ => none) (b_X10_wears_10 shA) F 99 (nI s) (nI b) (sit Y nw b) (nI p) m = some m' ∧ m'.2.2 = m.2.2 ∧ (∀ k, k ≠ 117 → k ≠ 118 → m'.2.1 k = m.2.1 k) ∧ (∀ k, k ≠ 99 → k ≠ 131 → m'.1 k = m.1 k) ∧ (∀ k, k ≠ 34 → m'.1 99 k = m.1 99 k) ∧ (∀ i, i ≠ 8 * s + b → m'.1 131 i = m.1 131 i) ∧ m'.1 131 (8 * s + b) = nI (wfd m0.1 Y nw b p n w) := by
  intro n
  induction n with
  | zero =>
    intro p F m w h1 h2 h hY hm hw
    obtain ⟨F, rfl⟩ : ∃ G, F = G + 1 := ⟨F - 1, by omega⟩
    have hRc := wf_rc h; have hRm := wf_rm h; have hq := wf_sq h; have hp := pr_pl (wf_pr h); have hs23 := wf_s23 h; have hqr := isSc_ge hq; have hpr := isPl_le hp; have hw6 := pr_w6 (wf_pr h); have hb8 := pr_b8 (wf_pr h); have hr12 := pr_r12 (wf_pr h); have ht2 := pr_t2 (wf_pr h); have ht60 := pr_t60 (wf_pr h)
    have cw : m.1 101 2 = nI nw := by rw [wf_om h 101 (Or.inl (by omega)) (by omega)]; exact p0_mW (wf_pr h)
    refine ⟨m, ?_, rfl, fun _ _ _ => rfl, fun _ _ _ => rfl, fun _ _ => rfl, fun _ _ => rfl, hm⟩
    rw [loop_s, b_X10_wears_10, gR_of sA_99 (rf_99_3 hRm), Option.bind_some, aN_2, Option.bind_some, cw, if_pos (nI_le (by omega) (by omega))]
    rfl
  | succ n ih =>
    intro p F m w h1 h2 h hY hm hw
    obtain ⟨F, rfl⟩ : ∃ G, F = G + 1 := ⟨F - 1, by omega⟩
    have hRc := wf_rc h; have hRm := wf_rm h; have hq := wf_sq h; have hp := pr_pl (wf_pr h); have hs23 := wf_s23 h; have hqr := isSc_ge hq; have hpr := isPl_le hp; have hw6 := pr_w6 (wf_pr h); have hb8 := pr_b8 (wf_pr h); have hr12 := pr_r12 (wf_pr h); have ht2 := pr_t2 (wf_pr h); have ht60 := pr_t60 (wf_pr h)
    have cw : m.1 101 2 = nI nw := by rw [wf_om h 101 (Or.inl (by omega)) (by omega)]; exact p0_mW (wf_pr h)
    have hcd : (((sit Y nw b) >>> (nI p &&& 31)) &&& (1 : Int32)) = 0 ↔ ¬ cdp Y b p := by
      rw [bi1 _ (by omega), sit_bt hw6 (by omega), if10, decide_eq_false_iff_not]
      unfold cdp
      constructor
      · intro z z1; exact z ⟨by omega, z1⟩
      · intro z z1; exact z z1.2
    rw [loop_s, b_X10_wears_10, gR_of sA_99 (rf_99_3 hRm), Option.bind_some, aN_2, Option.bind_some, cw, if_neg (nI_ge (by omega) (by omega))]
    unfold k_X10_wears_78
    by_cases ht : cdp Y b p
    · obtain ⟨L1, h', L2, e0, e1, e3⟩ := e_amountM h (k := 2) (by omega) (show p < nw by omega) hb
      have y12 : vM s m.1 12 b = nI w := by rw [← hm]; rfl
      have e2 : am (lvv m0.1 (vM s m.1) nw 2 p b (vM s m.1 12 b)) = nI (amN (lvv m0.1 Y nw 2 p b (nI w))) := by
        rw [← (am_N _).1, lvv_congr (Y' := vM s m.1) (Y := Y) (fun j _ _ j3 => hY j j3), y12]
      rw [e2, show nI 2 = (2 : Int32) from rfl] at e1
      have hA := (am_N (lvv m0.1 Y nw 2 p b (nI w))).2
      generalize hw1 : min 9999 (w + amN (lvv m0.1 Y nw 2 p b (nI w))) = w1
      have hw1' : w1 ≤ 9999 := by omega
      have hwf := wf_m3 (wf_mL (wf_m9 h (k := 34) (v := h') (Or.inl rfl)) (L := L2) e3) (b := b) (v := nI w1) (by omega)
      obtain ⟨m', k1, k2, k3, k4, k5, k6, k7⟩ := ih (p + 1) F _ w1 (by omega) (by omega) hwf (fun j j1 => by
        show vM s (xu (xu m.1 99 34 h') 131 (8 * s + b) (nI w1)) j = _
        rw [vM_131, vM_off (by omega), xu_off j1]; exact hY j j1) (by dsimp only; rw [xu_at]) hw1'
      refine ⟨m', ?_, k2, fun k z1 z2 => (k3 k z1 z2).trans (e3 k z1 z2), fun k z1 z2 => (k4 k z1 z2).trans ?_, fun k z1 => (k5 k z1).trans ?_, fun i z1 => (k6 i z1).trans ?_, ?_⟩
      · rw [if_neg (fun z => hcd.mp z ht), on_of sA_99, e0, Option.bind_some]
        simp (disch := omega) only [xgR, sA_99, rf_99_47 hRm, ↓reduceIte, Option.bind_some, m8_, nI_add, aI_of sA_131, on_of sA_99, e1, hm, minM (show (9999 : Int32) = nI 9999 from rfl) (show 9999 < 2 ^ 31 by omega) (show w + amN (lvv m0.1 Y nw 2 p b (nI w)) < 2 ^ 31 by omega), hw1, sI_of sA_131, nI_1]
        exact k1
      · dsimp only; rw [xu_off z2, xu_off z1]
      · dsimp only; rw [xu_cell (by omega), xu_at2 z1]
      · dsimp only; rw [xu_at2 z1, xu_cell (by omega)]
      · rw [k7, wfd_t ht, hw1]
    · obtain ⟨m', k1, k2, k3, k4, k5, k6, k7⟩ := ih (p + 1) F m w (by omega) (by omega) h hY hm hw
      refine ⟨m', ?_, k2, k3, k4, k5, k6, ?_⟩
      · rw [if_pos (hcd.mpr ht), nI_1]; exact k1
      · rw [k7, wfd_f ht]
theorem wearM_all {P q s nw nb nr tp : Nat} {c0 m0 c : xD} {Y : Nat → Nat → Int32} {bn : Int32} {w : Nat → Nat} : ∀ n b F m, b + n = nb → n < F → WF P q s nw nb nr tp c0 m0 c m → (∀ j, j ≠ 12 → vM s m.1 j = Y j) → (∀ b', b ≤ b' → b' < nb → m.1 131 (8 * s + b') = nI (w b') ∧ w b' ≤ 9999) → ∃ m', xloop (fun _ _ _ _ _ => none) (b_X10_passes_124 shA) F 99 (nI s) bn (nI b) m = k_X10_passes_146 shA 99 (nI s) bn m' ∧ WF P q s nw nb nr tp c0 m0 c m' ∧ (∀ k, k ≠ 99 → k ≠ 131 → m'.1 k = m.1 k) ∧ (∀ k, k ≠ 34 → m'.1 99 k = m.1 99 k) ∧ (∀ i, i < 8 * s + b → m'.1 131 i = m.1 131 i) ∧ (∀ b', b ≤ b' → b' < nb → m'.1 131 (8 * s + b') = nI (wfd m0.1 Y nw b' 0 nw (w b'))) := by
  intro n
  induction n with
  | zero =>
    intro b F m h1 h2 h hY hm
    obtain ⟨F, rfl⟩ : ∃ G, F = G + 1 := ⟨F - 1, by omega⟩
    have hRc := wf_rc h; have hRm := wf_rm h; have hq := wf_sq h; have hp := pr_pl (wf_pr h); have hs23 := wf_s23 h; have hqr := isSc_ge hq; have hpr := isPl_le hp; have hw6 := pr_w6 (wf_pr h); have hb8 := pr_b8 (wf_pr h); have hr12 := pr_r12 (wf_pr h); have ht2 := pr_t2 (wf_pr h); have ht60 := pr_t60 (wf_pr h)
    have cw : m.1 101 1 = nI nb := by rw [wf_om h 101 (Or.inl (by omega)) (by omega)]; exact p0_mB (wf_pr h)
    refine ⟨m, ?_, h, fun _ _ _ => rfl, fun _ _ => rfl, fun _ _ => rfl, fun b' z1 z2 => by omega⟩
    rw [loop_s, b_X10_passes_124, gR_of sA_99 (rf_99_3 hRm), Option.bind_some, aN_1, Option.bind_some, cw, if_pos (nI_le (by omega) (by omega))]
  | succ n ih =>
    intro b F m h1 h2 h hY hm
    obtain ⟨F, rfl⟩ : ∃ G, F = G + 1 := ⟨F - 1, by omega⟩
    have hRc := wf_rc h; have hRm := wf_rm h; have hq := wf_sq h; have hp := pr_pl (wf_pr h); have hs23 := wf_s23 h; have hqr := isSc_ge hq; have hpr := isPl_le hp; have hw6 := pr_w6 (wf_pr h); have hb8 := pr_b8 (wf_pr h); have hr12 := pr_r12 (wf_pr h); have ht2 := pr_t2 (wf_pr h); have ht60 := pr_t60 (wf_pr h)
    have cw : m.1 101 1 = nI nb := by rw [wf_om h 101 (Or.inl (by omega)) (by omega)]; exact p0_mB (wf_pr h)
    obtain ⟨m1, k1, k2, k3, k4, k5, k6, k7⟩ := wearM_loop (b := b) (by omega) nw 0 xF m (w b) (by omega) (xF_big (by omega)) h hY (hm b (by omega) (by omega)).1 (hm b (by omega) (by omega)).2
    have hw1 : WF P q s nw nb nr tp c0 m0 c m1 := wf_mG h k2 (fun k z1 z2 => k4 k z2 (by omega)) (fun k z1 z2 => k5 k z1) (fun k i z1 z2 z3 => by rw [k4 k (by omega) (by omega)]) (fun k i z1 z2 z3 => by rw [k4 k (by omega) (by omega)]) (fun i z1 => k6 i (by omega)) k3
    have hY1 : ∀ j, j ≠ 12 → vM s m1.1 j = Y j := by
      intro j j1
      rw [← hY j j1]
      funext k
      show m1.1 (119 + j) _ = m.1 (119 + j) _
      rw [k4 (119 + j) (by omega) (by omega)]
    obtain ⟨m2, j1, j2, j3, j4, j5, j6⟩ := ih (b + 1) F m1 (by omega) (by omega) hw1 hY1 (fun b' z1 z2 => by rw [k6 _ (by omega)]; exact hm b' (by omega) z2)
    refine ⟨m2, ?_, j2, fun k z1 z2 => (j3 k z1 z2).trans (k4 k z1 z2), fun k z1 => (j4 k z1).trans (k5 k z1), fun i z1 => (j5 i (by omega)).trans (k6 i (by omega)), fun b' z1 z2 => ?_⟩
    · rw [loop_s, b_X10_passes_124, gR_of sA_99 (rf_99_3 hRm), Option.bind_some, aN_1, Option.bind_some, cw, if_neg (nI_ge (by omega) (by omega)), on_of sA_99]
      have e1 : f_X10_wears shA 99 (nI s) (nI b) m = some m1 := by
        unfold f_X10_wears
        rw [on_of sA_99, e_sitM h b, Option.bind_some]
        have e2 : sit (vM s m.1) nw b = sit Y nw b := by unfold sit; rw [hY 5 (by omega), hY 8 (by omega)]
        rw [e2]; exact k1
      rw [e1, Option.bind_some, nI_1]
      exact j1
    · by_cases z : b' = b
      · subst z; rw [j5 _ (by omega)]; exact k7
      · exact j6 b' (by omega) z2
theorem e_wear {P q s nw nb nr tp e tl : Nat} {mt : Nat → Nat → Prop} {fl : Prop} {c0 m0 c m : xD} (hr : RS P q s nw nb nr tp e tl mt fl c0 m0 c m) (bn : Int32) : ∃ c' m', f_X2_wearBenches shA 87 q c = some c' ∧ k_X10_passes_122 shA 99 (nI s) bn m = k_X10_passes_146 shA 99 (nI s) bn m' ∧ RS P q s nw nb nr tp e tl mt fl c0 m0 c' m' := by
  have hr0 := hr
  obtain ⟨h, hs⟩ := hr
  have hRc := wf_rc h; have hRm := wf_rm h; have hq := wf_sq h; have hp := pr_pl (wf_pr h); have hs23 := wf_s23 h; have hqr := isSc_ge hq; have hpr := isPl_le hp; have hw6 := pr_w6 (wf_pr h); have hb8 := pr_b8 (wf_pr h); have hr12 := pr_r12 (wf_pr h); have ht2 := pr_t2 (wf_pr h); have ht60 := pr_t60 (wf_pr h)
  have hwo : ∀ b, b < nb → c.1 (q + 9) b = nI ((c.1 (q + 9) b).toNatClampNeg) ∧ (c.1 (q + 9) b).toNatClampNeg ≤ 9999 ∧ m.1 131 (8 * s + b) = nI ((c.1 (q + 9) b).toNatClampNeg) := by
    intro b hb
    obtain ⟨a, a1, a2, a3⟩ := sc_wo hs b hb
    have a2 : c.1 (q + 9) b = nI a := a2
    have a3 : m.1 131 (8 * s + b) = nI a := a3
    rw [a2, a3, nI_clamp (by omega)]
    exact ⟨rfl, a1, rfl⟩
  obtain ⟨c', k1, k2, k3, k4, k5⟩ := wearC_loop nw 0 xF c m (fun b => (c.1 (q + 9) b).toNatClampNeg) (by omega) (xF_big (by omega)) hr0 (Y := vM s m.1) (fun _ _ => rfl) (fun b hb => ⟨(hwo b hb).1, (hwo b hb).2.1⟩)
  obtain ⟨m', j1, j2, j3, j4, j5, j6⟩ := wearM_all (bn := bn) (w := fun b => (c.1 (q + 9) b).toNatClampNeg) nb 0 xF m (by omega) (xF_big (by omega)) h (Y := vM s m.1) (fun _ _ => rfl) (fun b _ hb => ⟨(hwo b hb).2.2, (hwo b hb).2.1⟩)
  refine ⟨c', m', k1, j1, wf_cG j2 k2 (fun k hk => k4 k (by omega)) (fun k _ _ _ _ _ => by rw [k4 q (by omega)]) (fun k _ z1 z2 => k3 k z1 z2), ?_⟩
  rw [j4 53 (by omega), k3 q (by omega) (by omega)]
  refine sc_wear hs (fun j j1 => k4 (q + j) (by omega)) (fun j j1 => ?_) (fun b hb => ?_)
  · funext k
    show m'.1 (119 + j) _ = m.1 (119 + j) _
    rw [j3 (119 + j) (by omega) (by omega)]
  · exact ⟨_, wfd_le nw 0 _ (hwo b hb).2.1, k5 b hb, j6 b (by omega) hb⟩

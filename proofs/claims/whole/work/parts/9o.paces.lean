/-! LEVEL 2: paces -/
theorem bear_lock {P nw nb nr tp n K l : Nat} {c0 m0 : xD} (hpa : PA nw m0.1) (h50 : m0.1 99 50 = 0) (hl : l ≤ 60) (hsn : SN nb n K c0 m0) : ∀ k t c m F F', t + k = l + 1 → 1 ≤ t → k < F → k < F' → RS P 73 1 nw nb nr tp 0 0 (fun _ _ => True) True c0 m0 c m → ∃ (b : Bool) (c' m' : xD), xloop (fun _ _ _ _ => none) (b_X9_trialBearsOutSeen_10 shA) F 0 (nI l) (nI t) c = some (if b then 1 else 0, c') ∧ xloop (fun _ _ _ _ => none) (b_X10_fitsPace_7 shA) F' 99 (nI l) (nI t) m = some (if b then 1 else 0, m') ∧ RS P 73 1 nw nb nr tp 0 0 (fun _ _ => True) True c0 m0 c' m' := by
  intro k
  induction k with
  | zero =>
    intro t c m F F' h1 h0 h2 h3 hr
    obtain ⟨F, rfl⟩ : ∃ G, F = G + 1 := ⟨F - 1, by omega⟩
    obtain ⟨F', rfl⟩ : ∃ G, F' = G + 1 := ⟨F' - 1, by omega⟩
    refine ⟨true, c, m, ?_, ?_, hr⟩
    · rw [loop_s, b_X9_trialBearsOutSeen_10, if_pos (nI_lt (by omega) (by omega))]; rfl
    · rw [loop_s, b_X10_fitsPace_7, if_pos (nI_lt (by omega) (by omega))]; rfl
  | succ k ih =>
    intro t c m F F' h1 h0 h2 h3 hr
    obtain ⟨F, rfl⟩ : ∃ G, F = G + 1 := ⟨F - 1, by omega⟩
    obtain ⟨F', rfl⟩ : ∃ G, F' = G + 1 := ⟨F' - 1, by omega⟩
    obtain ⟨c1, m1, e1, e2, hr1⟩ := e_minute hr hpa (cb0 h50)
    rw [show nI 1 = (1 : Int32) from rfl] at e2
    have hRc := wf_rc hr.1
    have hRc1 := wf_rc hr1.1; have hRm1 := wf_rm hr1.1
    have hb8 := pr_b8 (wf_pr hr.1)
    have hs1 : SN nb n K c1 m1 := sn_congr hsn (fun k k1 k2 => wf_oc hr1.1 k (by omega)) (fun k k1 k2 => wf_om hr1.1 k (by omega) (by omega)) (wf_o9 hr1.1 57 (by omega) (by omega)) (wf_o9 hr1.1 58 (by omega) (by omega))
    have wo : ∀ b, b < nb → c1.1 (73 + 9) b = m1.1 131 (8 + b) := fun b hb => by
      obtain ⟨a, a1, a2, a3⟩ := sc_wo hr1.2 b hb
      have a2 : c1.1 (73 + 9) b = nI a := a2
      have a3 : m1.1 131 (8 * 1 + b) = nI a := a3
      rw [a2, ← a3]
    have hn := hsn.1
    obtain ⟨b, q1, q2⟩ := agrees_lock (x1 := nI t) hRc1 hRm1 hb8 hs1 wo K 0 xF xF (by omega) (by unfold xF; omega) (by unfold xF; omega)
    rw [nI_0] at q1 q2
    have q1 : f_X5_agrees shA 92 (nI t) (73 + 9) c1 = _ := q1
    have q2 : f_X10_isSo shA 99 (nI t) m1 = _ := q2
    have g14 : xgR 9 shA c1 0 14 = some 92 := gR_of sA_0 (rf_0_14 hRc1)
    have g10 : xgR 9 shA c1 0 10 = some 73 := gR_of sA_0 (rf_0_10 hRc1)
    rw [loop_s, loop_s, b_X9_trialBearsOutSeen_10, b_X10_fitsPace_7, if_neg (nI_nlt (by omega) (by omega)), if_neg (nI_nlt (by omega) (by omega)), gR_of sA_0 (rf_0_12 hRc), Option.bind_some, gR_of sA_0 (rf_0_10 hRc), Option.bind_some, on_of sA_87, e1, Option.bind_some, on_of sA_99, e2, Option.bind_some, g14, Option.bind_some, g10, Option.bind_some, gR_of sA_73 (rs_13 hRc1 sc73), Option.bind_some, on_of sA_92, q1, Option.bind_some, on_of sA_99, q2, Option.bind_some]
    dsimp only
    cases b with
    | false => rw [if_pos (by decide), if_pos (by decide)]; exact ⟨false, c1, m1, rfl, rfl, hr1⟩
    | true => rw [if_neg (by decide), if_neg (by decide), nI_1]; exact ih (t + 1) c1 m1 F F' (by omega) (by omega) (by omega) (by omega) hr1
theorem ct_bg {P nr p : Nat} {v : Int32} {c c' : xD} (h : BG P 73 nr c c') : CT P c (xu c'.1 (73 + 4) p v, c'.2.1, c'.2.2) := by
  refine ⟨h.1, fun k hk _ => ?_, fun k k1 _ _ => h.2.2.2.2.1.1 k k1⟩
  dsimp only
  rw [xu_off (by omega)]
  exact h.2.1 k (by omega)
theorem mt_ms {nw : Nat} {m m' : xD} (h : MS 1 nw m m') : MT m m' := by
  obtain ⟨m1, m2, m3, m4, m5, m6, _⟩ := h
  refine ⟨m1, fun k hk => ⟨m3 k (by omega), by rw [m2]⟩, fun k k1 k2 _ => m3 k (by omega), fun k _ _ _ _ _ _ _ _ => by rw [m3 99 (by omega)], fun s hs => ⟨fun j hj => ?_, fun j p j1 j2 hp => ?_, fun b hb => ?_⟩⟩
  · show m'.1 (119 + j) (stj j * s + 0) = m.1 (119 + j) (stj j * s + 0)
    have e : stj j = 1 := by unfold stj; rw [if_pos hj]
    rw [e]; exact m4 (119 + j) _ (by omega) (by omega) (by omega)
  · show m'.1 (119 + j) (stj j * s + p) = m.1 (119 + j) (stj j * s + p)
    have e : stj j = 6 := by unfold stj; rw [if_neg (by omega), if_pos j2]
    rw [e]; exact m5 (119 + j) _ (by omega) (by omega) (by omega)
  · show m'.1 131 (8 * s + b) = m.1 131 (8 * s + b)
    exact m6 _ (by omega)
/-- one pace tried -/
theorem pace_step {P nw nb nr tp n K l p a : Nat} {c m : xD} (hRc : RefOK c P) (hRm : RefOK m P) (hpr : PR P 0 nw nb nr tp c.1 m.1) (hsn : SN nb n K c m) (hl : l ≤ 60) (hll : lmx (knS K m.1) (m.1 133) 0 K 0 = nI l) (hpw : p < nw) (ha : a ≤ 9) (h50 : m.1 99 50 = 0) (h51 : m.1 99 51 = nI p) (h52 : m.1 99 52 = nI a) (h53 : m.1 99 53 = -1) : ∃ (b : Bool) (c1 c' m' : xD), f_X4_begin shA 73 P c = some c1 ∧ RefOK c1 P ∧ f_X9_trialBearsOutSeen shA 0 (xu c1.1 (73 + 4) p (nI a), c1.2.1, c1.2.2) = some (if b then 1 else 0, c') ∧ f_X10_fitsPace shA 99 (nI l) m = some (if b then 1 else 0, m') ∧ CT P c c' ∧ MT m m' ∧ c'.1 98 = c.1 98 ∧ m'.1 138 = m.1 138 ∧ m'.1 99 50 = 0 ∧ m'.1 99 51 = nI p ∧ m'.1 99 53 = -1 := by
  have hw6 := pr_w6 hpr; have hr12 := pr_r12 hpr
  have hp := pr_pl hpr
  obtain ⟨c1, e1, hB⟩ := e_begin (q := 73) hRc hp sc73 hr12 (pr_cR hpr)
  obtain ⟨m1, e2, hM⟩ := e_starts (s := 1) hRm (by omega) hw6 (p0_mW hpr)
  rw [show nI 1 = (1 : Int32) from rfl] at e2
  have hR1 : RefOK c1 P := hRc.same hB.1
  have hRm1 : RefOK m1 P := hRm.same hM.1
  have g99 : m1.1 99 = m.1 99 := hM.2.2.1 99 (by omega)
  have hI : ∀ k, k ≠ 73 + 4 → xu c1.1 (73 + 4) p (nI a) k = c1.1 k := fun k hk => xu_off hk
  have h4 : ∀ i, i < nw → xu c1.1 (73 + 4) p (nI a) (73 + 4) i = (if nI i = m.1 99 51 then m.1 99 52 else m.1 108 i) := fun i hi => by
    rw [xu_is, h51, h52]
    by_cases e : i = p
    · rw [if_pos e, if_pos (by rw [e])]
    · obtain ⟨z, z1, z2, z3, z4⟩ := pr_wp hpr i hi
      rw [Nat.mul_zero, Nat.zero_add] at z4
      rw [if_neg e, if_neg (fun y => e ((nI_eq (by omega) (by omega)).mp y)), (hB.2.2.2.2.2.1 i (by omega)).2.2.2.1, z3, z4]
  have hpa : PA nw m1.1 := fun i hi => by
    rw [g99, h51, h52, hM.2.2.1 108 (by omega)]
    by_cases e : nI i = nI p
    · exact ⟨a, ha, if_pos e⟩
    · obtain ⟨z, z1, z2, z3, z4⟩ := pr_wp hpr i hi
      rw [Nat.mul_zero, Nat.zero_add] at z4
      exact ⟨z, z2, by rw [if_neg e]; exact z4⟩
  have hsc := sc_beg hpr hB hM h50 hI h4
  have hRc2 : RefOK (xu c1.1 (73 + 4) p (nI a), c1.2.1, c1.2.2) P := hR1.same rfl
  have hr : RS P 73 1 nw nb nr tp 0 0 (fun _ _ => True) True (xu c1.1 (73 + 4) p (nI a), c1.2.1, c1.2.2) m1 (xu c1.1 (73 + 4) p (nI a), c1.2.1, c1.2.2) m1 :=
    ⟨wf_refl hRc2 hRm1 sc73 (by omega) (pr_beg hpr sc73 hB hM hI), by rw [g99, h53]; exact hsc⟩
  have hsn1 : SN nb n K (xu c1.1 (73 + 4) p (nI a), c1.2.1, c1.2.2) m1 := sn_congr hsn (fun k k1 k2 => by dsimp only; rw [xu_off (by omega)]; exact hB.2.1 k (by omega)) (fun k k1 k2 => hM.2.2.1 k (by omega)) (by rw [g99]) (by rw [g99])
  obtain ⟨b, c', m', q1, q2, hr'⟩ := bear_lock hpa (by rw [g99]; exact h50) hl hsn1 l 1 _ _ xF xF (by omega) (by omega) (by unfold xF; omega) (by unfold xF; omega) hr
  have hlast := e_lastC hRc2 hsn1
  have hkn : knS K m1.1 = knS K m.1 := by funext i; unfold knS; rw [hM.2.2.1 138 (by omega), hM.2.2.1 137 (by omega)]
  rw [hkn, hM.2.2.1 133 (by omega), hll] at hlast
  refine ⟨b, c1, c', m', e1, hR1, ?_, ?_, (ct_bg hB).trans (ct_wf hr'.1), (mt_ms hM).trans (mt_wf hr'.1), ?_, ?_, ?_, ?_, ?_⟩
  · unfold f_X9_trialBearsOutSeen
    rw [gR_of sA_0 (rf_0_14 hRc2), Option.bind_some, on_of sA_92, hlast, Option.bind_some]
    exact q1
  · unfold f_X10_fitsPace
    rw [on_of sA_99, e2, Option.bind_some]
    exact q2
  · rw [wf_oc hr'.1 98 (by omega)]; dsimp only; rw [xu_off (by omega)]; exact hB.2.1 98 (by omega)
  · rw [wf_om hr'.1 138 (by omega) (by omega)]; exact hM.2.2.1 138 (by omega)
  · rw [wf_o9 hr'.1 50 (by omega) (by omega), g99]; exact h50
  · rw [wf_o9 hr'.1 51 (by omega) (by omega), g99]; exact h51
  · exact sc_x0 hr'.2 rfl
theorem pc_1 : ∀ j : Fin 9, nI (j.val + 1) - 1 = nI j.val ∧ ¬ (9 : Int32) < nI (j.val + 1) ∧ ¬ (9 : Int32) ≤ nI j.val := by decide +kernel
theorem pr_ctmt {P nw nb nr tp : Nat} {c m c' m' : xD} (hpr : PR P 0 nw nb nr tp c.1 m.1) (hc : CT P c c') (hm : MT m m') : PR P 0 nw nb nr tp c'.1 m'.1 := by
  have hp := isPl_le (pr_pl hpr)
  exact pr_congr hpr (fun j hj => hc.2.1 _ (by omega) (by omega)) (fun k k1 k2 => hm.2.2.1 k (by omega) (by omega) (by omega))
theorem sn_ctmt {P nb n K : Nat} {c m c' m' : xD} (h : SN nb n K c m) (hc : CT P c c') (hm : MT m m') (e1 : c'.1 98 = c.1 98) (e2 : m'.1 138 = m.1 138) : SN nb n K c' m' := by
  refine sn_congr h (fun k k1 k2 => ?_) (fun k k1 k2 => ?_) (hm.2.2.2.1 57 (by omega) (by omega) (by omega) (by omega) (by omega) (by omega) (by omega) (by omega)) (hm.2.2.2.1 58 (by omega) (by omega) (by omega) (by omega) (by omega) (by omega) (by omega) (by omega))
  · by_cases e : k = 98
    · rw [e]; exact e1
    · exact hc.2.1 k (by omega) e
  · by_cases e : k = 138
    · rw [e]; exact e2
    · exact hm.2.2.1 k (by omega) (by omega) e
theorem lm_ctmt {K : Nat} {m m' : xD} (hm : MT m m') (e2 : m'.1 138 = m.1 138) : lmx (knS K m'.1) (m'.1 133) 0 K 0 = lmx (knS K m.1) (m.1 133) 0 K 0 := by
  have hkn : knS K m'.1 = knS K m.1 := by funext i; unfold knS; rw [e2, hm.2.2.1 137 (by omega) (by omega) (by omega)]
  rw [hkn, hm.2.2.1 133 (by omega) (by omega) (by omega)]
theorem pace_loop {P nw nb nr tp n K l p : Nat} (hl : l ≤ 60) (hpw : p < nw) : ∀ k j acc c m F F', j + k = 9 → k < F → k < F' → RefOK c P → RefOK m P → PR P 0 nw nb nr tp c.1 m.1 → SN nb n K c m → lmx (knS K m.1) (m.1 133) 0 K 0 = nI l → m.1 99 50 = 0 → m.1 99 51 = nI p → m.1 99 53 = -1 → ∃ r c' m', xloop (fun _ _ _ _ _ => none) (b_X9_paces_24 shA) F 0 (nI p) acc (nI (j + 1)) c = some (r, c') ∧ xloop (fun _ _ _ _ _ => none) (b_X10_paces_144 shA) F' 99 (nI l) acc (nI j) m = some (r, m') ∧ CT P c c' ∧ MT m m' ∧ m'.1 99 50 = 0 ∧ m'.1 99 51 = -1 ∧ m'.1 99 53 = -1 := by
  intro k
  induction k with
  | zero =>
    intro j acc c m F F' h1 h2 h3 hRc hRm hpr hsn hll h50 h51 h53
    obtain ⟨F, rfl⟩ : ∃ G, F = G + 1 := ⟨F - 1, by omega⟩
    obtain ⟨F', rfl⟩ : ∃ G, F' = G + 1 := ⟨F' - 1, by omega⟩
    have e : j = 9 := by omega
    subst e
    refine ⟨acc, c, (xu m.1 99 51 (-1), m.2.1, m.2.2), ?_, ?_, CT.refl, mt_99 (by omega), ?_, ?_, ?_⟩
    · rw [loop_s, b_X9_paces_24, if_pos (by decide)]; rfl
    · rw [loop_s, b_X10_paces_144, if_pos (by decide), k_X10_paces_184, pM_51, Option.bind_some]
    · dsimp only; rw [xu_at2 (by omega)]; exact h50
    · dsimp only; rw [xu_at]
    · dsimp only; rw [xu_at2 (by omega)]; exact h53
  | succ k ih =>
    intro j acc c m F F' h1 h2 h3 hRc hRm hpr hsn hll h50 h51 h53
    obtain ⟨F, rfl⟩ : ∃ G, F = G + 1 := ⟨F - 1, by omega⟩
    obtain ⟨F', rfl⟩ : ∃ G, F' = G + 1 := ⟨F' - 1, by omega⟩
    obtain ⟨v1, v2, v3⟩ := pc_1 ⟨j, by omega⟩
    dsimp only at v1 v2 v3
    have hw6 := pr_w6 hpr
    obtain ⟨m2, hm2⟩ : ∃ m2 : xD, m2 = (xu m.1 99 52 (nI (j + 1)), m.2.1, m.2.2) := ⟨_, rfl⟩
    have mt2 : MT m m2 := by rw [hm2]; exact mt_99 (by omega)
    have r2 : RefOK m2 P := by rw [hm2]; exact hRm.same rfl
    have d138 : m2.1 138 = m.1 138 := by rw [hm2]; dsimp only; rw [xu_off (by omega)]
    have p50 : m2.1 99 50 = 0 := by rw [hm2]; dsimp only; rw [xu_at2 (by omega)]; exact h50
    have p51 : m2.1 99 51 = nI p := by rw [hm2]; dsimp only; rw [xu_at2 (by omega)]; exact h51
    have p52 : m2.1 99 52 = nI (j + 1) := by rw [hm2]; dsimp only; rw [xu_at]
    have p53 : m2.1 99 53 = -1 := by rw [hm2]; dsimp only; rw [xu_at2 (by omega)]; exact h53
    obtain ⟨b, c1, c', m', q1, q2, q3, q4, q5, q6, q7, q8, q9, q10, q11⟩ := pace_step (a := j + 1) hRc r2 (pr_ctmt hpr CT.refl mt2) (sn_ctmt hsn (CT.refl (P := P)) mt2 rfl d138) hl ((lm_ctmt mt2 d138).trans hll) hpw (by omega) p50 p51 p52 p53
    have hmt := mt2.trans q6
    have h138 := q8.trans d138
    obtain ⟨r, c'', m'', y1, y2, y3, y4, y5, y6, y7⟩ := ih (j + 1) (if b then acc ||| ((1 : Int32) <<< (nI j &&& 31)) else acc) c' m' F F' (by omega) (by omega) (by omega) (hRc.same q5.1) (hRm.same hmt.1) (pr_ctmt hpr q5 hmt) (sn_ctmt hsn q5 hmt q7 h138) ((lm_ctmt hmt h138).trans hll) q9 q10 q11
    refine ⟨r, c'', m'', ?_, ?_, q5.trans y3, hmt.trans y4, y5, y6, y7⟩
    · have hp := pr_pl hpr
      rw [loop_s, b_X9_paces_24, if_neg v2, gR_of sA_0 (rf_0_10 hRc), Option.bind_some, gR_of sA_0 (rf_0_4 hRc), Option.bind_some, on_of sA_73, q1, Option.bind_some, gR_of sA_0 (rf_0_10 q2), Option.bind_some, gR_of sA_73 (rs_8 q2 sc73), Option.bind_some, sI_of (ss_4 sc73) (by omega) (by omega), Option.bind_some, on_of sA_0, q3, Option.bind_some, v1]
      unfold k_X9_paces_66
      dsimp only
      rw [nI_1]
      cases b with
      | false => rw [if_pos (by decide)]; exact y1
      | true => rw [if_neg (by decide)]; exact y1
    · rw [loop_s, b_X10_paces_144, if_neg v3, nI_1, pM_52, Option.bind_some, ← hm2, on_of sA_99, q4, Option.bind_some]
      unfold k_X10_paces_176
      dsimp only
      rw [nI_1]
      cases b with
      | false => rw [if_pos (by decide), Int32.or_zero]; exact y2
      | true => rw [if_neg (by decide)]; exact y2

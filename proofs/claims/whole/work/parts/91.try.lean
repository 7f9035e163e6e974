/-! LEVEL 2: calls that only try: the trial scene against slot 1 -/
def CT (P : Nat) (c c' : xD) : Prop := c'.2.2 = c.2.2 ∧ (∀ k, (k < 73 ∨ 87 ≤ k) → k ≠ 98 → c'.1 k = c.1 k) ∧ (∀ k, k ≠ 73 → k ≠ 88 → k ≠ P + 18 → c'.2.1 k = c.2.1 k)
def MT (m m' : xD) : Prop := m'.2.2 = m.2.2 ∧ (∀ k, k < 99 → m'.1 k = m.1 k ∧ m'.2.1 k = m.2.1 k) ∧ (∀ k, 99 < k → (k < 119 ∨ 133 ≤ k) → k ≠ 138 → m'.1 k = m.1 k) ∧ (∀ k, k ≠ 0 → k ≠ 34 → k ≠ 50 → k ≠ 51 → k ≠ 52 → k ≠ 53 → k ≠ 54 → k ≠ 55 → m'.1 99 k = m.1 99 k) ∧ (∀ s, s ≠ 1 → (∀ j, j < 5 → vM s m'.1 j 0 = vM s m.1 j 0) ∧ (∀ j p, 5 ≤ j → j < 12 → p < 6 → vM s m'.1 j p = vM s m.1 j p) ∧ (∀ b, b < 8 → vM s m'.1 12 b = vM s m.1 12 b))
theorem CT.refl {P : Nat} {c : xD} : CT P c c := ⟨rfl, fun _ _ _ => rfl, fun _ _ _ _ => rfl⟩
theorem CT.trans {P : Nat} {c c1 c2 : xD} (h1 : CT P c c1) (h2 : CT P c1 c2) : CT P c c2 :=
  ⟨h2.1.trans h1.1, fun k a b => (h2.2.1 k a b).trans (h1.2.1 k a b), fun k a b e => (h2.2.2 k a b e).trans (h1.2.2 k a b e)⟩
theorem MT.refl {m : xD} : MT m m := ⟨rfl, fun _ _ => ⟨rfl, rfl⟩, fun _ _ _ _ => rfl, fun _ _ _ _ _ _ _ _ _ => rfl, fun _ _ => ⟨fun _ _ => rfl, fun _ _ _ _ _ => rfl, fun _ _ => rfl⟩⟩
theorem MT.trans {m m1 m2 : xD} (h1 : MT m m1) (h2 : MT m1 m2) : MT m m2 := by
  obtain ⟨a1, a2, a3, a4, a5⟩ := h1
  obtain ⟨b1, b2, b3, b4, b5⟩ := h2
  refine ⟨b1.trans a1, fun k hk => ⟨(b2 k hk).1.trans (a2 k hk).1, (b2 k hk).2.trans (a2 k hk).2⟩, fun k k1 k2 k3 => (b3 k k1 k2 k3).trans (a3 k k1 k2 k3), fun k k0 k1 k2 k3 k4 k5 k6 k7 => (b4 k k0 k1 k2 k3 k4 k5 k6 k7).trans (a4 k k0 k1 k2 k3 k4 k5 k6 k7), fun s hs => ?_⟩
  obtain ⟨c1, c2, c3⟩ := a5 s hs
  obtain ⟨d1, d2, d3⟩ := b5 s hs
  exact ⟨fun j hj => (d1 j hj).trans (c1 j hj), fun j p j1 j2 hp => (d2 j p j1 j2 hp).trans (c2 j p j1 j2 hp), fun b hb => (d3 b hb).trans (c3 b hb)⟩
theorem co_try {α : Type} {fC fM : xD → Option (α × xD)} {d : xD} (hd : Rel d) (h : ∀ P nw nb nr tp md m, m = t0 md → RQ P nw nb nr tp d m → ∃ r c' m', fC d = some (r, c') ∧ fM md = some (r, m') ∧ CT P d c' ∧ MT m m' ∧ m'.1 99 50 = 0 ∧ m'.1 99 51 = -1 ∧ m'.1 99 53 = -1) : CO fC fM d := by
  intro md hm
  obtain ⟨P, nw, nb, nr, tp, hq⟩ := hd
  have hq2 := t0_rq (rq_md hq hm)
  obtain ⟨r, c', m', e1, e2, ⟨a1, a2, a3⟩, ⟨b1, b2, b3, b4, b5⟩, g1, g2, g3⟩ := h P nw nb nr tp md _ rfl hq2
  have hpr := isPl_le (pr_pl (rq_pr hq))
  refine ⟨r, c', m', e1, e2, ⟨a1, fun k hk => ⟨a2 k (by omega) (by omega), a3 k (by omega) (by omega) (by omega)⟩⟩, ⟨b1, fun k hk => ⟨(b2 k hk).1.trans (t0_fr.2 k hk).1, (b2 k hk).2⟩⟩, P, nw, nb, nr, tp, rl_frame hq2 ⟨a1, fun k k1 k2 => a2 k k2 (by omega), fun k _ k2 k3 k4 => a3 k k2 k3 k4⟩ ⟨b1, fun k k1 k2 k3 => b3 k k1 k3 (by omega), b4, g1, g2, g3, b5⟩⟩
theorem ct_wf {P s nw nb nr tp : Nat} {c0 m0 c m : xD} (h : WF P 73 s nw nb nr tp c0 m0 c m) : CT P c0 c :=
  ⟨wf_ec h, fun k hk _ => wf_oc h k (by omega), fun k k1 k2 k3 => wf_lc h k k1 k2 k3⟩
theorem mt_wf {P q nw nb nr tp : Nat} {c0 m0 c m : xD} (h : WF P q 1 nw nb nr tp c0 m0 c m) : MT m0 m := by
  refine ⟨wf_em h, fun k hk => ⟨wf_om h k (by omega) (by omega), wf_lm h k (by omega) (by omega)⟩, fun k k1 k2 _ => wf_om h k (by omega) (by omega), fun k _ k1 _ _ _ k2 _ _ => wf_o9 h k k1 k2, fun s hs => ⟨fun j hj => ?_, fun j p j1 j2 hp => ?_, fun b hb => ?_⟩⟩
  · show m.1 (119 + j) (stj j * s + 0) = m0.1 (119 + j) (stj j * s + 0)
    have e : stj j = 1 := by unfold stj; rw [if_pos hj]
    rw [e]; exact wf_o1 h (119 + j) _ (by omega) (by omega) (by omega)
  · show m.1 (119 + j) (stj j * s + p) = m0.1 (119 + j) (stj j * s + p)
    have e : stj j = 6 := by unfold stj; rw [if_neg (by omega), if_pos j2]
    rw [e]; exact wf_o2 h (119 + j) _ (by omega) (by omega) (by omega)
  · show m.1 131 (8 * s + b) = m0.1 131 (8 * s + b)
    exact wf_o3 h _ (by omega)
theorem ct_bc {P : Nat} {c c' : xD} {W : Nat → Int32} (h : BC 73 45 14 c c' W) : CT P c c' :=
  ⟨h.1, fun k hk _ => h.2.2.1 k (by omega), fun k k1 _ _ => by rw [h.2.1, xu_off k1]⟩
theorem vM_mc {to as s : Nat} {m m' : xD} (h : MC to as m m') (hs : s ≠ to) : (∀ j, j < 5 → vM s m'.1 j 0 = vM s m.1 j 0) ∧ (∀ j p, 5 ≤ j → j < 12 → p < 6 → vM s m'.1 j p = vM s m.1 j p) ∧ (∀ b, b < 8 → vM s m'.1 12 b = vM s m.1 12 b) := by
  obtain ⟨a1, a2, a3, a4, a5, a6, a7, a8, a9⟩ := h
  refine ⟨fun j hj => ?_, fun j p j1 j2 hp => ?_, fun b hb => ?_⟩
  · show m'.1 (119 + j) (stj j * s + 0) = m.1 (119 + j) (stj j * s + 0)
    have e : stj j = 1 := by unfold stj; rw [if_pos hj]
    rw [e]; exact a4 (119 + j) _ (by omega) (by omega) (by omega)
  · show m'.1 (119 + j) (stj j * s + p) = m.1 (119 + j) (stj j * s + p)
    have e : stj j = 6 := by unfold stj; rw [if_neg (by omega), if_pos j2]
    rw [e]; exact a5 (119 + j) _ (by omega) (by omega) (by omega)
  · show m'.1 131 (8 * s + b) = m.1 131 (8 * s + b)
    exact a6 _ (by omega)
theorem vM_mcto {to as : Nat} {m m' : xD} (h : MC to as m m') : (∀ j, j < 5 → vM to m'.1 j 0 = vM as m.1 j 0) ∧ (∀ j p, 5 ≤ j → j < 12 → p < 6 → vM to m'.1 j p = vM as m.1 j p) ∧ (∀ b, b < 8 → vM to m'.1 12 b = vM as m.1 12 b) := by
  obtain ⟨a1, a2, a3, a4, a5, a6, a7, a8, a9⟩ := h
  refine ⟨fun j hj => ?_, fun j p j1 j2 hp => ?_, fun b hb => a9 b hb⟩
  · show m'.1 (119 + j) (stj j * to + 0) = m.1 (119 + j) (stj j * as + 0)
    have e : stj j = 1 := by unfold stj; rw [if_pos hj]
    rw [e, Nat.one_mul, Nat.one_mul]; exact a7 (119 + j) (by omega) (by omega)
  · show m'.1 (119 + j) (stj j * to + p) = m.1 (119 + j) (stj j * as + p)
    have e : stj j = 6 := by unfold stj; rw [if_neg (by omega), if_pos j2]
    rw [e]; exact a8 (119 + j) p (by omega) (by omega) hp
theorem mt_mc {as : Nat} {m m' : xD} (h : MC 1 as m m') : MT m m' :=
  ⟨h.1, fun k hk => ⟨h.2.2.1 k (by omega), by rw [h.2.1]⟩, fun k k1 k2 _ => h.2.2.1 k (by omega), fun k _ _ _ _ _ _ _ _ => by rw [h.2.2.1 99 (by omega)], fun s hs => vM_mc h hs⟩
theorem mt_99 {m : xD} {k : Nat} {v : Int32} (hk : k = 0 ∨ k = 34 ∨ k = 50 ∨ k = 51 ∨ k = 52 ∨ k = 53 ∨ k = 54 ∨ k = 55) : MT m (xu m.1 99 k v, m.2.1, m.2.2) := by
  refine ⟨rfl, fun j hj => ⟨xu_off (by omega), rfl⟩, fun j j1 _ _ => xu_off (by omega), fun j _ _ _ _ _ _ _ _ => ?_, fun s hs => ?_⟩
  · show xu m.1 99 k v 99 j = _; exact xu_at2 (by omega)
  · have e : vM s (xu m.1 99 k v) = vM s m.1 := vM_off (by omega)
    dsimp only
    rw [e]; exact ⟨fun _ _ => rfl, fun _ _ _ _ _ => rfl, fun _ _ => rfl⟩
/-- the scene that became another, against the slot that copied another -/
theorem sc_copy {nw nb nr tp : Nat} {G G' : Nat → Nat → Int32} {c c' m m' : xD} {q0 q1 to as : Nat} {W : Nat → Int32} (hs : SC nw nb nr 0 tp 0 (fun _ _ => True) True G (-1) (vC q1 c.1) (c.2.1 q1 3) (vM as m.1)) (hw : nw ≤ 6) (hb : nb ≤ 8) (hr : nr ≤ 12) (h50 : G' 99 50 = G 99 50) (hpa : ∀ i, i < nw → (if nI i = G' 99 51 then G' 99 52 else G' 108 i) = (if nI i = G 99 51 then G 99 52 else G 108 i)) (hG : ∀ k, 101 ≤ k → k ≤ 116 → G' k = G k) (hB : BC q0 q1 14 c c' W) (hW : ∀ k, (k = 0 ∨ k = 1 ∨ k = 2 ∨ k = 4 ∨ k = 14) → W k = c.1 q1 k) (hM : MC to as m m') : SC nw nb nr 0 tp 0 (fun _ _ => True) True G' (-1) (vC q0 c'.1) (c'.2.1 q0 3) (vM to m'.1) := by
  obtain ⟨v1, v2, v3⟩ := vM_mcto hM
  rw [hB.2.1, xu_at]
  refine sc_congr hs hw hb hr h50 hpa (fun z => by omega) hG (fun k hk => ?_) (fun j j1 j2 k hk => ?_) v1 v2 v3
  · show c'.1 q0 k = c.1 q1 k
    rw [hB.2.2.2.2]; exact hW k hk
  · exact hB.2.2.2.1 j (by omega) j1 k hk
theorem sc_tl {nw nb nr e tp tl a : Nat} {mt : Nat → Nat → Prop} {fl : Prop} {G : Nat → Nat → Int32} {xw : Int32} {X : Nat → Nat → Int32} {nu : Int64} {Y : Nat → Nat → Int32} (hs : SC nw nb nr e tp tl mt fl G xw X nu Y) (ha : a ≤ 99999) (hX : X 0 1 = nI a) : SC nw nb nr e tp a mt fl G xw X nu Y := by
  refine ⟨(sc_mi hs :), ?_, (sc_pi hs :), (sc_nu hs :), (sc_cw hs :), (sc_st hs :), (sc_sp hs :), (sc_dn hs :), (sc_pa hs :), (sc_lf hs :), (sc_la hs :), (sc_sa hs :), (sc_me hs :), (sc_se hs :), (sc_wo hs :), (sc_so hs :), (sc_sn hs :), (sc_e1 hs :), (sc_rc hs :), (sc_rr hs :), (sc_rt hs :), (sc_rz hs :), (sc_x0 hs :), (sc_x1 hs :)⟩
  obtain ⟨b, _, b2, b3, b4⟩ := sc_ta hs
  have e : b = a := (nI_eq (show b < 2 ^ 31 by omega) (show a < 2 ^ 31 by omega)).mp (b3.symm.trans hX)
  subst e
  exact ⟨b, Nat.le_refl b, b2, b3, b4⟩
theorem bcW {c : xD} {q0 q1 : Nat} : ∀ k, (k = 0 ∨ k = 1 ∨ k = 2 ∨ k = 4 ∨ k = 14) → (fun k => if k = 14 then c.1 q1 14 else if k = 4 then c.1 q1 4 else if k = 2 then c.1 q1 2 else if k = 1 then c.1 q1 1 else if k = 0 then c.1 q1 0 else c.1 q0 k) k = c.1 q1 k := by
  rintro k (z | z | z | z | z) <;> subst z <;> rfl
theorem tr_start {P nw nb nr tp : Nat} {c m : xD} (hq : RQ P nw nb nr tp c m) : ∃ tl c1 m1, f_X4_become shA 73 45 c = some c1 ∧ f_X10_copies shA 99 1 0 m = some m1 ∧ RS P 73 1 nw nb nr tp 0 tl (fun _ _ => True) True c1 m1 c1 m1 ∧ PA nw m1.1 ∧ m1.1 99 = m.1 99 ∧ CT P c c1 ∧ MT m m1 ∧ c1.1 73 1 = c.1 45 1 ∧ m1.1 121 0 = m.1 121 0 ∧ tl ≤ 99999 ∧ c.1 45 1 = nI tl ∧ m.1 121 0 = nI tl := by
  obtain ⟨c1, e1, hB⟩ := e_become (rq_rc hq) sc73 sc45 (by omega)
  obtain ⟨m1, e2, hM⟩ := e_copies (to := 1) (as := 0) (by omega) (by omega) (by omega) (rq_rm hq)
  have hw6 := pr_w6 (rq_pr hq); have hb8 := pr_b8 (rq_pr hq); have hr12 := pr_r12 (rq_pr hq)
  have hpr := isPl_le (pr_pl (rq_pr hq))
  have h99 : m1.1 99 = m.1 99 := hM.2.2.1 99 (by omega)
  have hG : ∀ k, 101 ≤ k → k ≤ 116 → m1.1 k = m.1 k := fun k k1 k2 => hM.2.2.1 k (by omega)
  have hp1 : PR P 0 nw nb nr tp c1.1 m1.1 := pr_congr (rq_pr hq) (fun j hj => hB.2.2.1 _ (by omega)) hG
  obtain ⟨tl, _, tl2, tl3, tl4⟩ := sc_ta (rq_sn hq)
  have tl3 : c.1 45 1 = nI tl := tl3
  have tl4 : m.1 121 0 = nI tl := by rw [← tl4]; exact rM_121
  refine ⟨tl, c1, m1, e1, e2, ⟨wf_refl ((rq_rc hq).same hB.1) ((rq_rm hq).same hM.1) sc73 (by omega) hp1, ?_⟩, ?_, h99, ct_bc hB, mt_mc hM, ?_, ?_, tl2, tl3, tl4⟩
  · rw [h99, rq_ew hq]
    refine sc_tl (tl := 0) (a := tl) ?_ tl2 (by show c1.1 73 1 = nI tl; rw [hB.2.2.2.2]; exact tl3)
    exact sc_copy (rq_sn hq) hw6 hb8 hr12 (by rw [h99]) (fun i _ => by rw [h99, hG 108 (by omega) (by omega)]) hG hB bcW hM
  · intro p hp
    rw [h99, hG 108 (by omega) (by omega)]
    exact rq_pa hq p hp
  · rw [hB.2.2.2.2]; rfl
  · exact hM.2.2.2.1 121 0 (by omega) (by omega) (by omega)
theorem rs_53 {P q s nw nb nr tp tl : Nat} {mt : Nat → Nat → Prop} {fl : Prop} {c0 m0 c m : xD} (h : RS P q s nw nb nr tp 0 tl mt fl c0 m0 c m) : m.1 99 53 = -1 := sc_x0 h.2 rfl
theorem cb0 {tw : Int32} (h : tw = 0) : CB 0 0 tw := Or.inr (Or.inl ⟨rfl, rfl, by rw [h]; decide⟩)
theorem g0R_10 {P : Nat} {c : xD} (h : RefOK c P) : xgR 9 shA c 0 10 = some 73 := gR_of sA_0 (rf_0_10 h)
theorem g0R_12 {P : Nat} {c : xD} (h : RefOK c P) : xgR 9 shA c 0 12 = some 87 := gR_of sA_0 (rf_0_12 h)
theorem g0R_4 {P : Nat} {c : xD} (h : RefOK c P) : xgR 9 shA c 0 4 = some P := gR_of sA_0 (rf_0_4 h)
theorem a6_ {p : Nat} : (6 : Int32) + nI p = nI (6 * 1 + p) := nI_add 6 p
theorem a8_ {p : Nat} : (8 : Int32) + nI p = nI (8 * 1 + p) := nI_add 8 p
theorem out_loop {P nw nb nr tp tl : Nat} {c0 m0 : xD} (hpa : PA nw m0.1) (h50 : m0.1 99 50 = 0) {p : Nat} (hpw : p < nw) : ∀ n k F1 F2 c m, k + n = 200 → n < F1 → n < F2 → RS P 73 1 nw nb nr tp 0 tl (fun _ _ => True) True c0 m0 c m → ∃ r c' m', xloop (fun _ _ _ _ => none) (b_X9_out_26 shA) F1 0 (nI p) (nI k) c = some (r, c') ∧ xloop (fun _ _ _ _ => none) (b_X10_out_23 shA) F2 99 (nI p) (nI k) m = some (r, m') ∧ RS P 73 1 nw nb nr tp 0 tl (fun _ _ => True) True c0 m0 c' m' := by
  intro n
  induction n with
  | zero =>
    intro k F1 F2 c m h1 h2 h3 hr
    obtain ⟨F1, rfl⟩ : ∃ G, F1 = G + 1 := ⟨F1 - 1, by omega⟩
    obtain ⟨F2, rfl⟩ : ∃ G, F2 = G + 1 := ⟨F2 - 1, by omega⟩
    have e : (199 : Int32) < nI k := nI_lt (a := 199) (by omega) (by omega)
    refine ⟨-2, c, m, ?_, ?_, hr⟩
    · rw [loop_s, b_X9_out_26, if_pos e]; rfl
    · rw [loop_s, b_X10_out_23, if_pos e]; rfl
  | succ n ih =>
    intro k F1 F2 c m h1 h2 h3 hr
    obtain ⟨F1, rfl⟩ : ∃ G, F1 = G + 1 := ⟨F1 - 1, by omega⟩
    obtain ⟨F2, rfl⟩ : ∃ G, F2 = G + 1 := ⟨F2 - 1, by omega⟩
    have e : ¬ (199 : Int32) < nI k := nI_nlt (b := k) (a := 199) (by omega) (by omega)
    have hr0 := hr
    obtain ⟨h, hs⟩ := hr
    have hRc := wf_rc h; have hRm := wf_rm h; have hq := wf_sq h; have hp := pr_pl (wf_pr h); have hs23 := wf_s23 h; have hqr := isSc_ge hq; have hpr := isPl_le hp; have hw6 := pr_w6 (wf_pr h); have hb8 := pr_b8 (wf_pr h); have hr12 := pr_r12 (wf_pr h); have ht2 := pr_t2 (wf_pr h); have ht60 := pr_t60 (wf_pr h)
    have a1 : c.1 (73 + 1) p = m.1 124 (6 * 1 + p) := sc_st hs p hpw
    rw [loop_s, loop_s, b_X9_out_26, b_X10_out_23, if_neg e, if_neg e, g0R_10 hRc, Option.bind_some, gR_of sA_73 (rs_5 hRc sc73), Option.bind_some, aI_of (ss_1 sc73) (by omega) (by omega), Option.bind_some, a1, gR_of sA_99 (rf_99_40 hRm), Option.bind_some, a6_, aI_of sA_124 (by omega) (by omega)]
    unfold k_X9_out_46 k_X10_out_43
    by_cases h3 : m.1 124 (6 * 1 + p) = 3
    · rw [Option.bind_some, if_pos h3, if_pos h3]
      exact ⟨_, c, m, rfl, rfl, hr0⟩
    · obtain ⟨c1, m1, k1, k2, k3⟩ := e_minute hr0 hpa (cb0 h50)
      have k2 : f_X10_passes shA 99 1 0 m = some m1 := k2
      simp only [Option.bind_some, if_neg h3, g0R_12 hRc, on_of sA_87, k1, on_of sA_99, k2, nI_1]
      exact ih (k + 1) F1 F2 c1 m1 (by omega) (by omega) (by omega) k3
theorem l2_out : L2_out Rel := by
  intro d a1 hd
  refine co_L2 (fC := f_X9_out shA 0 a1) (fM := f_X10_out shA 99 a1) (co_try hd ?_)
  intro P nw nb nr tp md m hm hq
  have hp := pr_pl (rq_pr hq)
  unfold f_X10_out
  rw [t0_e, ← hm]
  unfold f_X9_out
  rw [g0_4 hq, Option.bind_some, on_of (sp_0 hp), on_of sA_99]
  rcases e_hasW hq a1 with ⟨p, hpw, rfl, e1, e2⟩ | ⟨e1, e2⟩
  · obtain ⟨tl, c1, m1, k1, k2, k3, k4, k5, k6, k7, _⟩ := tr_start hq
    obtain ⟨r, c', m', j1, j2, j3⟩ := out_loop k4 (by rw [k5]; exact rq_tw hq) hpw 200 0 xF xF c1 m1 (by omega) (xF_big (by omega)) (xF_big (by omega)) k3
    refine ⟨r, c', m', ?_, ?_, k6.trans (ct_wf j3.1), k7.trans (mt_wf j3.1), ?_, ?_, rs_53 j3⟩
    · rw [e1, Option.bind_some]
      dsimp only
      rw [if_neg one_ne_zero32, g0_10 hq, Option.bind_some, g0_8 hq, Option.bind_some, on_of sA_73, k1, Option.bind_some]
      exact j1
    · rw [e2, Option.bind_some]
      dsimp only
      rw [if_neg one_ne_zero32, on_of sA_99, k2, Option.bind_some]
      exact j2
    · rw [wf_o9 j3.1 50 (by omega) (by omega), k5]; exact rq_tw hq
    · rw [wf_o9 j3.1 51 (by omega) (by omega), k5]; exact rq_po hq
  · refine ⟨-1, d, m, ?_, ?_, CT.refl, MT.refl, rq_tw hq, rq_po hq, rq_ew hq⟩
    · rw [e1]; rfl
    · rw [e2]; rfl

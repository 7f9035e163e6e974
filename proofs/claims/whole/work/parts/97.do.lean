/-! LEVEL 2: calls that change what is now: go, keep, back, sit, rise, push, undo -/
def DO {α : Type} (P nw nb nr tp : Nat) (d m : xD) (x y : Option (α × xD)) : Prop := ∃ r c' m', x = some (r, c') ∧ y = some (r, m') ∧ (c'.2.2 = d.2.2 ∧ ∀ k, 99 ≤ k → c'.1 k = d.1 k ∧ c'.2.1 k = d.2.1 k) ∧ (m'.2.2 = m.2.2 ∧ ∀ k, k < 99 → m'.1 k = m.1 k ∧ m'.2.1 k = m.2.1 k) ∧ RQ P nw nb nr tp c' m'
theorem do_same {α : Type} {P nw nb nr tp : Nat} {d m : xD} (hQ : RQ P nw nb nr tp d m) (r : α) : DO P nw nb nr tp d m (some (r, d)) (some (r, m)) := ⟨r, d, m, rfl, rfl, ⟨rfl, fun _ _ => ⟨rfl, rfl⟩⟩, ⟨rfl, fun _ _ => ⟨rfl, rfl⟩⟩, hQ⟩
theorem co_do {α : Type} {fC fM : xD → Option (α × xD)} {d : xD} (hd : Rel d) (h : ∀ P nw nb nr tp md m, m = t0 md → RQ P nw nb nr tp d m → DO P nw nb nr tp d m (fC d) (fM md)) : CO fC fM d := by
  intro md hm
  obtain ⟨P, nw, nb, nr, tp, hq⟩ := hd
  have hq2 := t0_rq (rq_md hq hm)
  obtain ⟨r, c', m', e1, e2, e3, ⟨f1, f2⟩, e5⟩ := h P nw nb nr tp md _ rfl hq2
  exact ⟨r, c', m', e1, e2, e3, ⟨f1, fun k hk => ⟨(f2 k hk).1.trans (t0_fr.2 k hk).1, (f2 k hk).2⟩⟩, P, nw, nb, nr, tp, e5⟩
theorem ve_wf {P q s nw nb nr tp : Nat} {c0 m0 c m : xD} (h : WF P q s nw nb nr tp c0 m0 c m) {s' : Nat} (hs : s' ≠ s) : VE (vM s' m.1) (vM s' m0.1) := by
  refine ⟨fun j hj => ?_, fun j p j1 j2 hp => ?_, fun b hb => ?_⟩
  · show m.1 (119 + j) (stj j * s' + 0) = m0.1 (119 + j) (stj j * s' + 0)
    have e : stj j = 1 := by unfold stj; rw [if_pos hj]
    rw [e]; exact wf_o1 h (119 + j) _ (by omega) (by omega) (by omega)
  · show m.1 (119 + j) (stj j * s' + p) = m0.1 (119 + j) (stj j * s' + p)
    have e : stj j = 6 := by unfold stj; rw [if_neg (by omega), if_pos j2]
    rw [e]; exact wf_o2 h (119 + j) _ (by omega) (by omega) (by omega)
  · show m.1 131 (8 * s' + b) = m0.1 131 (8 * s' + b)
    exact wf_o3 h _ (by omega)
/-- the scene that is now has changed; what may be undone is told anew -/
theorem rq_now {P nw nb nr tp tl : Nat} {c m c1 m1 c' m' : xD} (hQ : RQ P nw nb nr tp c m) (e1 : c1.2.2 = c.2.2) (e1L : c1.2.1 = c.2.1) (e2 : m1.2.2 = m.2.2) (e3 : ∀ k, k ≠ 89 → k ≠ 90 → k ≠ 91 → c1.1 k = c.1 k) (e4 : ∀ k, (k < 119 ∨ 132 ≤ k) → k ≠ 99 → m1.1 k = m.1 k) (e5 : ∀ k, k ≠ 49 → m1.1 99 k = m.1 99 k) (e6 : VE (vM 2 m1.1) (vM 2 m.1)) (hr : RS P 45 0 nw nb nr tp 0 tl (fun _ _ => True) True c1 m1 c' m') (hun : UN nw nb tp c'.1 m'.1) : RQ P nw nb nr tp c' m' := by
  have hr0 := hr
  obtain ⟨h, hs⟩ := hr
  have hRc := wf_rc h; have hRm := wf_rm h; have hq := wf_sq h; have hp := pr_pl (wf_pr h); have hs23 := wf_s23 h; have hqr := isSc_ge hq; have hpr := isPl_le hp; have hw6 := pr_w6 (wf_pr h); have hb8 := pr_b8 (wf_pr h); have hr12 := pr_r12 (wf_pr h); have ht2 := pr_t2 (wf_pr h); have ht60 := pr_t60 (wf_pr h)
  have m50 : m'.1 99 50 = 0 := by rw [wf_o9 h 50 (by omega) (by omega), e5 50 (by omega)]; exact rq_tw hQ
  have m51 : m'.1 99 51 = -1 := by rw [wf_o9 h 51 (by omega) (by omega), e5 51 (by omega)]; exact rq_po hQ
  have m151 : m1.1 99 51 = -1 := by rw [e5 51 (by omega)]; exact rq_po hQ
  have m53 : m'.1 99 53 = -1 := rs_53 hr0
  have hGm : ∀ k, 101 ≤ k → k ≤ 116 → m'.1 k = m1.1 k := fun k k1 k2 => wf_om h k (by omega) (by omega)
  have hGm2 : ∀ k, 101 ≤ k → k ≤ 116 → m'.1 k = m.1 k := fun k k1 k2 => (hGm k k1 k2).trans (e4 k (by omega) (by omega))
  have cw : ∀ k, (k < 45 ∨ 59 ≤ k) → k ≠ 89 → k ≠ 90 → k ≠ 91 → c'.1 k = c.1 k := fun k k1 k2 k3 k4 => (wf_oc h k (by omega)).trans (e3 k k2 k3 k4)
  refine rq_build hQ ((wf_ec h).trans e1) ((wf_em h).trans e2) (fun k k1 k2 k3 => cw k (by omega) (by omega) (by omega) (by omega)) (fun k k1 => by rw [cw 0 (by omega) (by omega) (by omega) (by omega)]) (fun k k1 k2 k3 => (wf_om h k (by omega) (by omega)).trans (e4 k (by omega) (by omega))) (fun k k0 k1 k2 k3 k4 k5 k6 k7 k8 k9 => (wf_o9 h k k1 k7).trans (e5 k k3)) m50 m51 m53 ?_ ?_ hun
  · rw [m53] at hs
    have hs0 := hs
    refine sc_ve (tl := 0) ?_ hw6 hb8 hr12 (by rw [m50, e5 50 (by omega)]; exact (rq_tw hQ).symm) m151 m51 rfl hGm (fun _ _ => rfl) (fun _ _ _ _ _ => rfl) VE.refl
    refine ⟨(sc_mi hs0 :), ?_, (sc_pi hs0 :), (sc_nu hs0 :), (sc_cw hs0 :), (sc_st hs0 :), (sc_sp hs0 :), (sc_dn hs0 :), (sc_pa hs0 :), (sc_lf hs0 :), (sc_la hs0 :), (sc_sa hs0 :), (sc_me hs0 :), (sc_se hs0 :), (sc_wo hs0 :), (sc_so hs0 :), (sc_sn hs0 :), (sc_e1 hs0 :), (sc_rc hs0 :), (sc_rr hs0 :), (sc_rt hs0 :), (sc_rz hs0 :), (sc_x0 hs0 :), (sc_x1 hs0 :)⟩
    obtain ⟨a, _, a2⟩ := sc_ta hs0
    exact ⟨a, Nat.zero_le a, a2⟩
  · rw [cw 0 (by omega) (by omega) (by omega) (by omega), wf_o9 h 48 (by omega) (by omega), e5 48 (by omega)]
    rcases rq_im hQ with z | ⟨z1, z2, z3⟩
    · exact Or.inl z
    · refine Or.inr ⟨z1, z2, ?_⟩
      rw [wf_lc h 59 (by omega) (by omega) (by omega), e1L]
      refine sc_ve z3 hw6 hb8 hr12 (by rw [m50]; exact (rq_tw hQ).symm) (rq_po hQ) m51 rfl hGm2 (fun k _ => ?_) (fun j j1 j2 k _ => ?_) ((ve_wf h (by omega)).trans e6)
      · show c'.1 59 k = c.1 59 k; rw [cw 59 (by omega) (by omega) (by omega) (by omega)]
      · show c'.1 (59 + j) k = c.1 (59 + j) k; rw [cw (59 + j) (by omega) (by omega) (by omega) (by omega)]
theorem fr_c {P s nw nb nr tp : Nat} {c0 m0 c m : xD} (h : WF P 45 s nw nb nr tp c0 m0 c m) (hp : P ≤ 21) : c.2.2 = c0.2.2 ∧ ∀ k, 99 ≤ k → c.1 k = c0.1 k ∧ c.2.1 k = c0.2.1 k :=
  ⟨wf_ec h, fun k hk => ⟨wf_oc h k (by omega), wf_lc h k (by omega) (by omega) (by omega)⟩⟩
theorem fr_m {P q s nw nb nr tp : Nat} {c0 m0 c m : xD} (h : WF P q s nw nb nr tp c0 m0 c m) : m.2.2 = m0.2.2 ∧ ∀ k, k < 99 → m.1 k = m0.1 k ∧ m.2.1 k = m0.2.1 k :=
  ⟨wf_em h, fun k hk => ⟨wf_om h k (by omega) (by omega), wf_lm h k (by omega) (by omega)⟩⟩
theorem goM_loop : ∀ n i F m N m', i + n = N → N < 2 ^ 31 → n < F → itM 0 1 n m = some m' → xloop (fun _ _ _ _ => none) (b_X10_go_43 shA) F 99 (nI N) (nI i) m = k_X10_go_60 shA 99 m' := by
  intro n
  induction n with
  | zero =>
    intro i F m N m' h1 h2 h3 h4
    obtain ⟨F, rfl⟩ : ∃ G, F = G + 1 := ⟨F - 1, by omega⟩
    have h4 : some m = some m' := h4
    rw [← Option.some.inj h4, loop_s, b_X10_go_43, if_pos (nI_le (by omega) (by omega))]
  | succ n ih =>
    intro i F m N m' h1 h2 h3 h4
    obtain ⟨F, rfl⟩ : ∃ G, F = G + 1 := ⟨F - 1, by omega⟩
    rw [itM] at h4
    obtain ⟨c1, k1, k2⟩ := x_ob h4
    have k1 : f_X10_passes shA 99 0 1 m = some c1 := k1
    rw [loop_s, b_X10_go_43, if_neg (nI_ge (by omega) (by omega)), on_of sA_99, k1, Option.bind_some, nI_1]
    exact ih (i + 1) F c1 N m' (by omega) h2 (by omega) k2
theorem g0R_8 {P : Nat} {c : xD} (h : RefOK c P) : xgR 9 shA c 0 8 = some 45 := gR_of sA_0 (rf_0_8 h)
theorem g0R_13 {P : Nat} {c : xD} (h : RefOK c P) : xgR 9 shA c 0 13 = some 89 := gR_of sA_0 (rf_0_13 h)
theorem go_core {P nw nb nr tp n : Nat} {d m : xD} (hQ : RQ P nw nb nr tp d m) (hn : n ≤ 200) (hu : n = 0 ∨ (d.1 89 0 = 0 ∧ m.1 99 49 = 0)) : DO P nw nb nr tp d m (k_X9_go_39 shA 0 (nI n) d) (k_X10_go_41 shA 99 (nI n) m) := by
  have hpr := isPl_le (pr_pl (rq_pr hQ))
  obtain ⟨c', m', j1, j2, j3⟩ := e_its (rq_pa hQ) (cl := 2) (bn := 1) (Or.inr (Or.inr ⟨rfl, rfl, by rw [rq_tw hQ]; decide⟩)) n d m (rq_rs hQ)
  have i1 := e_talkMore sc45 (show n < 1000 by omega) j1
  have i2 := goM_loop n 0 xF m n m' (by omega) (by omega) (xF_big (by omega)) j2
  rw [nI_0] at i2
  have hRc' := wf_rc j3.1
  have hRm' := wf_rm j3.1
  have mi : c'.1 45 0 = m'.1 119 0 := (sc_mi j3.2).trans rM_119.symm
  have hQ' : RQ P nw nb nr tp c' m' := by
    rcases Nat.eq_zero_or_pos n with n0 | npos
    · subst n0
      have a1 : some d = some c' := j1
      have a2 : some m = some m' := j2
      rw [← Option.some.inj a1, ← Option.some.inj a2]; exact hQ
    · have hu' : d.1 89 0 = 0 ∧ m.1 99 49 = 0 := hu.elim (fun z => by omega) id
      refine rq_now hQ rfl rfl rfl (fun _ _ _ _ => rfl) (fun _ _ _ => rfl) (fun _ _ => rfl) VE.refl j3 ⟨0, by omega, ?_, ?_, fun k hk => by omega⟩
      · rw [wf_oc j3.1 89 (by omega)]; exact hu'.1
      · rw [wf_o9 j3.1 49 (by omega) (by omega)]; exact hu'.2
  refine ⟨c'.1 45 0, c', m', ?_, ?_, fr_c j3.1 (by omega), fr_m j3.1, hQ'⟩
  · unfold k_X9_go_39
    rw [g0_12 hQ, Option.bind_some, g0_8 hQ, Option.bind_some, on_of sA_87, i1, Option.bind_some]
    dsimp only
    rw [g0R_8 hRc', Option.bind_some, gI_of sA_45]; rfl
  · unfold k_X10_go_41
    rw [i2]
    unfold k_X10_go_60
    rw [gR_of sA_99 (rf_99_35 hRm'), Option.bind_some, a0_1, mi]; rfl
theorem rq_clear {P nw nb nr tp : Nat} {d m : xD} (hQ : RQ P nw nb nr tp d m) : RQ P nw nb nr tp (xu d.1 89 0 0, d.2.1, d.2.2) (xu m.1 99 49 0, m.2.1, m.2.2) := by
  have hr0 := rq_rs hQ
  have hpr := isPl_le (pr_pl (rq_pr hQ))
  have hw6 := pr_w6 (rq_pr hQ); have hb8 := pr_b8 (rq_pr hQ); have hr12 := pr_r12 (rq_pr hQ)
  have v : ∀ s, vM s (xu m.1 99 49 0) = vM s m.1 := fun s => vM_off (by omega)
  refine rq_build hQ rfl rfl (fun k k1 _ _ => xu_off (by omega)) (fun k _ => by dsimp only; rw [xu_cell (by omega)]) (fun k k1 _ _ => xu_off (by omega)) (fun k _ _ _ k3 _ _ _ _ _ _ => by dsimp only; rw [xu_at2 k3]) (by dsimp only; rw [xu_at2 (by omega)]; exact rq_tw hQ) (by dsimp only; rw [xu_at2 (by omega)]; exact rq_po hQ) (by dsimp only; rw [xu_at2 (by omega)]; exact rq_ew hQ) ?_ ?_ ⟨0, by omega, by dsimp only; rw [xu_at]; rfl, by dsimp only; rw [xu_at]; rfl, fun k hk => by omega⟩
  · dsimp only
    rw [v]
    exact sc_ve (rq_sn hQ) hw6 hb8 hr12 (xu_at2 (by omega)) (rq_po hQ) ((xu_at2 (by omega)).trans (rq_po hQ)) rfl (fun k k1 k2 => xu_off (by omega)) (fun k _ => by show xu d.1 89 0 0 45 k = d.1 45 k; exact xu_cell (by omega)) (fun j j1 j2 k _ => by show xu d.1 89 0 0 (45 + j) k = d.1 (45 + j) k; exact xu_cell (by omega)) VE.refl
  · dsimp only
    rw [xu_cell (by omega), xu_at2 (by omega), v]
    rcases rq_im hQ with z | ⟨z1, z2, z3⟩
    · exact Or.inl z
    · exact Or.inr ⟨z1, z2, sc_ve z3 hw6 hb8 hr12 (xu_at2 (by omega)) (rq_po hQ) ((xu_at2 (by omega)).trans (rq_po hQ)) rfl (fun k k1 k2 => xu_off (by omega)) (fun k _ => by show xu d.1 89 0 0 59 k = d.1 59 k; exact xu_cell (by omega)) (fun j j1 j2 k _ => by show xu d.1 89 0 0 (59 + j) k = d.1 (59 + j) k; exact xu_cell (by omega)) VE.refl⟩
theorem l2_go : L2_go Rel := by
  intro d a1 hd
  refine co_L2 (fC := f_X9_go shA 0 a1) (fM := f_X10_go shA 99 a1) (co_do hd ?_)
  intro P nw nb nr tp md m hm hQ
  have mi : d.1 45 0 = m.1 119 0 := (sc_mi (rq_sn hQ)).trans rM_119.symm
  unfold f_X10_go
  rw [t0_e, ← hm]
  unfold f_X9_go k_X9_go_26 k_X10_go_30
  by_cases c0 : a1 < 0
  · rw [if_pos c0, if_pos c0]; exact do_same hQ _
  rw [if_neg c0, if_neg c0]
  by_cases c1 : 200 < a1
  · rw [if_pos c1, if_pos c1]; exact do_same hQ _
  rw [if_neg c1, if_neg c1, g0_8 hQ, Option.bind_some, gI_of sA_45, Option.bind_some, mi, gR_of sA_99 (rf_99_35 (rq_rm hQ)), Option.bind_some, a0_1, Option.bind_some]
  by_cases c2 : m.1 119 0 + a1 ≤ 9800
  · rw [if_pos c2, if_pos c2]
    obtain ⟨n, hn, rfl⟩ := nI_of2 (n := 200) (by decide) c0 (Int32.not_lt.mp c1)
    by_cases c3 : nI n ≤ 0
    · have n0 : n = 0 := by
        rcases Nat.eq_zero_or_pos n with z | z
        · exact z
        · exact absurd c3 (nI_nle z (by omega))
      rw [if_pos c3, if_pos c3]
      exact go_core hQ hn (Or.inl n0)
    · rw [if_neg c3, if_neg c3, g0_13 hQ, Option.bind_some, on_of sA_89]
      unfold f_X8_clear
      rw [pU_0, Option.bind_some, Option.bind_some, pM_49, Option.bind_some]
      obtain ⟨r, c', m', e1, e2, ⟨e3, e4⟩, ⟨f1, f2⟩, e5⟩ := go_core (rq_clear hQ) hn (Or.inr ⟨by dsimp only; rw [xu_at], by dsimp only; rw [xu_at]⟩)
      exact ⟨r, c', m', e1, e2, ⟨e3, fun k hk => ⟨(e4 k hk).1.trans (xu_off (by omega)), (e4 k hk).2⟩⟩, ⟨f1, fun k hk => ⟨(f2 k hk).1.trans (xu_off (by omega)), (f2 k hk).2⟩⟩, e5⟩
  · rw [if_neg c2, if_neg c2]; exact do_same hQ _

/-! LEVEL 2: chance, best -/
theorem rq_try {P nw nb nr tp : Nat} {d m c' m' : xD} (hQ : RQ P nw nb nr tp d m) (hc : CT P d c') (hm : MT m m') (g1 : m'.1 99 50 = 0) (g2 : m'.1 99 51 = -1) (g3 : m'.1 99 53 = -1) : RQ P nw nb nr tp c' m' := by
  obtain ⟨a1, a2, a3⟩ := hc
  obtain ⟨b1, b2, b3, b4, b5⟩ := hm
  exact rl_frame hQ ⟨a1, fun k k1 k2 => a2 k k2 (by omega), fun k _ k2 k3 k4 => a3 k k2 k3 k4⟩ ⟨b1, fun k k1 k2 k3 => b3 k k1 k3 (by omega), b4, g1, g2, g3, b5⟩
theorem TY.pre {α : Type} {P : Nat} {d m c m1 : xD} {x y : Option (α × xD)} (hc : CT P d c) (hm : MT m m1) (h : TY P c m1 x y) : TY P d m x y := by
  obtain ⟨r, c', m', e1, e2, e3, e4, e5⟩ := h
  exact ⟨r, c', m', e1, e2, hc.trans e3, hm.trans e4, e5⟩
theorem chM_loop {RC : Nat → Int32 → Int32 → Int32 → Int32 → Int32 → xD → Option (Int32 × xD)} {x3 x5 x6 : Int32} : ∀ n i F m N m', i + n = N → N < 2 ^ 31 → n < F → itM 1 1 n m = some m' → xloop (fun _ _ _ _ _ _ _ => none) (b_X10_chance_66 shA RC) F 99 (nI N) x3 x5 x6 (nI i) m = k_X10_chance_84 shA RC 99 (nI N) x3 x5 x6 m' := by
  intro n
  induction n with
  | zero =>
    intro i F m N m' h1 h2 h3 h4
    obtain ⟨F, rfl⟩ : ∃ G, F = G + 1 := ⟨F - 1, by omega⟩
    have h4 : some m = some m' := h4
    rw [← Option.some.inj h4, loop_s, b_X10_chance_66, if_pos (nI_le (by omega) (by omega))]
  | succ n ih =>
    intro i F m N m' h1 h2 h3 h4
    obtain ⟨F, rfl⟩ : ∃ G, F = G + 1 := ⟨F - 1, by omega⟩
    rw [itM] at h4
    obtain ⟨c1, k1, k2⟩ := x_ob h4
    have k1 : f_X10_passes shA 99 1 1 m = some c1 := k1
    rw [loop_s, b_X10_chance_66, if_neg (nI_ge (by omega) (by omega)), on_of sA_99, k1, Option.bind_some, nI_1]
    exact ih (i + 1) F c1 N m' (by omega) h2 (by omega) k2
theorem a1_2 {d : xD} : xaI .int shA d 120 (1 : Int32) = some (d.1 120 1) := aI_of (i := 1) sA_120 (by decide) (by decide)
theorem s1_2 {d : xD} {v : Int32} : xsI .int shA d 120 (1 : Int32) v = some (xu d.1 120 1 v, d.2.1, d.2.2) := sI_of (i := 1) sA_120 (by decide) (by decide)
theorem chance_loop {P nw nb nr tp N : Nat} (hN : N ≤ 99) {x3 : Int32} : ∀ n r F1 F2 c m a (ct : Int32), r + n = 10 → n < F1 → n < F2 → a < 2 ^ 31 → RQ P nw nb nr tp c m → TY P c m (xloop (fun _ _ _ _ _ _ _ => none) (b_X9_chance_38 shA) F1 0 (nI N) x3 (lN a) ct (nI r) c) (xloop (fun _ _ _ _ _ _ _ => none) (b_X10_chance_42 shA) F2 99 (nI N) x3 (nI a) ct (nI r) m) := by
  intro n
  induction n with
  | zero =>
    intro r F1 F2 c m a ct h1 h2 h3 ha hQ
    obtain ⟨F1, rfl⟩ : ∃ G, F1 = G + 1 := ⟨F1 - 1, by omega⟩
    obtain ⟨F2, rfl⟩ : ∃ G, F2 = G + 1 := ⟨F2 - 1, by omega⟩
    have e : (10 : Int32) ≤ nI r := nI_le (a := 10) (by omega) (by omega)
    rw [loop_s, loop_s, b_X9_chance_38, b_X10_chance_42, if_pos e, if_pos e]
    exact ty_same hQ _
  | succ n ih =>
    intro r F1 F2 c m a ct h1 h2 h3 ha hQ
    obtain ⟨F1, rfl⟩ : ∃ G, F1 = G + 1 := ⟨F1 - 1, by omega⟩
    obtain ⟨F2, rfl⟩ : ∃ G, F2 = G + 1 := ⟨F2 - 1, by omega⟩
    have e : ¬ (10 : Int32) ≤ nI r := nI_ge (b := 10) (by omega) (by omega)
    obtain ⟨tl, c1, m1, k1, k2, k3, k4, k5, k6, k7, k8, k9, k10, k11, k12⟩ := tr_start hQ
    have t50 : m1.1 99 50 = 0 := by rw [k5]; exact rq_tw hQ
    have hr2 : RS P 73 1 nw nb nr tp 0 tl (fun _ _ => True) True (c1.1, xu c1.2.1 73 3 (lN a), c1.2.2) (xu m1.1 120 1 (nI a), m1.2.1, m1.2.2) (c1.1, xu c1.2.1 73 3 (lN a), c1.2.2) (xu m1.1 120 1 (nI a), m1.2.1, m1.2.2) := by
      obtain ⟨h, hs⟩ := k3
      refine ⟨wf_refl ((wf_rc h).same rfl) ((wf_rm h).same rfl) sc73 (by omega) (pr_same (wf_pr h) (fun _ _ => rfl) (fun j j1 j2 => xu_off (by omega))), ?_⟩
      show SC nw nb nr 0 tp tl (fun _ _ => True) True (xu m1.1 120 1 (nI a)) (xu m1.1 120 1 (nI a) 99 53) (vC 73 c1.1) (xu c1.2.1 73 3 (lN a) 73 3) (vM 1 (xu m1.1 120 1 (nI a)))
      rw [xu_cell (by omega), xu_at, vM_120]
      have hs' := sc_nu' hs ha
      exact sc_tw hs' rfl (fun i _ => by rw [xu_cell (by omega), xu_cell (by omega), xu_cell (by omega)]) (fun k k1 k2 => xu_off (by omega)) (fun _ _ _ => rfl) (fun b hb => by rw [xu_cell (by omega)]; exact sc_se hs' b hb) (fun r hr => by rw [xu_cell (by omega)]; exact sc_rt hs' r hr)
    have hpa2 : PA nw (xu m1.1 120 1 (nI a)) := by
      intro p hp
      rw [xu_cell (by omega), xu_cell (by omega), xu_cell (by omega)]; exact k4 p hp
    obtain ⟨c', m', j1, j2, j3⟩ := e_its (m0 := (xu m1.1 120 1 (nI a), m1.2.1, m1.2.2)) hpa2 (cl := 2) (bn := 1) (Or.inr (Or.inr ⟨rfl, rfl, by show xu m1.1 120 1 (nI a) 99 50 ≠ 1; rw [xu_cell (by omega), t50]; decide⟩)) N _ _ hr2
    have i1 := e_talkMore sc73 (show N < 1000 by omega) j1
    obtain ⟨T, t1, t2, t3, t4, t5⟩ := rs_talk j3
    obtain ⟨a', na, nb', nc⟩ := sc_nu j3.2
    have nb' : m'.1 120 1 = nI a' := by rw [← nb']; exact rM_120
    have hRc1 := wf_rc k3.1
    have hRm1 := wf_rm k3.1
    have hRc' := wf_rc j3.1
    have hRm' := wf_rm j3.1
    have ct1 : CT P c1 (c1.1, xu c1.2.1 73 3 (lN a), c1.2.2) := ⟨rfl, fun _ _ _ => rfl, fun k k1 _ _ => by dsimp only; rw [xu_off k1]⟩
    have ctx : CT P c c' := k6.trans (ct1.trans (ct_wf j3.1))
    have w1 : WF P 73 1 nw nb nr tp c1 m1 c1 (xu m1.1 120 1 (nI a), m1.2.1, m1.2.2) := wf_m1 k3.1 (by omega) (by omega)
    have mtx : MT m m' := k7.trans ((mt_wf w1).trans (mt_wf j3.1))
    have g50 : m'.1 99 50 = 0 := by rw [wf_o9 j3.1 50 (by omega) (by omega)]; dsimp only; rw [xu_cell (by omega)]; exact t50
    have g51 : m'.1 99 51 = -1 := by rw [wf_o9 j3.1 51 (by omega) (by omega)]; dsimp only; rw [xu_cell (by omega), k5]; exact rq_po hQ
    have hQ' := rq_try hQ ctx mtx g50 g51 (rs_53 j3)
    have e0 : ∀ v : Int64, xpL 4 shA c1 73 3 v = some (c1.1, xu c1.2.1 73 3 v, c1.2.2) := fun v => pS_L sc73
    have t5' : m'.1 121 0 = nI tl := by rw [t5]; dsimp only; rw [xu_cell (by omega), k9]; exact k12
    have hb := chM_loop (RC := xloop (fun _ _ _ _ _ _ _ => none) (b_X10_chance_42 shA) F2) (x3 := x3) (x5 := ct) (x6 := nI r) N 0 xF _ N m' (by omega) (by omega) (xF_big (by omega)) j2
    rw [nI_0] at hb
    have hC : xloop (fun _ _ _ _ _ _ _ => none) (b_X9_chance_38 shA) (F1 + 1) 0 (nI N) x3 (lN a) ct (nI r) c = xloop (fun _ _ _ _ _ _ _ => none) (b_X9_chance_38 shA) F1 0 (nI N) x3 (lN a') (if nI T - nI tl < x3 then ct else ct + 1) (nI (r + 1)) c' := by
      have g3 : xgR 9 shA (c1.1, xu c1.2.1 73 3 (lN a), c1.2.2) 0 12 = some 87 := gR_of sA_0 (rf_0_12 hRc1)
      have g4 : xgR 9 shA (c1.1, xu c1.2.1 73 3 (lN a), c1.2.2) 0 10 = some 73 := gR_of sA_0 (rf_0_10 hRc1)
      rw [loop_s, b_X9_chance_38, if_neg e, g0_10 hQ, Option.bind_some, g0_8 hQ, Option.bind_some, on_of sA_73, k1, Option.bind_some, g0R_10 hRc1, Option.bind_some, e0, Option.bind_some, g3, Option.bind_some, g4, Option.bind_some, on_of sA_87, i1, Option.bind_some]
      dsimp only
      unfold k_X9_chance_85
      simp only [g0R_10 hRc', Option.bind_some, gL_of sA_73, nI_1, nc, t3, k8, k11]
      by_cases z : nI T - nI tl < x3
      · rw [if_pos z, if_pos z]
      · rw [if_neg z, if_neg z]
    have hM : xloop (fun _ _ _ _ _ _ _ => none) (b_X10_chance_42 shA) (F2 + 1) 99 (nI N) x3 (nI a) ct (nI r) m = xloop (fun _ _ _ _ _ _ _ => none) (b_X10_chance_42 shA) F2 99 (nI N) x3 (nI a') (if nI T - nI tl < x3 then ct else ct + 1) (nI (r + 1)) m' := by
      rw [loop_s, b_X10_chance_42, if_neg e, on_of sA_99, k2, Option.bind_some, gR_of sA_99 (rf_99_36 hRm1), Option.bind_some, s1_2, Option.bind_some, hb]
      unfold k_X10_chance_84 k_X10_chance_116
      simp only [gR_of sA_99 (rf_99_36 hRm'), gR_of sA_99 (rf_99_37 hRm'), Option.bind_some, a1_2, a1_3, a0_3, nb', t4, t5', nI_1, Int32.add_zero]
      by_cases z : nI T - nI tl < x3
      · rw [if_pos z, if_pos z]
      · rw [if_neg z, if_neg z]
    rw [hC, hM]
    exact TY.pre ctx mtx (ih (r + 1) F1 F2 c' m' a' _ (by omega) (by omega) (by omega) na hQ')
theorem l2_chance : L2_chance Rel := by
  intro d a1 a2 a3 hd
  refine co_L2 (fC := f_X9_chance shA 0 a1 a2 a3) (fM := f_X10_chance shA 99 a1 a2 a3) (co_ty hd ?_)
  intro P nw nb nr tp md m hm hQ
  unfold f_X10_chance
  rw [t0_e, ← hm]
  unfold f_X9_chance k_X9_chance_26 k_X10_chance_31
  by_cases c0 : a1 < 0
  · rw [if_pos c0, if_pos c0]; exact ty_same hQ _
  rw [if_neg c0, if_neg c0]
  by_cases c1 : a2 < 1
  · rw [if_pos c1, if_pos c1]; exact ty_same hQ _
  rw [if_neg c1, if_neg c1]
  by_cases c2 : 99 < a2
  · rw [if_pos c2, if_pos c2]; exact ty_same hQ _
  rw [if_neg c2, if_neg c2]
  by_cases c3 : a3 < 0
  · rw [if_pos c3, if_pos c3]; exact ty_same hQ _
  rw [if_neg c3, if_neg c3]
  by_cases c4 : a3 ≤ 9999
  · rw [if_pos c4, if_pos c4]
    obtain ⟨a, ha, rfl⟩ := nI_of c0
    have c1' : ¬ a2 < 0 := fun z => c1 (Int32.lt_trans z (by decide))
    obtain ⟨N, hN, rfl⟩ := nI_of2 (n := 99) (by decide) c1' (Int32.not_lt.mp c2)
    have z := chance_loop hN (x3 := a3) 10 0 xF xF d m a 0 (by omega) (xF_big (by omega)) (xF_big (by omega)) ha hQ
    rw [nI_0] at z
    rw [nI_l ha]
    exact z
  · rw [if_neg c4, if_neg c4]; exact ty_same hQ _
theorem e_addRest {c : xD} {P q r : Nat} (hRc : RefOK c P) (hq : isSc q) (hr : c.1 q 14 = nI r) (hr2 : r ≤ 12) (x1 x2 x3 : Int32) : f_X4_addRest shA q x1 x2 x3 c = some (xu (xu (xu (xu (xu c.1 (q + 10) r x1) (q + 11) r x2) (q + 12) r x3) (q + 13) r 0) q 14 (nI (r + 1)), c.2.1, c.2.2) := by
  have hqr := isSc_ge hq
  have h12 : nI r ≤ (12 : Int32) := nI_le (b := 12) hr2 (by omega)
  unfold f_X4_addRest
  rw [gI_of (ss_0 hq), Option.bind_some, hr, if_pos h12]
  simp (disch := omega) only [xgR, xgI, ss_0 hq, rs_15 hRc hq, rs_16 hRc hq, rs_17 hRc hq, rs_18 hRc hq, ↓reduceIte, Option.bind_some, hr, sI_of (ss_10 hq), sI_of (ss_11 hq), sI_of (ss_12 hq), sI_of (ss_13 hq), xu_cell, pS_14 hq, nI_1]
theorem sc_extra {nw nb nr tp tl : Nat} {mt : Nat → Nat → Prop} {fl : Prop} {G : Nat → Nat → Int32} {X : Nat → Nat → Int32} {nu : Int64} {Y : Nat → Nat → Int32} (hs : SC nw nb nr 0 tp tl mt fl G (-1) X nu Y) {w b : Int32} {k : Nat} (h1 : 1 ≤ k) (h2 : k ≤ 30) (h54 : G 99 54 = b) (h55 : G 99 55 = nI k) : SC nw nb nr 1 tp tl mt fl G w (xu (xu (xu (xu (xu X 10 nr w) 11 nr b) 12 nr (nI k)) 13 nr 0) 0 14 (nI (nr + 1))) nu Y := by
  refine ⟨(sc_mi hs :), (sc_ta hs :), (sc_pi hs :), (sc_nu hs :), (sc_cw hs :), (sc_st hs :), (sc_sp hs :), (sc_dn hs :), (sc_pa hs :), (sc_lf hs :), (sc_la hs :), (sc_sa hs :), (sc_me hs :), (sc_se hs :), (sc_wo hs :), (sc_so hs :), (sc_sn hs :), ?_, ?_, ?_, ?_, (sc_rz hs :), ?_, ?_⟩
  · omega
  · rw [xu_is, if_pos rfl]
  · intro r hr
    obtain ⟨z1, z2, z3⟩ := sc_rr hs r hr
    refine ⟨?_, ?_, ?_⟩
    · show xu X 10 nr w 10 r = _; rw [xu_is, if_neg (by omega)]; exact z1
    · show xu (xu X 10 nr w) 11 nr b 11 r = _; rw [xu_is, if_neg (by omega)]; exact z2
    · show xu (xu (xu X 10 nr w) 11 nr b) 12 nr (nI k) 12 r = _; rw [xu_is, if_neg (by omega)]; exact z3
  · intro r hr
    show xu (xu (xu (xu X 10 nr w) 11 nr b) 12 nr (nI k)) 13 nr 0 13 r = _
    rw [xu_is, if_neg (by omega)]; exact sc_rt hs r hr
  · intro z; omega
  · intro _
    have z10 : xu (xu (xu (xu (xu X 10 nr w) 11 nr b) 12 nr (nI k)) 13 nr 0) 0 14 (nI (nr + 1)) 10 nr = w := by
      show xu X 10 nr w 10 nr = _; rw [xu_is, if_pos rfl]
    have z11 : xu (xu (xu (xu (xu X 10 nr w) 11 nr b) 12 nr (nI k)) 13 nr 0) 0 14 (nI (nr + 1)) 11 nr = b := by
      show xu (xu X 10 nr w) 11 nr b 11 nr = _; rw [xu_is, if_pos rfl]
    have z12 : xu (xu (xu (xu (xu X 10 nr w) 11 nr b) 12 nr (nI k)) 13 nr 0) 0 14 (nI (nr + 1)) 12 nr = nI k := by
      show xu (xu (xu X 10 nr w) 11 nr b) 12 nr (nI k) 12 nr = _; rw [xu_is, if_pos rfl]
    have z13 : xu (xu (xu (xu (xu X 10 nr w) 11 nr b) 12 nr (nI k)) 13 nr 0) 0 14 (nI (nr + 1)) 13 nr = 0 := by
      show xu (xu (xu (xu X 10 nr w) 11 nr b) 12 nr (nI k)) 13 nr 0 13 nr = _; rw [xu_is, if_pos rfl]
    rw [z10, z11, z12, z13]
    exact Or.inl ⟨rfl, rfl, h54, h55, k, h1, h2, rfl⟩
/-- the reference's state with no extra rest -/
def mR (m : xD) : xD := (xu m.1 99 53 (-1), m.2.1, m.2.2)
theorem best_step {P nw nb nr tp p b k : Nat} {c m : xD} (hQ : RQ P nw nb nr tp c (mR m)) (hpw : p < nw) (hb : b < nb) (hk : k ≤ 30) : ∃ tl T c1 c2 c' m', tl ≤ T ∧ T ≤ 99999 ∧ f_X4_become shA 73 45 c = some c1 ∧ RefOK c1 P ∧ (if nI k ≤ (0 : Int32) then some c1 else f_X4_addRest shA 73 (nI p) (nI b) (nI k) c1) = some c2 ∧ RefOK c2 P ∧ f_X2_talkMore shA 87 73 60 0 c2 = some (nI T - nI tl, c') ∧ f_X10_runs shA 99 60 (xu (xu (xu m.1 99 53 (if k = 0 then -1 else nI p)) 99 54 (nI b)) 99 55 (nI k), m.2.1, m.2.2) = some m' ∧ m'.1 121 1 = nI T ∧ m'.1 121 0 = nI tl ∧ RefOK m' P ∧ CT P c c' ∧ MT (mR m) (mR m') ∧ m'.1 99 50 = 0 ∧ m'.1 99 51 = -1 := by
  have hw6 := pr_w6 (rq_pr hQ); have hb8 := pr_b8 (rq_pr hQ); have hr12 := pr_r12 (rq_pr hQ)
  obtain ⟨w, hw⟩ : ∃ w, w = (if k = 0 then (-1 : Int32) else nI p) := ⟨_, rfl⟩
  rw [← hw]
  generalize hm2 : ((xu (xu (xu m.1 99 53 w) 99 54 (nI b)) 99 55 (nI k), m.2.1, m.2.2) : xD) = m2
  have n1 : ∀ j, j ≠ 99 → m2.1 j = m.1 j := by intro j hj; rw [← hm2]; dsimp only; rw [xu_off hj, xu_off hj, xu_off hj]
  have n2 : ∀ j, j ≠ 53 → j ≠ 54 → j ≠ 55 → m2.1 99 j = m.1 99 j := by intro j j1 j2 j3; rw [← hm2]; dsimp only; rw [xu_at2 j3, xu_at2 j2, xu_at2 j1]
  have n53 : m2.1 99 53 = w := by rw [← hm2]; dsimp only; rw [xu_at2 (by omega), xu_at2 (by omega), xu_at]
  have n54 : m2.1 99 54 = nI b := by rw [← hm2]; dsimp only; rw [xu_at2 (by omega), xu_at]
  have n55 : m2.1 99 55 = nI k := by rw [← hm2]; dsimp only; rw [xu_at]
  have r1 : ∀ j, j ≠ 99 → (mR m).1 j = m.1 j := fun j hj => xu_off hj
  have r2 : ∀ j, j ≠ 53 → (mR m).1 99 j = m.1 99 j := fun j hj => by show xu m.1 99 53 (-1) 99 j = _; exact xu_at2 hj
  have hR2 : RefOK m2 P := by rw [← hm2]; exact (rq_rm hQ).same rfl
  have mt2 : MT (mR m) m2 := by
    have z := ((mt_99 (m := mR m) (k := 53) (v := w) (by omega)).trans (mt_99 (k := 54) (v := nI b) (by omega))).trans (mt_99 (k := 55) (v := nI k) (by omega))
    rw [← hm2]
    unfold mR at z ⊢
    dsimp only at z
    rw [xu_xu] at z
    exact z
  obtain ⟨c1, e1, hB⟩ := e_become (rq_rc hQ) sc73 sc45 (by omega)
  obtain ⟨m3, e2, hM⟩ := e_copies (to := 1) (as := 0) (by omega) (by omega) (by omega) hR2
  have h99 : m3.1 99 = m2.1 99 := hM.2.2.1 99 (by omega)
  have hG : ∀ j, 101 ≤ j → j ≤ 116 → m3.1 j = (mR m).1 j := fun j j1 j2 => by rw [hM.2.2.1 j (by omega), n1 j (by omega), r1 j (by omega)]
  have hpr := isPl_le (pr_pl (rq_pr hQ))
  have hp1 : PR P 0 nw nb nr tp c1.1 m3.1 := pr_congr (rq_pr hQ) (fun j hj => hB.2.2.1 _ (by omega)) hG
  have t50 : m3.1 99 50 = 0 := by rw [h99, n2 50 (by omega) (by omega) (by omega), ← r2 50 (by omega)]; exact rq_tw hQ
  have t51 : m3.1 99 51 = -1 := by rw [h99, n2 51 (by omega) (by omega) (by omega), ← r2 51 (by omega)]; exact rq_po hQ
  obtain ⟨tl, _, tl2, tl3, tl4⟩ := sc_ta (rq_sn hQ)
  have tl3 : c.1 45 1 = nI tl := tl3
  have tl4 : m.1 121 0 = nI tl := by rw [← r1 121 (by omega), ← tl4]; exact rM_121
  have hs0 : SC nw nb nr 0 tp 0 (fun _ _ => True) True (mR m).1 (-1) (vC 45 c.1) (c.2.1 45 3) (vM 0 m2.1) := by
    have z := rq_sn hQ
    have ez : vM 0 (mR m).1 = vM 0 m2.1 := by
      funext a b
      show (mR m).1 (119 + a) _ = m2.1 (119 + a) _
      rw [r1 _ (by omega), n1 _ (by omega)]
    rw [ez] at z; exact z
  have hs1 : SC nw nb nr 0 tp tl (fun _ _ => True) True m3.1 (-1) (vC 73 c1.1) (c1.2.1 73 3) (vM 1 m3.1) := by
    refine sc_tl (tl := 0) (a := tl) ?_ tl2 (by show c1.1 73 1 = nI tl; rw [hB.2.2.2.2]; exact tl3)
    exact sc_copy hs0 hw6 hb8 hr12 (by rw [t50, rq_tw hQ]) (fun i hi => by rw [pac_m1 (by omega) t51, pac_m1 (by omega) (rq_po hQ), hG 108 (by omega) (by omega)]) hG hB bcW hM
  have hRc1 : RefOK c1 P := (rq_rc hQ).same hB.1
  have hRm3 : RefOK m3 P := hR2.same hM.1
  have hpa : PA nw m3.1 := by
    intro i hi
    rw [pac_m1 (by omega) t51, hG 108 (by omega) (by omega)]
    obtain ⟨a, a1, a2, _, a4⟩ := p0_wp (rq_pr hQ) i hi
    exact ⟨a, a2, a4⟩
  have main : ∃ c2, (if nI k ≤ (0 : Int32) then some c1 else f_X4_addRest shA 73 (nI p) (nI b) (nI k) c1) = some c2 ∧ RefOK c2 P ∧ CT P c1 c2 ∧ c2.1 73 1 = nI tl ∧ ∃ e, RS P 73 1 nw nb nr tp e tl (fun _ _ => True) True c2 m3 c2 m3 := by
    have c14 : c1.1 73 1 = nI tl := by rw [hB.2.2.2.2]; exact tl3
    by_cases k0 : k = 0
    · refine ⟨c1, by rw [if_pos (by rw [k0]; decide)], hRc1, CT.refl, c14, 0, wf_refl hRc1 hRm3 sc73 (by omega) hp1, ?_⟩
      rw [h99, n53, hw, if_pos k0]; exact hs1
    · have hrc : c1.1 73 14 = nI nr := sc_rc hs1
      have ea := e_addRest hRc1 sc73 hrc hr12 (nI p) (nI b) (nI k)
      refine ⟨(xu (xu (xu (xu (xu c1.1 (73 + 10) nr (nI p)) (73 + 11) nr (nI b)) (73 + 12) nr (nI k)) (73 + 13) nr 0) 73 14 (nI (nr + 1)), c1.2.1, c1.2.2), by rw [if_neg (nI_nle (by omega) (by omega))]; exact ea, hRc1.same rfl, ⟨rfl, fun j j1 _ => by dsimp only; rw [xu_off (by omega), xu_off (by omega), xu_off (by omega), xu_off (by omega), xu_off (by omega)], fun _ _ _ _ => rfl⟩, ?_, 1, wf_refl (hRc1.same rfl) hRm3 sc73 (by omega) (pr_same hp1 (fun j hj => by dsimp only; rw [xu_off (by omega), xu_off (by omega), xu_off (by omega), xu_off (by omega), xu_off (by omega)]) (fun _ _ _ => rfl)), ?_⟩
      · dsimp only; rw [xu_at2 (by omega), xu_cell (by omega), xu_cell (by omega), xu_cell (by omega), xu_cell (by omega)]; exact c14
      · dsimp only
        rw [vC_xu0, vC_xu, vC_xu, vC_xu, vC_xu, h99, n53, hw, if_neg k0]
        exact sc_extra hs1 (by omega) hk (by rw [h99]; exact n54) (by rw [h99]; exact n55)
  obtain ⟨c2, q1, q2, q3, q4, e, hr⟩ := main
  obtain ⟨c', m', j1, j2, j3⟩ := e_its hpa (cl := 0) (bn := 0) (cb0 t50) 60 c2 m3 hr
  have i1 := e_talkMore sc73 (show 60 < 1000 by omega) j1
  have i2 := e_goesOn (show 60 < 1000 by omega) j2
  obtain ⟨T, t1, t2, t3, t4, t5⟩ := rs_talk j3
  rw [show nI 60 = (60 : Int32) from rfl] at i1 i2
  rw [t3, q4] at i1
  refine ⟨tl, T, c1, c2, c', m', t1, t2, e1, hRc1, q1, q2, i1, ?_, t4, ?_, wf_rm j3.1, (ct_bc hB).trans (q3.trans (ct_wf j3.1)), (mt2.trans (mt_mc hM)).trans ((mt_wf j3.1).trans (mt_99 (by omega))), ?_, ?_⟩
  · unfold f_X10_runs
    have e2' : f_X10_copies shA 99 1 0 m2 = some m3 := e2
    rw [on_of sA_99, e2', Option.bind_some, on_of sA_99, i2]; rfl
  · rw [t5, hM.2.2.2.1 121 0 (by omega) (by omega) (by omega), n1 121 (by omega)]; exact tl4
  · rw [wf_o9 j3.1 50 (by omega) (by omega)]; exact t50
  · rw [wf_o9 j3.1 51 (by omega) (by omega)]; exact t51
theorem best_loop {P nw nb nr tp p b : Nat} (hpw : p < nw) (hb : b < nb) {x3 : Int32} : ∀ n k F1 F2 c m (mo ma mb : Int32), k + n = 31 → n < F1 → n < F2 → RQ P nw nb nr tp c (mR m) → (k = 0 → mo = -1) → (0 < k → ma = mb) → TY P c (mR m) (xloop (fun _ _ _ _ _ _ _ _ => none) (b_X9_best_42 shA) F1 0 (nI p) (nI b) x3 mo ma (nI k) c) (xloop (fun _ _ _ _ _ _ _ _ => none) (b_X10_best_41 shA) F2 99 (nI p) (nI b) x3 mb mo (nI k) m) := by
  intro n
  induction n with
  | zero =>
    intro k F1 F2 c m mo ma mb h1 h2 h3 hQ _ hma
    obtain ⟨F1, rfl⟩ : ∃ G, F1 = G + 1 := ⟨F1 - 1, by omega⟩
    obtain ⟨F2, rfl⟩ : ∃ G, F2 = G + 1 := ⟨F2 - 1, by omega⟩
    have e : (30 : Int32) < nI k := nI_lt (a := 30) (by omega) (by omega)
    have hm := hma (by omega)
    subst hm
    rw [loop_s, loop_s, b_X9_best_42, b_X10_best_41, if_pos e, if_pos e]
    unfold k_X9_best_113 k_X9_best_124 k_X10_best_118 k_X10_best_134
    rw [pM_53, Option.bind_some]
    by_cases z : x3 = 0
    · rw [if_pos z, if_pos z]; exact ty_same hQ _
    · rw [if_neg z, if_neg z]; exact ty_same hQ _
  | succ n ih =>
    intro k F1 F2 c m mo ma mb h1 h2 h3 hQ hmo hma
    obtain ⟨F1, rfl⟩ : ∃ G, F1 = G + 1 := ⟨F1 - 1, by omega⟩
    obtain ⟨F2, rfl⟩ : ∃ G, F2 = G + 1 := ⟨F2 - 1, by omega⟩
    have e : ¬ (30 : Int32) < nI k := nI_nlt (b := k) (a := 30) (by omega) (by omega)
    obtain ⟨tl, T, c1, c2, c', m', t1, t2, e1, hR1, q1, hR2, i1, i2, u1, u2, hRm', ctx, mtx, g50, g51⟩ := best_step (m := m) hQ hpw hb (show k ≤ 30 by omega)
    have hQ' : RQ P nw nb nr tp c' (mR m') := rq_try hQ ctx mtx (by show xu m'.1 99 53 (-1) 99 50 = 0; rw [xu_at2 (by omega)]; exact g50) (by show xu m'.1 99 53 (-1) 99 51 = -1; rw [xu_at2 (by omega)]; exact g51) (by show xu m'.1 99 53 (-1) 99 53 = -1; rw [xu_at])
    have its : nI T - nI tl = nI (T - tl) := pk_sub t1
    have hC : xloop (fun _ _ _ _ _ _ _ _ => none) (b_X9_best_42 shA) (F1 + 1) 0 (nI p) (nI b) x3 mo ma (nI k) c = (if nI T - nI tl ≤ mo then xloop (fun _ _ _ _ _ _ _ _ => none) (b_X9_best_42 shA) F1 0 (nI p) (nI b) x3 mo ma (nI (k + 1)) c' else xloop (fun _ _ _ _ _ _ _ _ => none) (b_X9_best_42 shA) F1 0 (nI p) (nI b) x3 (nI T - nI tl) (nI k) (nI (k + 1)) c') := by
      have k76 : k_X9_best_76 shA (xloop (fun _ _ _ _ _ _ _ _ => none) (b_X9_best_42 shA) F1) 0 (nI p) (nI b) x3 mo ma (nI k) c2 = (if nI T - nI tl ≤ mo then xloop (fun _ _ _ _ _ _ _ _ => none) (b_X9_best_42 shA) F1 0 (nI p) (nI b) x3 mo ma (nI (k + 1)) c' else xloop (fun _ _ _ _ _ _ _ _ => none) (b_X9_best_42 shA) F1 0 (nI p) (nI b) x3 (nI T - nI tl) (nI k) (nI (k + 1)) c') := by
        unfold k_X9_best_76 k_X9_best_107
        rw [g0R_12 hR2, Option.bind_some, g0R_10 hR2, Option.bind_some, on_of sA_87, i1, Option.bind_some, nI_1]
      rw [loop_s, b_X9_best_42, if_neg e, g0_10 hQ, Option.bind_some, g0_8 hQ, Option.bind_some, on_of sA_73, e1, Option.bind_some]
      by_cases z : nI k ≤ 0
      · rw [if_pos z] at q1 ⊢
        rw [Option.some.inj q1]; exact k76
      · rw [if_neg z] at q1 ⊢
        rw [g0R_10 hR1, Option.bind_some, on_of sA_73, q1, Option.bind_some]; exact k76
    have hM : xloop (fun _ _ _ _ _ _ _ _ => none) (b_X10_best_41 shA) (F2 + 1) 99 (nI p) (nI b) x3 mb mo (nI k) m = (if nI T - nI tl ≤ mo then xloop (fun _ _ _ _ _ _ _ _ => none) (b_X10_best_41 shA) F2 99 (nI p) (nI b) x3 mb mo (nI (k + 1)) m' else xloop (fun _ _ _ _ _ _ _ _ => none) (b_X10_best_41 shA) F2 99 (nI p) (nI b) x3 (nI k) (nI T - nI tl) (nI (k + 1)) m') := by
      have k59 : k_X10_best_59 shA (xloop (fun _ _ _ _ _ _ _ _ => none) (b_X10_best_41 shA) F2) 99 (nI p) (nI b) x3 mb mo (nI k) 99 (if k = 0 then -1 else nI p) m = (if nI T - nI tl ≤ mo then xloop (fun _ _ _ _ _ _ _ _ => none) (b_X10_best_41 shA) F2 99 (nI p) (nI b) x3 mb mo (nI (k + 1)) m' else xloop (fun _ _ _ _ _ _ _ _ => none) (b_X10_best_41 shA) F2 99 (nI p) (nI b) x3 (nI k) (nI T - nI tl) (nI (k + 1)) m') := by
        unfold k_X10_best_59 k_X10_best_112
        rw [pM_53, Option.bind_some, pM_54, Option.bind_some, pM_55, Option.bind_some, on_of sA_99, i2, Option.bind_some]
        simp only [gR_of sA_99 (rf_99_37 hRm'), Option.bind_some, a1_3, a0_3, u1, u2, nI_1]
        by_cases z : nI T - nI tl ≤ mo
        · rw [if_pos z, if_neg (Int32.not_lt.mpr z)]
        · rw [if_neg z, if_pos (Int32.not_le.mp z)]
      rw [loop_s, b_X10_best_41, if_neg e]
      by_cases z : k = 0
      · rw [if_pos z] at k59
        rw [if_pos (by rw [z]; decide)]; exact k59
      · rw [if_neg z] at k59
        rw [if_neg (nI_ne0 (by omega) (by omega))]; exact k59
    rw [hC, hM]
    by_cases z : nI T - nI tl ≤ mo
    · have kpos : 0 < k := by
        rcases Nat.eq_zero_or_pos k with k0 | k0
        · rw [its, hmo k0] at z
          exact absurd (Int32.lt_of_le_of_lt z (by decide)) (nI_pos (show T - tl < 2 ^ 31 by omega))
        · exact k0
      rw [if_pos z, if_pos z]
      exact TY.pre ctx mtx (ih (k + 1) F1 F2 c' m' mo ma mb (by omega) (by omega) (by omega) hQ' (fun w => by omega) (fun _ => hma kpos))
    · rw [if_neg z, if_neg z]
      exact TY.pre ctx mtx (ih (k + 1) F1 F2 c' m' (nI T - nI tl) (nI k) (nI k) (by omega) (by omega) (by omega) hQ' (fun w => by omega) (fun _ => rfl))
theorem mR_self {P nw nb nr tp : Nat} {c m : xD} (hQ : RQ P nw nb nr tp c m) : mR m = m := by
  unfold mR
  rw [← rq_ew hQ, xu_self]
theorem l2_best : L2_best Rel := by
  intro d a1 a2 a3 hd
  refine co_L2 (fC := f_X9_best shA 0 a1 a2 a3) (fM := f_X10_best shA 99 a1 a2 a3) (co_ty hd ?_)
  intro P nw nb nr tp md m hm hQ
  have hp := pr_pl (rq_pr hQ)
  unfold f_X10_best
  rw [t0_e, ← hm]
  unfold f_X9_best k_X9_best_31 k_X10_best_30
  rw [g0_4 hQ, Option.bind_some, on_of (sp_0 hp), on_of sA_99]
  rcases e_hasW hQ a1 with ⟨p, hpw, rfl, e1, e2⟩ | ⟨e1, e2⟩
  · rw [e1, e2, Option.bind_some, Option.bind_some]
    dsimp only
    rw [if_neg one_ne_zero32, if_neg one_ne_zero32, g0_4 hQ, Option.bind_some, on_of (sp_0 hp), on_of sA_99]
    rcases e_hasB hQ a2 with ⟨b, hb, rfl, e3, e4⟩ | ⟨e3, e4⟩
    · rw [e3, e4, Option.bind_some, Option.bind_some]
      dsimp only
      rw [if_neg one_ne_zero32, if_neg one_ne_zero32]
      by_cases c1 : a3 < 0
      · rw [if_pos c1, if_pos c1]; exact ty_same hQ _
      rw [if_neg c1, if_neg c1]
      by_cases c2 : a3 ≤ 1
      · rw [if_pos c2, if_pos c2]
        have hQ2 : RQ P nw nb nr tp d (mR m) := by rw [mR_self hQ]; exact hQ
        have z := best_loop hpw hb (x3 := a3) 31 0 xF xF d m (-1) 0 (-1) (by omega) (xF_big (by omega)) (xF_big (by omega)) hQ2 (fun _ => rfl) (fun w => by omega)
        rw [mR_self hQ, nI_0] at z
        exact z
      · rw [if_neg c2, if_neg c2]; exact ty_same hQ _
    · rw [e3, e4]; exact ty_same hQ _
  · rw [e1, e2]; exact ty_same hQ _

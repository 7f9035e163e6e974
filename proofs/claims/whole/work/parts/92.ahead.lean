/-! LEVEL 2: ahead, meet, pass -/
def TY {α : Type} (P : Nat) (d m : xD) (x y : Option (α × xD)) : Prop := ∃ r c' m', x = some (r, c') ∧ y = some (r, m') ∧ CT P d c' ∧ MT m m' ∧ m'.1 99 50 = 0 ∧ m'.1 99 51 = -1 ∧ m'.1 99 53 = -1
theorem ty_same {α : Type} {P nw nb nr tp : Nat} {d m : xD} (hq : RQ P nw nb nr tp d m) (r : α) : TY P d m (some (r, d)) (some (r, m)) := ⟨r, d, m, rfl, rfl, CT.refl, MT.refl, rq_tw hq, rq_po hq, rq_ew hq⟩
theorem co_ty {α : Type} {fC fM : xD → Option (α × xD)} {d : xD} (hd : Rel d) (h : ∀ P nw nb nr tp md m, m = t0 md → RQ P nw nb nr tp d m → TY P d m (fC d) (fM md)) : CO fC fM d := co_try hd h
theorem walkersOf_loop {P q s nw nb nr tp : Nat} {c0 m0 c m : xD} (h : WF P q s nw nb nr tp c0 m0 c m) (v : Int32) : ∀ n i F a, i + n = nw → n < F → xloop (fun _ _ _ _ _ _ => none) (b_X10_walkersOf_5 shA) F 99 (nI s) v (nI a) (nI i) m = some (nI (cntI (vM s m.1 5) v i n a), m) := by
  have hRc := wf_rc h; have hRm := wf_rm h; have hq := wf_sq h; have hp := pr_pl (wf_pr h); have hs23 := wf_s23 h; have hqr := isSc_ge hq; have hpr := isPl_le hp; have hw6 := pr_w6 (wf_pr h); have hb8 := pr_b8 (wf_pr h); have hr12 := pr_r12 (wf_pr h); have ht2 := pr_t2 (wf_pr h); have ht60 := pr_t60 (wf_pr h)
  have mw : m.1 101 2 = nI nw := by rw [wf_om h 101 (Or.inl (by omega)) (by omega)]; exact p0_mW (wf_pr h)
  intro n
  induction n with
  | zero =>
    intro i F a h1 h2
    obtain ⟨F, rfl⟩ : ∃ G, F = G + 1 := ⟨F - 1, by omega⟩
    rw [loop_s, b_X10_walkersOf_5, gR_of sA_99 (rf_99_3 hRm), Option.bind_some, aN_2, Option.bind_some, mw, if_pos (nI_le (by omega) (by omega))]
    rfl
  | succ n ih =>
    intro i F a h1 h2
    obtain ⟨F, rfl⟩ : ∃ G, F = G + 1 := ⟨F - 1, by omega⟩
    rw [loop_s, b_X10_walkersOf_5, gR_of sA_99 (rf_99_3 hRm), Option.bind_some, aN_2, Option.bind_some, mw, if_neg (nI_ge (by omega) (by omega)), gR_of sA_99 (rf_99_40 hRm), Option.bind_some, m6_, nI_add, aI_of sA_124 (by omega) (by omega), Option.bind_some, rM_124 (s := s) (k := i) (J := m.1), cntI_s]
    unfold k_X10_walkersOf_38
    by_cases hc : vM s m.1 5 i = v
    · rw [if_pos hc, if_pos hc, nI_1, nI_1]; exact ih (i + 1) F (a + 1) (by omega) (by omega)
    · rw [if_neg hc, if_neg hc, nI_1, Int32.add_zero]; exact ih (i + 1) F a (by omega) (by omega)
theorem e_walkersOf {P q s nw nb nr tp : Nat} {c0 m0 c m : xD} (h : WF P q s nw nb nr tp c0 m0 c m) (v : Int32) : f_X10_walkersOf shA 99 (nI s) v m = some (nI (cntI (vM s m.1 5) v 0 nw 0), m) := by
  have hRc := wf_rc h; have hRm := wf_rm h; have hq := wf_sq h; have hp := pr_pl (wf_pr h); have hs23 := wf_s23 h; have hqr := isSc_ge hq; have hpr := isPl_le hp; have hw6 := pr_w6 (wf_pr h); have hb8 := pr_b8 (wf_pr h); have hr12 := pr_r12 (wf_pr h); have ht2 := pr_t2 (wf_pr h); have ht60 := pr_t60 (wf_pr h)
  exact walkersOf_loop h v nw 0 xF 0 (by omega) (xF_big (by omega))
theorem a1_3 {d : xD} : xaI .int shA d 121 (1 : Int32) = some (d.1 121 1) := aI_of (i := 1) sA_121 (by decide) (by decide)
/-- what is talked, on both sides -/
theorem rs_talk {P nw nb nr tp e tl : Nat} {mt : Nat → Nat → Prop} {fl : Prop} {c0 m0 c m : xD} (hr : RS P 73 1 nw nb nr tp e tl mt fl c0 m0 c m) : ∃ T, tl ≤ T ∧ T ≤ 99999 ∧ c.1 73 1 = nI T ∧ m.1 121 1 = nI T ∧ m.1 121 0 = m0.1 121 0 := by
  obtain ⟨T, t1, t2, t3, t4⟩ := sc_ta hr.2
  exact ⟨T, t1, t2, t3, by rw [← t4]; exact rM_121, wf_o1 hr.1 121 0 (by omega) (by omega) (by omega)⟩
theorem ahead_core {P nw nb nr tp n : Nat} {d m : xD} (hQ : RQ P nw nb nr tp d m) (hn : n ≤ 200) {a2 a3 : Int32} (h1 : a2 = 1 → ∃ b, b < nb ∧ a3 = nI b) (h2 : a2 = 2 → ∃ p, p < nw ∧ a3 = nI p) : TY P d m (k_X9_ahead_56 shA 0 (nI n) a2 a3 d) (k_X10_ahead_53 shA 99 (nI n) a2 a3 m) := by
  obtain ⟨tl, c1, m1, k1, k2, k3, k4, k5, k6, k7, k8, k9, k10, k11, k12⟩ := tr_start hQ
  obtain ⟨c', m', j1, j2, j3⟩ := e_its k4 (cl := 0) (bn := 0) (cb0 (by rw [k5]; exact rq_tw hQ)) n c1 m1 k3
  have i1 := e_talkMore sc73 (show n < 1000 by omega) j1
  have i2 := e_goesOn (show n < 1000 by omega) j2
  obtain ⟨T, t1, t2, t3, t4, t5⟩ := rs_talk j3
  have hr0 := j3
  obtain ⟨h, hs⟩ := j3
  have hRc := wf_rc h; have hRm := wf_rm h; have hq := wf_sq h; have hp := pr_pl (wf_pr h); have hs23 := wf_s23 h; have hqr := isSc_ge hq; have hpr := isPl_le hp; have hw6 := pr_w6 (wf_pr h); have hb8 := pr_b8 (wf_pr h); have hr12 := pr_r12 (wf_pr h); have ht2 := pr_t2 (wf_pr h); have ht60 := pr_t60 (wf_pr h)
  have hRc1 : RefOK c1 P := (rq_rc hQ).same k6.1
  have fin : CT P d c' ∧ MT m m' ∧ m'.1 99 50 = 0 ∧ m'.1 99 51 = -1 ∧ m'.1 99 53 = -1 := ⟨k6.trans (ct_wf h), k7.trans (mt_wf h), by rw [wf_o9 h 50 (by omega) (by omega), k5]; exact rq_tw hQ, by rw [wf_o9 h 51 (by omega) (by omega), k5]; exact rq_po hQ, rs_53 hr0⟩
  unfold k_X9_ahead_56 k_X10_ahead_53 f_X10_runs
  rw [g0_10 hQ, Option.bind_some, g0_8 hQ, Option.bind_some, on_of sA_73, k1, Option.bind_some, g0R_12 hRc1, Option.bind_some, g0R_10 hRc1, Option.bind_some, on_of sA_87, i1, Option.bind_some, on_of sA_99, on_of sA_99, k2, Option.bind_some, on_of sA_99, i2, Option.bind_some, Option.bind_some]
  dsimp only
  by_cases z0 : a2 = 0
  · rw [if_pos z0, if_pos z0, gR_of sA_99 (rf_99_37 hRm), Option.bind_some, a1_3, Option.bind_some, Option.bind_some, a0_3, Option.bind_some, t3, t4, t5, k9, k8, k11, k12]
    exact ⟨_, c', m', rfl, rfl, fin⟩
  · rw [if_neg z0, if_neg z0]
    by_cases z1 : a2 = 1
    · obtain ⟨b, hb, rfl⟩ := h1 z1
      obtain ⟨w, _, w2, w3⟩ := sc_wo hs b hb
      have w2 : c'.1 (73 + 9) b = nI w := w2
      have w3 : m'.1 131 (8 * 1 + b) = nI w := w3
      rw [if_pos z1, if_pos z1, g0R_10 hRc, Option.bind_some, gR_of sA_73 (rs_13 hRc sc73), Option.bind_some, aI_of (ss_9 sc73) (by omega) (by omega), Option.bind_some, w2, gR_of sA_99 (rf_99_47 hRm), Option.bind_some, a8_, aI_of sA_131 (by omega) (by omega), Option.bind_some, w3]
      exact ⟨_, c', m', rfl, rfl, fin⟩
    · rw [if_neg z1, if_neg z1]
      by_cases z2 : a2 = 2
      · obtain ⟨p, hpw, rfl⟩ := h2 z2
        obtain ⟨w, _, w2, w3⟩ := sc_sp hs p hpw
        have w2 : c'.1 (73 + 2) p = nI w := w2
        have w3 : m'.1 125 (6 * 1 + p) = nI w := w3
        rw [if_pos z2, if_pos z2, g0R_10 hRc, Option.bind_some, gR_of sA_73 (rs_6 hRc sc73), Option.bind_some, aI_of (ss_2 sc73) (by omega) (by omega), Option.bind_some, w2, gR_of sA_99 (rf_99_41 hRm), Option.bind_some, a6_, aI_of sA_125 (by omega) (by omega), Option.bind_some, w3]
        exact ⟨_, c', m', rfl, rfl, fin⟩
      · have e2 := e_walkersOf h 3
        rw [show nI 1 = (1 : Int32) from rfl] at e2
        rw [if_neg z2, if_neg z2, g0R_10 hRc, Option.bind_some, on_of sA_73, e_howMany hRc sc73 (sc_cw hs) hw6, Option.bind_some, on_of sA_99, e2, Option.bind_some]
        have e3 : cntI (c'.1 (73 + 1)) 3 0 nw 0 = cntI (vM 1 m'.1 5) 3 0 nw 0 := cntI_congr nw 0 0 (fun j _ hj => sc_st hs j (by omega))
        rw [e3]
        exact ⟨_, c', m', rfl, rfl, fin⟩
theorem l2_ahead : L2_ahead Rel := by
  intro d a1 a2 a3 hd
  refine co_L2 (fC := f_X9_ahead shA 0 a1 a2 a3) (fM := f_X10_ahead shA 99 a1 a2 a3) (co_ty hd ?_)
  intro P nw nb nr tp md m hm hq
  have hp := pr_pl (rq_pr hq)
  unfold f_X10_ahead
  rw [t0_e, ← hm]
  unfold f_X9_ahead k_X9_ahead_20 k_X10_ahead_51 k_X9_ahead_38 k_X10_ahead_38 k_X9_ahead_54
  by_cases c1 : a1 < 0
  · rw [if_pos c1, if_pos c1]; exact ty_same hq _
  rw [if_neg c1, if_neg c1]
  by_cases c2 : 200 < a1
  · rw [if_pos c2, if_pos c2]; exact ty_same hq _
  rw [if_neg c2, if_neg c2]
  by_cases c3 : a2 < 0
  · rw [if_pos c3, if_pos c3]; exact ty_same hq _
  rw [if_neg c3, if_neg c3]
  by_cases c4 : a2 ≤ 3
  · rw [if_pos c4, if_neg (Int32.not_lt.mpr c4)]
    obtain ⟨n, hn, rfl⟩ := nI_of2 (n := 200) (by decide) c1 (Int32.not_lt.mp c2)
    by_cases c5 : a2 = 1
    · rw [if_pos c5, if_pos c5, g0_4 hq, Option.bind_some, on_of (sp_0 hp), on_of sA_99]
      rcases e_hasB hq a3 with ⟨b, hb, e0, e1, e2⟩ | ⟨e1, e2⟩
      · rw [e1, e2, Option.bind_some, Option.bind_some]
        dsimp only
        rw [if_neg one_ne_zero32, if_neg one_ne_zero32, if_neg (by rw [c5]; decide), if_neg (by rw [c5]; decide)]
        exact ahead_core hq hn (fun _ => ⟨b, hb, e0⟩) (fun z => by rw [c5] at z; exact absurd z (by decide))
      · rw [e1, e2]; exact ty_same hq _
    · rw [if_neg c5, if_neg c5]
      by_cases c6 : a2 = 2
      · rw [if_pos c6, if_pos c6, g0_4 hq, Option.bind_some, on_of (sp_0 hp), on_of sA_99]
        rcases e_hasW hq a3 with ⟨b, hb, e0, e1, e2⟩ | ⟨e1, e2⟩
        · rw [e1, e2, Option.bind_some, Option.bind_some]
          dsimp only
          rw [if_neg one_ne_zero32, if_neg one_ne_zero32]
          exact ahead_core hq hn (fun z => absurd z c5) (fun _ => ⟨b, hb, e0⟩)
        · rw [e1, e2]; exact ty_same hq _
      · rw [if_neg c6, if_neg c6]
        exact ahead_core hq hn (fun z => absurd z c5) (fun z => absurd z c6)
  · rw [if_neg c4, if_pos (Int32.not_le.mp c4)]; exact ty_same hq _
theorem e_areTwo {P nw nb nr tp : Nat} {d m : xD} (hq : RQ P nw nb nr tp d m) (x y : Int32) : (∃ p q, p < nw ∧ q < nw ∧ p ≠ q ∧ x = nI p ∧ y = nI q ∧ f_X9_areTwo shA 0 x y d = some (1, d) ∧ f_X10_areTwo shA 99 x y m = some (1, m)) ∨ (f_X9_areTwo shA 0 x y d = some (0, d) ∧ f_X10_areTwo shA 99 x y m = some (0, m)) := by
  have hp := pr_pl (rq_pr hq)
  unfold f_X9_areTwo f_X10_areTwo k_X9_areTwo_31 k_X9_areTwo_32 k_X10_areTwo_25 k_X10_areTwo_26
  rw [g0_4 hq, Option.bind_some, on_of (sp_0 hp), on_of sA_99]
  rcases e_hasW hq x with ⟨p, hpw, e0, e1, e2⟩ | ⟨e1, e2⟩
  · rw [e1, e2, Option.bind_some, Option.bind_some]
    dsimp only
    rw [if_neg one_ne_zero32, if_neg one_ne_zero32, g0_4 hq, Option.bind_some, on_of (sp_0 hp), on_of sA_99]
    rcases e_hasW hq y with ⟨p2, hpw2, f0, f1, f2⟩ | ⟨f1, f2⟩
    · rw [f1, f2, Option.bind_some, Option.bind_some]
      dsimp only
      rw [if_neg one_ne_zero32, if_neg one_ne_zero32]
      by_cases z : x = y
      · rw [if_pos z, if_pos z]; exact Or.inr ⟨rfl, rfl⟩
      · rw [if_neg z, if_neg z]; exact Or.inl ⟨p, p2, hpw, hpw2, fun w => z (by rw [e0, f0, w]), e0, f0, rfl, rfl⟩
    · rw [f1, f2]; exact Or.inr ⟨rfl, rfl⟩
  · rw [e1, e2]; exact Or.inr ⟨rfl, rfl⟩
theorem meet_loop {P nw nb nr tp tl : Nat} {c0 m0 : xD} (hpa : PA nw m0.1) (h50 : m0.1 99 50 = 0) {p o : Nat} (hpw : p < nw) (how : o < nw) : ∀ n k F1 F2 c m, k + n = 200 → n < F1 → n < F2 → RS P 73 1 nw nb nr tp 0 tl (fun i j => i = p ∧ j = o) True c0 m0 c m → bt (c.1 (73 + 7) p) o = false → ∃ r c' m', xloop (fun _ _ _ _ _ => none) (b_X9_meet_34 shA) F1 0 (nI p) (nI o) (nI k) c = some (r, c') ∧ xloop (fun _ _ _ _ _ => none) (b_X10_meet_24 shA) F2 99 (nI p) (nI o) (nI k) m = some (r, m') ∧ RS P 73 1 nw nb nr tp 0 tl (fun i j => i = p ∧ j = o) True c0 m0 c' m' := by
  intro n
  induction n with
  | zero =>
    intro k F1 F2 c m h1 h2 h3 hr hb
    obtain ⟨F1, rfl⟩ : ∃ G, F1 = G + 1 := ⟨F1 - 1, by omega⟩
    obtain ⟨F2, rfl⟩ : ∃ G, F2 = G + 1 := ⟨F2 - 1, by omega⟩
    have e : (199 : Int32) < nI k := nI_lt (a := 199) (by omega) (by omega)
    refine ⟨-2, c, m, ?_, ?_, hr⟩
    · rw [loop_s, b_X9_meet_34, if_pos e]; rfl
    · rw [loop_s, b_X10_meet_24, if_pos e]; rfl
  | succ n ih =>
    intro k F1 F2 c m h1 h2 h3 hr hb
    obtain ⟨F1, rfl⟩ : ∃ G, F1 = G + 1 := ⟨F1 - 1, by omega⟩
    obtain ⟨F2, rfl⟩ : ∃ G, F2 = G + 1 := ⟨F2 - 1, by omega⟩
    have e : ¬ (199 : Int32) < nI k := nI_nlt (b := k) (a := 199) (by omega) (by omega)
    obtain ⟨h, hs⟩ := hr
    have hRc := wf_rc h; have hRm := wf_rm h; have hq := wf_sq h; have hp := pr_pl (wf_pr h); have hs23 := wf_s23 h; have hqr := isSc_ge hq; have hpr := isPl_le hp; have hw6 := pr_w6 (wf_pr h); have hb8 := pr_b8 (wf_pr h); have hr12 := pr_r12 (wf_pr h); have ht2 := pr_t2 (wf_pr h); have ht60 := pr_t60 (wf_pr h)
    have hr1 : RS P 73 1 nw nb nr tp 0 tl (fun i j => i = p ∧ j = o) True c0 m0 c (xu m.1 130 (6 * 1 + p) 0, m.2.1, m.2.2) := by
      refine ⟨wf_m2 h (by omega) (by omega) (by omega), ?_⟩
      show SC nw nb nr 0 tp tl (fun i j => i = p ∧ j = o) True m0.1 (xu m.1 130 (6 * 1 + p) 0 99 53) (vC 73 c.1) (c.2.1 73 3) (vM 1 (xu m.1 130 (6 * 1 + p) 0))
      rw [xu_cell (by omega), vM_130]
      refine ⟨(sc_mi hs :), (sc_ta hs :), (sc_pi hs :), (sc_nu hs :), (sc_cw hs :), (sc_st hs :), (sc_sp hs :), (sc_dn hs :), (sc_pa hs :), (sc_lf hs :), (sc_la hs :), (sc_sa hs :), ?_, (sc_se hs :), (sc_wo hs :), (sc_so hs :), (sc_sn hs :), (sc_e1 hs :), (sc_rc hs :), (sc_rr hs :), (sc_rt hs :), (sc_rz hs :), (sc_x0 hs :), (sc_x1 hs :)⟩
      rintro i _ j _ ⟨z1, z2⟩
      subst z1; subst z2
      rw [xu_is, if_pos rfl, b_0]; exact hb
    obtain ⟨c1, m1, k1, k2, k3⟩ := e_minute hr1 hpa (cb0 h50)
    have k2 : f_X10_passes shA 99 1 0 _ = some m1 := k2
    have hRc1 : RefOK c1 P := wf_rc k3.1
    have hRm1 : RefOK m1 P := wf_rm k3.1
    have hbt : bt (c1.1 (73 + 7) p) o = bt (m1.1 130 (6 * 1 + p)) o := sc_me k3.2 p hpw o (by omega) ⟨rfl, rfl⟩
    rw [loop_s, loop_s, b_X9_meet_34, b_X10_meet_24, if_neg e, if_neg e, g0R_12 hRc, Option.bind_some, g0R_10 hRc, Option.bind_some, on_of sA_87, k1, Option.bind_some, g0R_10 hRc1, Option.bind_some, gR_of sA_73 (rs_11 hRc1 sc73), Option.bind_some, aI_of (ss_7 sc73) (by omega) (by omega), Option.bind_some, gR_of sA_99 (rf_99_46 hRm), Option.bind_some, a6_, sI_of sA_130 (by omega) (by omega), Option.bind_some, on_of sA_99, k2, Option.bind_some, gR_of sA_99 (rf_99_46 hRm1), Option.bind_some, aI_of sA_130 (by omega) (by omega), Option.bind_some, bi1 _ (show o < 32 by omega), bi1 _ (show o < 32 by omega), hbt]
    unfold k_X9_meet_70 k_X10_meet_64
    cases hz : bt (m1.1 130 (6 * 1 + p)) o with
    | true => exact ⟨_, c1, m1, rfl, rfl, k3⟩
    | false =>
      rw [if_neg (by decide), if_neg (by decide), nI_1]
      exact ih (k + 1) F1 F2 c1 m1 (by omega) (by omega) (by omega) k3 (by rw [hbt]; exact hz)
theorem l2_meet : L2_meet Rel := by
  intro d a1 a2 hd
  refine co_L2 (fC := f_X9_meet shA 0 a1 a2) (fM := f_X10_meet shA 99 a1 a2) (co_ty hd ?_)
  intro P nw nb nr tp md m hm hq
  have hw6 := pr_w6 (rq_pr hq)
  unfold f_X10_meet
  rw [t0_e, ← hm]
  unfold f_X9_meet
  rw [on_of sA_0, on_of sA_99]
  rcases e_areTwo hq a1 a2 with ⟨p, o, hpw, how, hne, rfl, rfl, e1, e2⟩ | ⟨e1, e2⟩
  · obtain ⟨tl, c1, m1, k1, k2, k3, k4, k5, k6, k7, k8, k9, k10, k11, k12⟩ := tr_start hq
    have hRc1 : RefOK c1 P := wf_rc k3.1
    have hRm1 : RefOK m1 P := wf_rm k3.1
    have t50 : m1.1 99 50 = 0 := by rw [k5]; exact rq_tw hq
    -- the class's sheet is clean at the beginning; the reference's is cleaned ahead of each minute
    have hr1 : RS P 73 1 nw nb nr tp 0 tl (fun i j => i = p ∧ j = o) True (xu c1.1 (73 + 7) p 0, c1.2.1, c1.2.2) m1 (xu c1.1 (73 + 7) p 0, c1.2.1, c1.2.2) (xu m1.1 130 (6 * 1 + p) 0, m1.2.1, m1.2.2) := by
      obtain ⟨h, hs⟩ := k3
      have hpr := isPl_le (pr_pl (rq_pr hq))
      have hp1 : PR P 0 nw nb nr tp (xu c1.1 (73 + 7) p 0) m1.1 := pr_congr (wf_pr h) (fun j hj => xu_off (by omega)) (fun _ _ _ => rfl)
      refine ⟨wf_m2 (k := 130) (p := p) (v := 0) (wf_refl (c := (xu c1.1 (73 + 7) p 0, c1.2.1, c1.2.2)) (hRc1.same rfl) hRm1 sc73 (by omega) hp1) (by omega) (by omega) (by omega), ?_⟩
      show SC nw nb nr 0 tp tl (fun i j => i = p ∧ j = o) True m1.1 (xu m1.1 130 (6 * 1 + p) 0 99 53) (vC 73 (xu c1.1 (73 + 7) p 0)) (c1.2.1 73 3) (vM 1 (xu m1.1 130 (6 * 1 + p) 0))
      rw [xu_cell (by omega), vM_130, vC_xu]
      refine ⟨(sc_mi hs :), (sc_ta hs :), (sc_pi hs :), (sc_nu hs :), (sc_cw hs :), (sc_st hs :), (sc_sp hs :), (sc_dn hs :), (sc_pa hs :), (sc_lf hs :), (sc_la hs :), (sc_sa hs :), ?_, (sc_se hs :), (sc_wo hs :), (sc_so hs :), (sc_sn hs :), (sc_e1 hs :), (sc_rc hs :), (sc_rr hs :), (sc_rt hs :), (sc_rz hs :), (sc_x0 hs :), (sc_x1 hs :)⟩
      rintro i _ j _ ⟨z1, z2⟩
      subst z1; subst z2
      rw [xu_is, if_pos rfl, xu_is, if_pos rfl]
    have hr2 : RS P 73 1 nw nb nr tp 0 tl (fun i j => i = p ∧ j = o) True (xu c1.1 (73 + 7) p 0, c1.2.1, c1.2.2) m1 (xu c1.1 (73 + 7) p 0, c1.2.1, c1.2.2) (xu m1.1 130 (6 * 1 + p) 0, m1.2.1, m1.2.2) := hr1
    have hb : bt ((xu c1.1 (73 + 7) p 0) (73 + 7) p) o = false := by rw [xu_at]; exact b_0 o
    obtain ⟨r, c', m', j1, j2, j3⟩ := meet_loop k4 t50 hpw how 199 1 xF xF _ _ (by omega) (xF_big (by omega)) (xF_big (by omega)) hr1 hb
    have ctx : CT P d (xu c1.1 (73 + 7) p 0, c1.2.1, c1.2.2) := k6.trans ⟨rfl, fun k k1 _ => xu_off (by omega), fun _ _ _ _ => rfl⟩
    have jm : xloop (fun _ _ _ _ _ => none) (b_X10_meet_24 shA) xF 99 (nI p) (nI o) (nI 1) m1 = some (r, m') := by
      have ex : ∀ m2 : xD, RefOK m2 P → b_X10_meet_24 shA (xloop (fun _ _ _ _ _ => none) (b_X10_meet_24 shA) (xF - 1)) 99 (nI p) (nI o) (nI 1) (xu m2.1 130 (6 * 1 + p) 0, m2.2.1, m2.2.2) = b_X10_meet_24 shA (xloop (fun _ _ _ _ _ => none) (b_X10_meet_24 shA) (xF - 1)) 99 (nI p) (nI o) (nI 1) m2 := by
        intro m2 hR2
        have e : ¬ (199 : Int32) < nI 1 := by decide
        have s1 := sI_of (d := (xu m2.1 130 (6 * 1 + p) 0, m2.2.1, m2.2.2)) (i := 6 * 1 + p) (v := 0) sA_130 (by omega) (by omega)
        have s2 := sI_of (d := m2) (i := 6 * 1 + p) (v := 0) sA_130 (by omega) (by omega)
        dsimp only at s1
        rw [xu_xu] at s1
        rw [b_X10_meet_24, b_X10_meet_24, if_neg e, if_neg e, gR_of (d := (xu m2.1 130 (6 * 1 + p) 0, m2.2.1, m2.2.2)) sA_99 (rf_99_46 hR2), Option.bind_some, gR_of sA_99 (rf_99_46 hR2), Option.bind_some, a6_, s1, s2]
      have f1 : xF = (xF - 1) + 1 := by unfold xF; rfl
      rw [f1, loop_s] at j2 ⊢
      rw [← ex m1 hRm1]; exact j2
    refine ⟨r, c', m', ?_, ?_, ctx.trans (ct_wf j3.1), k7.trans (mt_wf j3.1), ?_, ?_, rs_53 j3⟩
    · rw [e1, Option.bind_some]
      dsimp only
      rw [if_neg one_ne_zero32, g0_10 hq, Option.bind_some, g0_8 hq, Option.bind_some, on_of sA_73, k1, Option.bind_some, g0R_10 hRc1, Option.bind_some, gR_of sA_73 (rs_11 hRc1 sc73), Option.bind_some, sI_of (ss_7 sc73) (by omega) (by omega), Option.bind_some]
      exact j1
    · rw [e2, Option.bind_some]
      dsimp only
      rw [if_neg one_ne_zero32, on_of sA_99, k2, Option.bind_some]
      exact jm
    · rw [wf_o9 j3.1 50 (by omega) (by omega)]; exact t50
    · rw [wf_o9 j3.1 51 (by omega) (by omega), k5]; exact rq_po hq
  · rw [e1, e2]; exact ty_same hq _

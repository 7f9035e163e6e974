/-! LEVEL 2: see, strike, known, push -/
theorem rq_seen {P nw nb nr tp : Nat} {c m c' m' : xD} (h : RQ P nw nb nr tp c m) (e1 : c'.2.2 = c.2.2) (eL : c'.2.1 = c.2.1) (e2 : m'.2.2 = m.2.2) (c2 : ∀ k, k < 92 → c'.1 k = c.1 k) (m2 : ∀ k, 99 < k → k < 133 → m'.1 k = m.1 k) (m3 : ∀ k, k ≠ 57 → k ≠ 58 → m'.1 99 k = m.1 99 k) (hse : SE nb c'.1 m'.1) : RQ P nw nb nr tp c' m' := by
  have hp := pr_pl (rq_pr h)
  have hpr := isPl_le hp
  have hw6 := pr_w6 (rq_pr h); have hb8 := pr_b8 (rq_pr h); have hr12 := pr_r12 (rq_pr h)
  have v : ∀ s, VE (vM s m'.1) (vM s m.1) := fun s => ve_rows (fun k k1 k2 => m2 k (by omega) (by omega))
  have hG : ∀ k, 101 ≤ k → k ≤ 116 → m'.1 k = m.1 k := fun k k1 k2 => m2 k (by omega) (by omega)
  have g51 : m'.1 99 51 = -1 := by rw [m3 51 (by omega) (by omega)]; exact rq_po h
  have scx : ∀ q s, (q = 45 ∨ q = 59) → SC nw nb nr 0 tp 0 (fun _ _ => True) True m.1 (-1) (vC q c.1) (c.2.1 q 3) (vM s m.1) → SC nw nb nr 0 tp 0 (fun _ _ => True) True m'.1 (-1) (vC q c'.1) (c'.2.1 q 3) (vM s m'.1) := by
    intro q s hq hs
    rw [eL]
    refine sc_ve hs hw6 hb8 hr12 (m3 50 (by omega) (by omega)) (rq_po h) g51 rfl hG (fun k hk => ?_) (fun j j1 j2 k hk => ?_) (v s)
    · show c'.1 q k = c.1 q k; rw [c2 q (by omega)]
    · show c'.1 (q + j) k = c.1 (q + j) k; rw [c2 (q + j) (by omega)]
  refine ⟨(rq_rc h).same e1, (rq_rm h).same e2, pr_congr (rq_pr h) (fun j hj => c2 _ (by omega)) hG, scx 45 0 (Or.inl rfl) (rq_sn h), (m3 50 (by omega) (by omega)).trans (rq_tw h), g51, (m3 53 (by omega) (by omega)).trans (rq_ew h), ?_, ?_, hse, ?_, ?_, ?_⟩
  · rw [c2 0 (by omega), m3 48 (by omega) (by omega)]
    rcases rq_im h with z | ⟨z1, z2, z3⟩
    · exact Or.inl z
    · exact Or.inr ⟨z1, z2, scx 59 2 (Or.inr rfl) z3⟩
  · obtain ⟨u, u1, u2, u3, u4⟩ := rq_un h
    refine ⟨u, u1, ?_, ?_, fun k hk => ?_⟩
    · rw [c2 89 (by omega)]; exact u2
    · rw [m3 49 (by omega) (by omega)]; exact u3
    · rw [c2 90 (by omega), c2 91 (by omega)]
      exact ve_uns hw6 hb8 (m2 103 (by omega) (by omega)) (u4 k hk) (v _) (v _)
  · have z := rq_ta h
    unfold TAP at z ⊢
    rw [c2 0 (by omega), c2 1 (by omega), m3 2 (by omega) (by omega), m2 100 (by omega) (by omega)]
    exact z
  · rw [c2 0 (by omega), m3 28 (by omega) (by omega), m3 29 (by omega) (by omega)]; exact rq_fa h
  · rw [c2 41 (by omega)]; exact rq_wd h
theorem pE_0 {d : xD} {v : Int32} : xpI 5 shA d 92 0 v = some (xu d.1 92 0 v, d.2.1, d.2.2) := pI_of sA_92 rfl
theorem pE_1 {d : xD} {v : Int32} : xpI 5 shA d 92 1 v = some (xu d.1 92 1 v, d.2.1, d.2.2) := pI_of sA_92 rfl
theorem vpb {v : Int32} (h : v = 0 ∨ v = 1) : vp_nar .boolean v = v := by
  rcases h with h | h <;> subst h <;> decide
theorem sB_of {d : xD} {q n i : Nat} {v : Int32} (h : shA[q]? = some (.inr (.boolean, n))) (hi : i < n) (hn : n < 2 ^ 31) (hv : v = 0 ∨ v = 1) : xsI .boolean shA d q (nI i) v = some (xu d.1 q i v, d.2.1, d.2.2) := by
  have h1 : ¬ (nI i < 0 ∨ n ≤ (nI i).toNatClampNeg) := nI_in hi hn
  unfold xsI
  rw [len_of h, Option.bind_some, if_neg h1, nI_clamp (show i < 2 ^ 31 by omega), vpb hv]
theorem aB_of {d : xD} {q n i : Nat} (h : shA[q]? = some (.inr (.boolean, n))) (hi : i < n) (hn : n < 2 ^ 31) : xaI .boolean shA d q (nI i) = some (d.1 q i) := aI_of h hi hn
theorem e_full {d : xD} {n : Nat} (hn : n ≤ 24) (h0 : d.1 92 0 = nI n) : f_X5_isFull shA 92 d = some (if n < 24 then 0 else 1, d) := by
  unfold f_X5_isFull k_X5_isFull_14
  rw [gI_of sA_92, Option.bind_some, h0]
  by_cases z : n < 24
  · rw [if_pos (show nI n < (24 : Int32) from nI_lt (b := 24) z (by omega)), if_pos z]; rfl
  · rw [if_neg (show ¬ nI n < (24 : Int32) from nI_nlt (b := 24) (by omega) (by omega)), if_neg z]; rfl
theorem l2_known : L2_known Rel := by
  intro d a1 hd
  refine co_L2 (fC := f_X9_known shA 0 a1) (fM := f_X10_known shA 99 a1) (co_do hd ?_)
  intro P nw nb nr tp md m hm hQ
  obtain ⟨n, h1, h2, h3, h4, h5, h6⟩ := rq_se hQ
  unfold f_X10_known
  rw [t0_e, ← hm]
  unfold f_X9_known k_X9_known_16 k_X10_known_18
  by_cases c0 : a1 < -1
  · rw [if_pos c0, if_pos c0]; exact do_same hQ _
  rw [if_neg c0, if_neg c0, g0_14 hQ, Option.bind_some, gI_of sA_92, Option.bind_some, h2, gI_of sA_99, Option.bind_some, h3]
  by_cases c1 : a1 ≤ nI n
  · simp only [if_pos c1, Option.bind_some, pE_1, pM_58]
    refine ⟨1, _, _, rfl, rfl, ⟨rfl, fun k hk => ⟨xu_off (by omega), rfl⟩⟩, ⟨rfl, fun k hk => ⟨xu_off (by omega), rfl⟩⟩, ?_⟩
    refine rq_seen hQ rfl rfl rfl (fun k hk => xu_off (by omega)) (fun k k1 k2 => xu_off (by omega)) (fun k _ k2 => by dsimp only; rw [xu_at2 k2]) ⟨n, h1, ?_, ?_, ?_, ?_, fun i hi => ?_⟩
    · dsimp only; rw [xu_at2 (by omega)]; exact h2
    · dsimp only; rw [xu_at2 (by omega)]; exact h3
    · dsimp only; rw [xu_at, xu_at]
    · dsimp only
      rw [xu_at]
      by_cases z : a1 = -1
      · exact Or.inl z
      · refine Or.inr ?_
        have nn : ¬ a1 < 0 := by
          intro w
          apply z
          have w1 := Int32.lt_iff_toInt_lt.mp w
          rw [show (0 : Int32).toInt = 0 by decide] at w1
          have w2 : ¬ a1.toInt < -1 := fun y => c0 (Int32.lt_iff_toInt_lt.mpr (by rw [show (-1 : Int32).toInt = -1 by decide]; exact y))
          apply Int32.toInt_inj.mp
          rw [show (-1 : Int32).toInt = -1 by decide]; omega
        obtain ⟨j, hj, rfl⟩ := nI_of nn
        exact ⟨j, (nI_leI hj (by omega)).mp c1, rfl⟩
    · dsimp only
      rw [xu_cell (by omega), xu_cell (by omega), xu_cell (by omega), xu_cell (by omega), xu_cell (by omega), xu_cell (by omega), xu_cell (by omega), xu_cell (by omega), xu_cell (by omega), xu_cell (by omega)]
      exact h6 i hi
  · simp only [if_neg c1, Option.bind_some]; exact do_same hQ _
theorem l2_strike : L2_strike Rel := by
  intro d a1 hd
  refine co_L2 (fC := f_X9_strike shA 0 a1) (fM := f_X10_strike shA 99 a1) (co_do hd ?_)
  intro P nw nb nr tp md m hm hQ
  have hRc := rq_rc hQ; have hRm := rq_rm hQ
  obtain ⟨n, h1, h2, h3, h4, h5, h6⟩ := rq_se hQ
  unfold f_X10_strike
  rw [t0_e, ← hm]
  unfold f_X9_strike k_X9_strike_25 k_X10_strike_26
  by_cases c0 : a1 < 0
  · rw [if_pos c0, if_pos c0]; exact do_same hQ _
  rw [if_neg c0, if_neg c0]
  simp only [g0_14 hQ, Option.bind_some, gI_of sA_92, h2, gI_of sA_99, h3, on_of sA_92, e_full h1 h2]
  by_cases c1 : nI n ≤ a1
  · rw [if_pos c1, if_pos c1]; exact do_same hQ _
  rw [if_neg c1, if_neg c1]
  by_cases c2 : n < 24
  · rw [if_pos c2, if_pos rfl, if_neg (show ¬ nI n = (24 : Int32) from fun z => by have := (nI_eq (b := 24) (show n < 2 ^ 31 by omega) (by omega)).mp z; omega)]
    obtain ⟨j, hj, rfl⟩ := nI_of c0
    have hjn : j < n := by
      rcases Nat.lt_or_ge j n with z | z
      · exact z
      · exact absurd (nI_le z hj) c1
    unfold f_X5_addStrike
    simp (disch := omega) only [xgR, xgI, sA_92, rf_92_2 hRc, ↓reduceIte, Option.bind_some, h2, sI_of sA_93, xu_cell, xu_at, pE_0, nI_1, nI_pred, sA_99, rf_99_63 hRm, h3, sI_of sA_137, pM_57]
    refine ⟨nI n, _, _, rfl, rfl, ⟨rfl, fun k hk => ⟨?_, rfl⟩⟩, ⟨rfl, fun k hk => ⟨?_, rfl⟩⟩, ?_⟩
    · dsimp only; rw [xu_off (by omega), xu_off (by omega)]
    · dsimp only; rw [xu_off (by omega), xu_off (by omega)]
    refine rq_seen hQ rfl rfl rfl (fun k hk => by dsimp only; rw [xu_off (by omega), xu_off (by omega)]) (fun k k1 k2 => by dsimp only; rw [xu_off (by omega), xu_off (by omega)]) (fun k k1 _ => by dsimp only; rw [xu_at2 k1, xu_cell (by omega)]) ⟨n + 1, by omega, ?_, ?_, ?_, ?_, fun i hi => ?_⟩
    · dsimp only; rw [xu_at]
    · dsimp only; rw [xu_at]
    · dsimp only; rw [xu_at2 (by omega), xu_cell (by omega), xu_at2 (by omega), xu_cell (by omega)]; exact h4
    · dsimp only; rw [xu_at2 (by omega), xu_cell (by omega)]
      exact h5.imp id (fun ⟨k, k1, k2⟩ => ⟨k, by omega, k2⟩)
    · dsimp only
      simp (disch := omega) only [xu_cell]
      rw [xu_is, xu_is]
      by_cases z : i = n
      · rw [if_pos z, if_pos z]; exact ⟨rfl, Or.inr ⟨j, by omega, rfl⟩⟩
      · rw [if_neg z, if_neg z]; exact h6 i (by omega)
  · rw [if_neg c2, if_neg one_ne_zero32, if_pos (show nI n = (24 : Int32) by rw [show n = 24 by omega]; rfl)]; exact do_same hQ _
theorem l2_see : L2_see Rel := by
  intro d a1 a2 a3 a4 h01 hd
  refine co_L2 (fC := f_X9_see shA 0 a1 a2 a3 a4) (fM := f_X10_see shA 99 a1 a2 a3 a4) (co_do hd ?_)
  intro P nw nb nr tp md m hm hQ
  have hp := pr_pl (rq_pr hQ)
  have hRc := rq_rc hQ; have hRm := rq_rm hQ
  obtain ⟨n, h1, h2, h3, h4, h5, h6⟩ := rq_se hQ
  unfold f_X10_see
  rw [t0_e, ← hm]
  unfold f_X9_see k_X9_see_22 k_X9_see_45 k_X10_see_44
  by_cases c0 : a1 < 1
  · rw [if_pos c0, if_pos c0]; exact do_same hQ _
  rw [if_neg c0, if_neg c0]
  by_cases c1 : 60 < a1
  · rw [if_pos c1, if_pos c1]; exact do_same hQ _
  rw [if_neg c1, if_neg c1, g0_4 hQ, Option.bind_some, on_of (sp_0 hp), on_of sA_99]
  rcases e_hasB hQ a2 with ⟨b, hb, rfl, e1, e2⟩ | ⟨e1, e2⟩
  · rw [e1, e2, Option.bind_some, Option.bind_some]
    dsimp only
    rw [if_neg one_ne_zero32, if_neg one_ne_zero32]
    by_cases c2 : a3 < 0
    · rw [if_pos c2, if_pos c2]; exact do_same hQ _
    rw [if_neg c2, if_neg c2]
    by_cases c3 : 9999 < a3
    · rw [if_pos c3, if_pos c3]; exact do_same hQ _
    rw [if_neg c3, if_neg c3, g0_14 hQ, Option.bind_some, on_of sA_92, e_full h1 h2, Option.bind_some, gI_of sA_99, Option.bind_some, h3]
    dsimp only
    by_cases c4 : n < 24
    · rw [if_pos c4, if_pos rfl, if_neg (show ¬ nI n = (24 : Int32) from fun z => by have := (nI_eq (b := 24) (show n < 2 ^ 31 by omega) (by omega)).mp z; omega)]
      have c0' : ¬ a1 < 0 := fun z => c0 (Int32.lt_trans z (by decide))
      obtain ⟨a, ha, rfl⟩ := nI_of2 (n := 60) (by decide) c0' (Int32.not_lt.mp c1)
      have ha1 : 1 ≤ a := by
        rcases Nat.eq_zero_or_pos a with z | z
        · subst z; exact absurd (show nI 0 < 1 by decide) c0
        · exact z
      have sb97 : ∀ d : xD, xsI .boolean shA d 97 (nI n) a4 = some (xu d.1 97 n a4, d.2.1, d.2.2) := fun d => sB_of sA_97 (by omega) (by omega) h01
      have sb136 : ∀ d : xD, xsI .boolean shA d 136 (nI n) a4 = some (xu d.1 136 n a4, d.2.1, d.2.2) := fun d => sB_of sA_136 (by omega) (by omega) h01
      unfold f_X5_addSight
      rw [g0_14 hQ, Option.bind_some, on_of sA_92]
      simp (disch := omega) only [xgR, xgI, sA_92, on_of sA_92, rf_92_2 hRc, rf_92_3 hRc, rf_92_4 hRc, rf_92_5 hRc, rf_92_6 hRc, ↓reduceIte, Option.bind_some, h2, sI_of sA_93, sI_of sA_94, sI_of sA_95, sI_of sA_96, sb97, xu_cell, xu_at, pE_0, nI_1, nI_pred, sA_99, rf_99_59 hRm, rf_99_60 hRm, rf_99_61 hRm, rf_99_62 hRm, rf_99_63 hRm, h3, sI_of sA_133, sI_of sA_134, sI_of sA_135, sb136, sI_of sA_137, pM_57]
      refine ⟨nI n, _, _, rfl, rfl, ⟨rfl, fun k hk => ⟨?_, rfl⟩⟩, ⟨rfl, fun k hk => ⟨?_, rfl⟩⟩, ?_⟩
      · dsimp only; rw [xu_off (by omega), xu_off (by omega), xu_off (by omega), xu_off (by omega), xu_off (by omega), xu_off (by omega)]
      · dsimp only; rw [xu_off (by omega), xu_off (by omega), xu_off (by omega), xu_off (by omega), xu_off (by omega), xu_off (by omega)]
      refine rq_seen hQ rfl rfl rfl (fun k hk => by dsimp only; rw [xu_off (by omega), xu_off (by omega), xu_off (by omega), xu_off (by omega), xu_off (by omega), xu_off (by omega)]) (fun k k1 k2 => by dsimp only; rw [xu_off (by omega), xu_off (by omega), xu_off (by omega), xu_off (by omega), xu_off (by omega), xu_off (by omega)]) (fun k k1 _ => by dsimp only; rw [xu_at2 k1, xu_cell (by omega), xu_cell (by omega), xu_cell (by omega), xu_cell (by omega), xu_cell (by omega)]) ⟨n + 1, by omega, ?_, ?_, ?_, ?_, fun i hi => ?_⟩
      · dsimp only; rw [xu_at]
      · dsimp only; rw [xu_at]
      · dsimp only
        rw [xu_at2 (by omega), xu_at2 (by omega)]
        simp (disch := omega) only [xu_cell]
        exact h4
      · dsimp only
        rw [xu_at2 (by omega)]
        simp (disch := omega) only [xu_cell]
        exact h5.imp id (fun ⟨k, k1, k2⟩ => ⟨k, by omega, k2⟩)
      · dsimp only
        simp (disch := omega) only [xu_cell, xu_is]
        by_cases z : i = n
        · simp only [if_pos z]
          exact ⟨trivial, Or.inl ⟨trivial, ⟨a, ha1, ha, rfl, rfl⟩, ⟨b, hb, rfl, rfl⟩, trivial, trivial, h01⟩⟩
        · simp only [if_neg z]; exact h6 i (by omega)
    · rw [if_neg c4, if_neg one_ne_zero32, if_pos (show nI n = (24 : Int32) by rw [show n = 24 by omega]; rfl)]; exact do_same hQ _
  · rw [e1, e2]; exact do_same hQ _

/-! LEVEL 2: the reference works a law out; the worth of a law for a walker at a bench -/
theorem e_not {m : xD} {P : Nat} (hRm : RefOK m P) {hg : Nat} (hh : hg + 1 ≤ 64) (hw : m.1 99 34 = nI (hg + 1)) : f_X10_works shA 99 260 m = some (1, (m.1, xu m.2.1 118 hg (if lg_cmp (m.2.1 118 hg) 0 = 0 then 1 else 0), m.2.2)) := by
  unfold f_X10_works k_X10_works_40
  simp (disch := omega) only [xgI, xgR, Option.bind_some, ↓reduceIte, sA_99, rf_99_33 hRm, hw, nI_pred, aL_of sA_118]
  by_cases hc : lg_cmp (m.2.1 118 hg) 0 = 0
  · simp (disch := omega) only [if_pos hc, e_is1, Option.bind_some, sL_of sA_118]
  · simp (disch := omega) only [if_neg hc, e_is0, Option.bind_some, sL_of sA_118]
theorem goes_loop {m : xD} {P : Nat} (hRm : RefOK m P) {k a b : Nat} (hk : k < 3) (hb : b ≤ 64) (hto : m.1 114 k = nI b) (hok : ∀ i, a ≤ i → i < b → (m.1 115 i = 0 ∨ (m.1 115 i = 1 ∧ ∃ a, a < 7 ∧ m.1 116 i = nI a) ∨ (m.1 115 i = 2 ∧ isSg (m.1 116 i)))) : ∀ n i h F L, i + n = b → a ≤ i → h ≤ i → n < F → post (m.1 115) (m.1 116) i n h → ∃ (L' : Nat → Nat → Int64) (h' : Int32), (∀ j, j ≠ 118 → L' j = L j) ∧ (∀ v, ev (m.1 115) (m.1 116) (L 117) i n h (L 118) = some v → L' 118 0 = v) ∧ xloop (fun _ _ _ _ => none) (b_X10_goes_12 shA) F 99 (nI k) (nI i) (xu m.1 99 34 (nI h), L, m.2.2) = some (if (ev (m.1 115) (m.1 116) (L 117) i n h (L 118)).isSome then 1 else 0, (xu m.1 99 34 h', L', m.2.2)) := by
  intro n
  induction n with
  | zero =>
    intro i h F L h1 h2 h3 h4 h5
    obtain ⟨F, rfl⟩ : ∃ G, F = G + 1 := ⟨F - 1, by omega⟩
    refine ⟨L, nI h, fun _ _ => rfl, fun v hv => Option.some.inj hv, ?_⟩
    rw [loop_s, b_X10_goes_12]
    simp (disch := omega) only [xgR, Option.bind_some, ↓reduceIte, sA_99, rf_99_16 hRm, aI_of sA_114, xu_cell, hto]
    rw [if_pos (nI_le (by omega) (by omega))]
    rfl
  | succ n ih =>
    intro i h F L h1 h2 h3 h4 h5
    obtain ⟨F, rfl⟩ : ∃ G, F = G + 1 := ⟨F - 1, by omega⟩
    have e2 := hok i h2 (by omega)
    have step : ∀ (h' v' : Nat) (w : Int64), h' ≤ i + 1 → post (m.1 115) (m.1 116) (i + 1) n h' → ∃ (L' : Nat → Nat → Int64) (h'' : Int32), (∀ j, j ≠ 118 → L' j = L j) ∧ (∀ v, ev (m.1 115) (m.1 116) (L 117) (i + 1) n h' (up1 (L 118) v' w) = some v → L' 118 0 = v) ∧ xloop (fun _ _ _ _ => none) (b_X10_goes_12 shA) F 99 (nI k) (nI (i + 1)) (xu m.1 99 34 (nI h'), xu L 118 v' w, m.2.2) = some (if (ev (m.1 115) (m.1 116) (L 117) (i + 1) n h' (up1 (L 118) v' w)).isSome then 1 else 0, (xu m.1 99 34 h'', L', m.2.2)) := by
      intro h' v' w q1 q3
      obtain ⟨L', h'', hL, hv, e⟩ := ih (i + 1) h' F (xu L 118 v' w) (by omega) (by omega) q1 (by omega) q3
      rw [xu_up, xu_off (show (117 : Nat) ≠ 118 by omega)] at hv e
      exact ⟨L', h'', fun j hj => (hL j hj).trans (xu_off hj), hv, e⟩
    have hb' : (nI b ≤ nI i) = False := eq_false (nI_ge (by omega) (by omega))
    rw [loop_s, b_X10_goes_12]
    simp (disch := omega) only [xgI, xgR, Option.bind_some, ↓reduceIte, sA_99, rf_99_16 hRm, rf_99_17 hRm, rf_99_18 hRm, rf_99_32 hRm, rf_99_33 hRm, aI_of sA_114, aI_of sA_115, aI_of sA_116, xu_cell, xu_at, hto, hb', on_of sA_99]
    unfold k_X10_goes_45 k_X10_goes_85 k_X10_goes_96
    rcases e2 with s0 | ⟨s1, a0, ha0, v0⟩ | ⟨s2, sg⟩
    · have n2 : ¬ m.1 115 i = 2 := by rw [s0]; decide
      rw [if_neg n2, if_pos s0, ev_n s0]
      simp (disch := omega) only [sL_of sA_118, Option.bind_some, xgI, sA_99, ↓reduceIte, xu_at, pM_34, nI_1, xu_xu]
      exact step (h + 1) h _ (by omega) (post_v n2 h5)
    · have n2 : ¬ m.1 115 i = 2 := by rw [s1]; decide
      have n0 : ¬ m.1 115 i = 0 := by rw [s1]; decide
      rw [if_neg n2, if_neg n0, ev_a s1, v0, nI_clamp (show a0 < 2 ^ 31 by omega)]
      simp (disch := omega) only [aL_of sA_117, sL_of sA_118, Option.bind_some, xgI, sA_99, ↓reduceIte, xu_at, pM_34, nI_1, xu_xu]
      exact step (h + 1) h _ (by omega) (post_v n2 h5)
    · rw [if_pos s2]
      by_cases v2 : m.1 116 i = 260
      · obtain ⟨q4, q5⟩ := post_not s2 v2 h5
        obtain ⟨g, rfl⟩ : ∃ g, h = g + 1 := ⟨h - 1, by omega⟩
        have e3 := e_not (m := (xu m.1 99 34 (nI (g + 1)), L, m.2.2)) (hRm.same rfl) (hg := g) (by omega) (show xu m.1 99 34 (nI (g + 1)) 99 34 = nI (g + 1) from xu_at)
        dsimp only at e3
        rw [v2, e3, Option.bind_some, ev_not s2 v2]
        dsimp only
        rw [if_neg one_ne_zero32, nI_1]
        exact step (g + 1) g _ (by omega) q5
      · obtain ⟨q4, q5⟩ := post_op s2 v2 h5
        obtain ⟨g, rfl⟩ : ∃ g, h = g + 2 := ⟨h - 2, by omega⟩
        obtain ⟨L1, k1, k2, k3⟩ := e_works (m := (xu m.1 99 34 (nI (g + 2)), L, m.2.2)) (hRm.same rfl) (hg := g) (by omega) (show xu m.1 99 34 (nI (g + 2)) 99 34 = nI (g + 2) from xu_at) sg v2
        dsimp only at k1 k2 k3
        rw [k2, Option.bind_some, ev_op s2 v2]
        dsimp only
        rw [xu_xu, nI_1]
        cases hO : opv (m.1 116 i) (L 118 g) (L 118 (g + 1)) with
        | none =>
          refine ⟨L1, nI (g + 1), k1, fun v hv => absurd hv (by simp), ?_⟩
          simp
        | some v =>
          have k4 := k3 v hO
          subst k4
          rw [if_neg (by simp)]
          exact step (g + 1) g v (by omega) q5
theorem lw_0 {P nw nb nr tp : Nat} {I J : Nat → Nat → Int32} (hh : PR P 0 nw nb nr tp I J) {k : Nat} (hk : k < 3) : (bt (I (P + 13) 4) k = false ∧ J 113 k = J 114 k) ∨ (bt (I (P + 13) 4) k = true ∧ ∃ a b, a < b ∧ b ≤ 64 ∧ I (P + 16) k = nI a ∧ I (P + 17) k = nI b ∧ J 113 k = nI a ∧ J 114 k = nI b ∧ (∀ i, a ≤ i → i < b → I (P + 14) i = trK (J 115 i) (J 116 i) ∧ okK (J 115 i) (J 116 i) (I (P + 15) i)) ∧ post (J 115) (J 116) a (b - a) 0) := by
  have z := pr_lw hh k hk
  unfold LW at z
  simp only [Nat.mul_zero, Nat.zero_add] at z
  exact z
/-- the seven words for walker p at bench b, worn w -/
def nmv (G Y : Nat → Nat → Int32) (nw p b : Nat) (w : Int32) : Nat → Int64 := fun k => if k = 0 then (if nI p = G 99 51 then G 99 52 else G 108 p).toInt64 else if k = 1 then (1 - Y 7 p).toInt64 else if k = 2 then (G 103 b).toInt64 else if k = 3 then w.toInt64 else if k = 4 then (bo (sit Y nw b) 0 12 0).toInt64 else if k = 5 then (Y 10 p).toInt64 else (Y 0 0).toInt64
theorem nmv_ne (G Y : Nat → Nat → Int32) (nw p b : Nat) (w : Int32) (a : Nat) : nmv G Y nw p b w a ≠ -9223372036854775808 := by
  unfold nmv
  (repeat' split) <;> exact toL_ne _
/-- a law's worth; none: no such law, or an error -/
def lvv (G Y : Nat → Nat → Int32) (nw k p b : Nat) (w : Int32) : Option Int64 := if G 113 k < G 114 k then ev (G 115) (G 116) (nmv G Y nw p b w) (G 113 k).toNatClampNeg ((G 114 k).toNatClampNeg - (G 113 k).toNatClampNeg) 0 (fun _ => 0) else none
theorem lvv_none {G Y : Nat → Nat → Int32} {nw k p b : Nat} {w : Int32} (e : G 113 k = G 114 k) : lvv G Y nw k p b w = none := by
  unfold lvv; rw [if_neg (by rw [e]; exact Int32.lt_irrefl)]
theorem lvv_some {G Y : Nat → Nat → Int32} {nw k p b : Nat} {w : Int32} {a b' : Nat} (h1 : G 113 k = nI a) (h2 : G 114 k = nI b') (h3 : a < b') (h4 : b' ≤ 64) : lvv G Y nw k p b w = ev (G 115) (G 116) (nmv G Y nw p b w) a (b' - a) 0 (fun _ => 0) := by
  unfold lvv; rw [h1, h2, if_pos (nI_lt h3 (by omega)), nI_clamp (by omega), nI_clamp (by omega)]
theorem lvv_ne {P nw' nb nr tp : Nat} {I G Y : Nat → Nat → Int32} (hh : PR P 0 nw' nb nr tp I G) {nw k p b : Nat} {w : Int32} (hk : k < 3) {v : Int64} (hv : lvv G Y nw k p b w = some v) : v ≠ -9223372036854775808 := by
  rcases lw_0 hh hk with ⟨_, e⟩ | ⟨_, a, b', h1, h2, _, _, h3, h4, _, h5⟩
  · rw [lvv_none e] at hv; exact absurd hv (by simp)
  · rw [lvv_some h3 h4 h1 h2] at hv
    exact ev_ne (nmv_ne _ _ _ _ _ _) _ _ _ _ (fun j hj => by omega) h5 v hv
theorem e_told {P q s nw nb nr tp : Nat} {c0 m0 c m : xD} (h : WF P q s nw nb nr tp c0 m0 c m) {k : Nat} (hk : k < 3) (L : Nat → Nat → Int64) : f_X1_isTold shA (P + 13) (nI k) (c.1, L, c.2.2) = some (if bt (c0.1 (P + 13) 4) k then 1 else 0, (c.1, L, c.2.2)) := by
  have hRc := wf_rc h; have hRm := wf_rm h; have hq := wf_sq h; have hp := pr_pl (wf_pr h); have hs23 := wf_s23 h; have hqr := isSc_ge hq; have hpr := isPl_le hp; have hw6 := pr_w6 (wf_pr h); have hb8 := pr_b8 (wf_pr h); have hr12 := pr_r12 (wf_pr h); have ht2 := pr_t2 (wf_pr h); have ht60 := pr_t60 (wf_pr h)
  unfold f_X1_isTold k_X1_isTold_17
  simp only [xgI, sp_13 hp, ↓reduceIte, Option.bind_some, bi1 _ (show k < 32 by omega), wf_oc h (P + 13) (Or.inl (by omega))]
  cases bt (c0.1 (P + 13) 4) k
  · rfl
  · rfl
theorem sN_0 {d : xD} {v : Int64} : xsL shA d 88 (0 : Int32) v = some (d.1, xu d.2.1 88 0 v, d.2.2) := sL_of (i := 0) sA_88 (by decide) (by decide)
theorem sN_1 {d : xD} {v : Int64} : xsL shA d 88 (1 : Int32) v = some (d.1, xu d.2.1 88 1 v, d.2.2) := sL_of (i := 1) sA_88 (by decide) (by decide)
theorem sN_2 {d : xD} {v : Int64} : xsL shA d 88 (2 : Int32) v = some (d.1, xu d.2.1 88 2 v, d.2.2) := sL_of (i := 2) sA_88 (by decide) (by decide)
theorem sN_3 {d : xD} {v : Int64} : xsL shA d 88 (3 : Int32) v = some (d.1, xu d.2.1 88 3 v, d.2.2) := sL_of (i := 3) sA_88 (by decide) (by decide)
theorem sN_4 {d : xD} {v : Int64} : xsL shA d 88 (4 : Int32) v = some (d.1, xu d.2.1 88 4 v, d.2.2) := sL_of (i := 4) sA_88 (by decide) (by decide)
theorem sN_5 {d : xD} {v : Int64} : xsL shA d 88 (5 : Int32) v = some (d.1, xu d.2.1 88 5 v, d.2.2) := sL_of (i := 5) sA_88 (by decide) (by decide)
theorem sN_6 {d : xD} {v : Int64} : xsL shA d 88 (6 : Int32) v = some (d.1, xu d.2.1 88 6 v, d.2.2) := sL_of (i := 6) sA_88 (by decide) (by decide)
theorem tN_0 {d : xD} {v : Int64} : xsL shA d 117 (0 : Int32) v = some (d.1, xu d.2.1 117 0 v, d.2.2) := sL_of (i := 0) sA_117 (by decide) (by decide)
theorem tN_1 {d : xD} {v : Int64} : xsL shA d 117 (1 : Int32) v = some (d.1, xu d.2.1 117 1 v, d.2.2) := sL_of (i := 1) sA_117 (by decide) (by decide)
theorem tN_2 {d : xD} {v : Int64} : xsL shA d 117 (2 : Int32) v = some (d.1, xu d.2.1 117 2 v, d.2.2) := sL_of (i := 2) sA_117 (by decide) (by decide)
theorem tN_3 {d : xD} {v : Int64} : xsL shA d 117 (3 : Int32) v = some (d.1, xu d.2.1 117 3 v, d.2.2) := sL_of (i := 3) sA_117 (by decide) (by decide)
theorem tN_4 {d : xD} {v : Int64} : xsL shA d 117 (4 : Int32) v = some (d.1, xu d.2.1 117 4 v, d.2.2) := sL_of (i := 4) sA_117 (by decide) (by decide)
theorem tN_5 {d : xD} {v : Int64} : xsL shA d 117 (5 : Int32) v = some (d.1, xu d.2.1 117 5 v, d.2.2) := sL_of (i := 5) sA_117 (by decide) (by decide)
theorem tN_6 {d : xD} {v : Int64} : xsL shA d 117 (6 : Int32) v = some (d.1, xu d.2.1 117 6 v, d.2.2) := sL_of (i := 6) sA_117 (by decide) (by decide)
theorem e_sitCL {P q s nw nb nr tp : Nat} {c0 m0 c m : xD} (h : WF P q s nw nb nr tp c0 m0 c m) {e tl : Nat} {mt : Nat → Nat → Prop} {fl : Prop} (hs : SC nw nb nr e tp tl mt fl m0.1 (m.1 99 53) (vC q c.1) (c.2.1 q 3) (vM s m.1)) {b : Nat} (hb : b < nb) (L : Nat → Nat → Int64) : f_X4_sittersOn shA q (m0.1 103 b) (c.1, L, c.2.2) = some (sit (vM s m.1) nw b, (c.1, L, c.2.2)) := by
  have hRc := wf_rc h; have hRm := wf_rm h; have hq := wf_sq h; have hp := pr_pl (wf_pr h); have hs23 := wf_s23 h; have hqr := isSc_ge hq; have hpr := isPl_le hp; have hw6 := pr_w6 (wf_pr h); have hb8 := pr_b8 (wf_pr h); have hr12 := pr_r12 (wf_pr h); have ht2 := pr_t2 (wf_pr h); have ht60 := pr_t60 (wf_pr h)
  have e1 := X4_sittersOn (d := (c.1, L, c.2.2)) (hRc.same rfl) hq (sc_cw hs) hw6 (m0.1 103 b)
  have e2 := X4_sittersOn hRc hq (sc_cw hs) hw6 (m0.1 103 b)
  have e3 := e_sitC h hs hb
  rw [e3] at e2
  have e4 := congrArg Prod.fst (Option.some.inj e2)
  dsimp only at e4
  rw [e1, e4]
theorem e_worth {P q s nw nb nr tp : Nat} {c0 m0 c m : xD} (h : WF P q s nw nb nr tp c0 m0 c m) {e tl : Nat} {mt : Nat → Nat → Prop} {fl : Prop} (hs : SC nw nb nr e tp tl mt fl m0.1 (m.1 99 53) (vC q c.1) (c.2.1 q 3) (vM s m.1)) {k p b : Nat} (hk : k < 3) (hpw : p < nw) (hb : b < nb) : ∃ L', (∀ j, j ≠ 88 → j ≠ P + 18 → L' j = c.2.1 j) ∧ f_X2_worth shA 87 q (nI k) (nI p) (nI b) c = some ((lvv m0.1 (vM s m.1) nw k p b (vM s m.1 12 b)).getD (-9223372036854775808), (c.1, L', c.2.2)) := by
  have hRc := wf_rc h; have hRm := wf_rm h; have hq := wf_sq h; have hp := pr_pl (wf_pr h); have hs23 := wf_s23 h; have hqr := isSc_ge hq; have hpr := isPl_le hp; have hw6 := pr_w6 (wf_pr h); have hb8 := pr_b8 (wf_pr h); have hr12 := pr_r12 (wf_pr h); have ht2 := pr_t2 (wf_pr h); have ht60 := pr_t60 (wf_pr h)
  have x1 : c.1 (q + 4) p = (if nI p = m0.1 99 51 then m0.1 99 52 else m0.1 108 p) := sc_pa hs p hpw
  have x2 : c.1 (q + 3) p = vM s m.1 7 p := sc_dn hs p hpw
  have x3 : c.1 (P + 2) b = m0.1 103 b := by rw [wf_oc h (P + 2) (Or.inl (by omega))]; exact p0_bs (wf_pr h) b hb
  have x4 : c.1 (q + 9) b = vM s m.1 12 b := by obtain ⟨a, _, y1, y2⟩ := sc_wo hs b hb; rw [y2]; exact y1
  have x5 : c.1 (q + 6) p = vM s m.1 10 p := sc_sa hs p hpw
  have x6 : c.1 q 0 = vM s m.1 0 0 := sc_mi hs
  have t := e_told h hk c.2.1
  unfold f_X2_worth
  rcases lw_0 (wf_pr h) hk with ⟨t0, e0⟩ | ⟨t1, a, b', g1, g2, g3, g4, g5, g6, g7, g8⟩
  · refine ⟨c.2.1, fun _ _ _ => rfl, ?_⟩
    rw [lvv_none e0]
    have t' : f_X1_isTold shA (P + 13) (nI k) c = some (0, c) := by rw [t0] at t; exact t
    simp only [xgR, sA_87, rf_87_0 hRc, sp_0 hp, rp_19 hRc hp, on_of (sp_13 hp), ↓reduceIte, Option.bind_some, t']
    rfl
  · have t' : f_X1_isTold shA (P + 13) (nI k) c = some (1, c) := by rw [t1] at t; exact t
    simp (disch := omega) only [xgR, xgI, sA_87, rf_87_0 hRc, rf_87_1 hRc, sp_0 hp, rp_19 hRc hp, rp_6 hRc hp, on_of (sp_13 hp), on_of (ss_0 hq), ss_0 hq, rs_7 hRc hq, rs_8 hRc hq, rs_10 hRc hq, rs_13 hRc hq, aI_of (ss_3 hq), aI_of (ss_4 hq), aI_of (ss_6 hq), aI_of (ss_9 hq), aI_of (sp_2 hp), ↓reduceIte, Option.bind_some, t', one_ne_zero32, sN_0, sN_1, sN_2, sN_3, sN_4, sN_5, sN_6, x1, x2, x3, x4, x5, x6]
    rw [e_sitCL h hs hb, Option.bind_some]
    dsimp only
    rw [(e_cnt (Y := vM s m.1) (b := b) hw6 _).1, Option.bind_some]
    simp (disch := omega) only [xgR, xgI, sA_87, rf_87_0 hRc, rf_87_1 hRc, sp_0 hp, rp_19 hRc hp, on_of (sp_13 hp), ss_0 hq, rs_10 hRc hq, aI_of (ss_6 hq), ↓reduceIte, Option.bind_some, sN_4, sN_5, sN_6, x5, x6]
    unfold f_X1_workOut
    have y1 : c.1 (P + 17) k = nI b' := by rw [wf_oc h (P + 17) (Or.inl (by omega))]; exact g4
    have y2 : c.1 (P + 16) k = nI a := by rw [wf_oc h (P + 16) (Or.inl (by omega))]; exact g3
    have y3 : ∀ i, a ≤ i → i < b' → c.1 (P + 14) i = trK (m0.1 115 i) (m0.1 116 i) ∧ okK (m0.1 115 i) (m0.1 116 i) (c.1 (P + 15) i) := by
      rw [wf_oc h (P + 14) (Or.inl (by omega)), wf_oc h (P + 15) (Or.inl (by omega))]; exact g7
    simp (disch := omega) only [xgR, sp_13 hp, rl_5 hRc hp, aI_of (sp_16 hp), ↓reduceIte, Option.bind_some, y2]
    rw [lvv_some g5 g6 g1 g2]
    generalize hLL : xu (xu (xu (xu (xu (xu (xu c.2.1 88 0 _) 88 1 _) 88 2 _) 88 3 _) 88 4 _) 88 5 _) 88 6 _ = LL
    obtain ⟨L', hL, e⟩ := workOut_loop (c := c) hRc hp hk g2 y1 y3 (b' - a) a 0 xF LL (by omega) (by omega) (by omega) (xF_big (by omega)) g8
    refine ⟨L', fun j j1 j2 => ?_, ?_⟩
    · rw [hL j j2, ← hLL]; simp only [xu_off j1]
    · have e' := e
      rw [show nI 0 = (0 : Int32) from rfl] at e'
      rw [e', Option.bind_some]
      dsimp only
      rw [ev_congr (nm' := nmv m0.1 (vM s m.1) nw p b (vM s m.1 12 b)) (b' - a) a 0 (LL (P + 18)) (fun _ => 0) (fun j hj => by omega) (fun j j1 j2 j3 j4 => ?_) g8]
      rcases (g7 j j1 (by omega)).2 with ⟨z, _⟩ | ⟨_, a0, ha0, v0⟩ | ⟨z, _⟩
      · exact absurd z j4
      · rw [v0, nI_clamp (by omega), ← hLL]
        rcases (show a0 = 0 ∨ a0 = 1 ∨ a0 = 2 ∨ a0 = 3 ∨ a0 = 4 ∨ a0 = 5 ∨ a0 = 6 by omega) with r | r | r | r | r | r | r <;> subst r <;> simp [xu, nmv]
      · exact absurd z j3
theorem e_paceOf {P q s nw nb nr tp : Nat} {c0 m0 c m : xD} (h : WF P q s nw nb nr tp c0 m0 c m) {p : Nat} (hpw : p < nw) (L : Nat → Nat → Int64) : f_X10_paceOf shA 99 (nI p) (m.1, L, m.2.2) = some (if nI p = m0.1 99 51 then m0.1 99 52 else m0.1 108 p, (m.1, L, m.2.2)) := by
  have hRc := wf_rc h; have hRm := wf_rm h; have hq := wf_sq h; have hp := pr_pl (wf_pr h); have hs23 := wf_s23 h; have hqr := isSc_ge hq; have hpr := isPl_le hp; have hw6 := pr_w6 (wf_pr h); have hb8 := pr_b8 (wf_pr h); have hr12 := pr_r12 (wf_pr h); have ht2 := pr_t2 (wf_pr h); have ht60 := pr_t60 (wf_pr h)
  unfold f_X10_paceOf k_X10_paceOf_21
  simp (disch := omega) only [xgI, xgR, sA_99, rf_99_10 hRm, aI_of sA_108, ↓reduceIte, Option.bind_some, wf_o9 h 51 (by omega) (by omega), wf_o9 h 52 (by omega) (by omega), wf_om h 108 (Or.inl (by omega)) (by omega)]
  by_cases e : nI p = m0.1 99 51
  · rw [if_pos e, if_pos e]
  · rw [if_neg e, if_neg e]
theorem e_sitML {P q s nw nb nr tp : Nat} {c0 m0 c m : xD} (h : WF P q s nw nb nr tp c0 m0 c m) (b : Nat) (L : Nat → Nat → Int64) (hL : ∀ k, k ≠ 117 → k ≠ 118 → L k = m.2.1 k) : f_X10_sitting shA 99 (nI s) (nI b) (m.1, L, m.2.2) = some (sit (vM s m.1) nw b, (m.1, L, m.2.2)) := e_sitM (wf_mL h hL) b
theorem e_calls {P q s nw nb nr tp : Nat} {c0 m0 c m : xD} (h : WF P q s nw nb nr tp c0 m0 c m) {p b : Nat} (hpw : p < nw) (hb : b < nb) : ∃ L', (∀ j, j ≠ 117 → L' j = m.2.1 j) ∧ (∀ a, a < 7 → L' 117 a = nmv m0.1 (vM s m.1) nw p b (vM s m.1 12 b) a) ∧ f_X10_calls shA 99 (nI s) (nI p) (nI b) m = some (m.1, L', m.2.2) := by
  have hRc := wf_rc h; have hRm := wf_rm h; have hq := wf_sq h; have hp := pr_pl (wf_pr h); have hs23 := wf_s23 h; have hqr := isSc_ge hq; have hpr := isPl_le hp; have hw6 := pr_w6 (wf_pr h); have hb8 := pr_b8 (wf_pr h); have hr12 := pr_r12 (wf_pr h); have ht2 := pr_t2 (wf_pr h); have ht60 := pr_t60 (wf_pr h)
  have hL : ∀ (v0 v1 v2 v3 : Int64) (k : Nat), k ≠ 117 → k ≠ 118 → xu (xu (xu (xu m.2.1 117 0 v0) 117 1 v1) 117 2 v2) 117 3 v3 k = m.2.1 k := fun v0 v1 v2 v3 k h1 _ => by simp only [xu_off h1]
  have e0 := e_paceOf h hpw m.2.1
  have e0' : f_X10_paceOf shA 99 (nI p) m = some (if nI p = m0.1 99 51 then m0.1 99 52 else m0.1 108 p, m) := e0
  unfold f_X10_calls
  simp (disch := omega) only [xgI, xgR, sA_99, on_of sA_99, rf_99_32 hRm, rf_99_42 hRm, rf_99_5 hRm, rf_99_47 hRm, rf_99_45 hRm, rf_99_35 hRm, m6_, m8_, nI_add, aI_of sA_126, aI_of sA_103, aI_of sA_131, aI_of sA_129, aI_of sA_119, ↓reduceIte, Option.bind_some, e0', tN_0, tN_1, tN_2, tN_3, tN_4, tN_5, tN_6, wf_om h 103 (Or.inl (by omega)) (by omega), rM_126, rM_131, rM_129, rM_119, e_sitML h b _ (hL _ _ _ _), e_bitsOf]
  refine ⟨_, fun j hj => ?_, fun a ha => ?_, rfl⟩
  · simp only [xu_off hj]
  · rcases (show a = 0 ∨ a = 1 ∨ a = 2 ∨ a = 3 ∨ a = 4 ∨ a = 5 ∨ a = 6 by omega) with r | r | r | r | r | r | r <;> subst r <;> simp [xu, nmv]
theorem e_hasLaw {P q s nw nb nr tp : Nat} {c0 m0 c m : xD} (h : WF P q s nw nb nr tp c0 m0 c m) {k : Nat} (hk : k < 3) : f_X10_hasLaw shA 99 (nI k) m = some (if m0.1 113 k < m0.1 114 k then 1 else 0, m) := by
  have hRc := wf_rc h; have hRm := wf_rm h; have hq := wf_sq h; have hp := pr_pl (wf_pr h); have hs23 := wf_s23 h; have hqr := isSc_ge hq; have hpr := isPl_le hp; have hw6 := pr_w6 (wf_pr h); have hb8 := pr_b8 (wf_pr h); have hr12 := pr_r12 (wf_pr h); have ht2 := pr_t2 (wf_pr h); have ht60 := pr_t60 (wf_pr h)
  unfold f_X10_hasLaw k_X10_hasLaw_20
  simp (disch := omega) only [xgR, sA_99, rf_99_15 hRm, rf_99_16 hRm, aI_of sA_113, aI_of sA_114, ↓reduceIte, Option.bind_some, wf_om h 113 (Or.inl (by omega)) (by omega), wf_om h 114 (Or.inl (by omega)) (by omega)]
  by_cases e : m0.1 114 k ≤ m0.1 113 k
  · rw [if_pos e, if_neg (Int32.not_lt.mpr e)]; rfl
  · rw [if_neg e, if_pos (Int32.not_le.mp e)]; rfl
/-- the reference's goes, behind its calls -/
theorem e_goes {P q s nw nb nr tp : Nat} {c0 m0 c m : xD} (h : WF P q s nw nb nr tp c0 m0 c m) {k p b : Nat} (hk : k < 3) (hl : m0.1 113 k < m0.1 114 k) {Y : Nat → Nat → Int32} {w : Int32} (hnm : ∀ a, a < 7 → m.2.1 117 a = nmv m0.1 Y nw p b w a) : ∃ (L' : Nat → Nat → Int64) (h' : Int32), (∀ j, j ≠ 118 → L' j = m.2.1 j) ∧ (∀ v, lvv m0.1 Y nw k p b w = some v → L' 118 0 = v) ∧ f_X10_goes shA 99 (nI k) m = some (if (lvv m0.1 Y nw k p b w).isSome then 1 else 0, (xu m.1 99 34 h', L', m.2.2)) := by
  have hRc := wf_rc h; have hRm := wf_rm h; have hq := wf_sq h; have hp := pr_pl (wf_pr h); have hs23 := wf_s23 h; have hqr := isSc_ge hq; have hpr := isPl_le hp; have hw6 := pr_w6 (wf_pr h); have hb8 := pr_b8 (wf_pr h); have hr12 := pr_r12 (wf_pr h); have ht2 := pr_t2 (wf_pr h); have ht60 := pr_t60 (wf_pr h)
  rcases lw_0 (wf_pr h) hk with ⟨t0, e0⟩ | ⟨t1, a, b', g1, g2, g3, g4, g5, g6, g7, g8⟩
  · rw [e0] at hl; exact absurd hl Int32.lt_irrefl
  · have z3 := wf_om h 113 (Or.inl (by omega)) (by omega)
    have z4 := wf_om h 114 (Or.inl (by omega)) (by omega)
    have z5 := wf_om h 115 (Or.inl (by omega)) (by omega)
    have z6 := wf_om h 116 (Or.inl (by omega)) (by omega)
    obtain ⟨L', h', hL, hv, e⟩ := goes_loop hRm (a := a) hk g2 (by rw [z4]; exact g6) (fun i i1 i2 => by
      rw [z5, z6]
      rcases (g7 i i1 i2).2 with ⟨z, _⟩ | z | z
      · exact Or.inl z
      · exact Or.inr (Or.inl z)
      · exact Or.inr (Or.inr z)) (b' - a) a 0 xF m.2.1 (by omega) (by omega) (by omega) (xF_big (by omega)) (by rw [z5, z6]; exact g8)
    rw [z5, z6] at hv e
    have e1 : ev (m0.1 115) (m0.1 116) (m.2.1 117) a (b' - a) 0 (m.2.1 118) = lvv m0.1 Y nw k p b w := by
      rw [lvv_some g5 g6 g1 g2]
      refine ev_congr _ _ _ _ _ (fun j hj => by omega) (fun j j1 j2 j3 j4 => ?_) g8
      rcases (g7 j j1 (by omega)).2 with ⟨z, _⟩ | ⟨_, a0, ha0, v0⟩ | ⟨z, _⟩
      · exact absurd z j4
      · rw [v0, nI_clamp (by omega)]; exact hnm a0 ha0
      · exact absurd z j3
    rw [e1] at hv e
    refine ⟨L', h', hL, hv, ?_⟩
    unfold f_X10_goes
    simp (disch := omega) only [pM_34, xgR, sA_99, rf_99_15 hRm, aI_of sA_113, ↓reduceIte, Option.bind_some, xu_cell, z3, g5]
    exact e
/-- a law's worth, cut to 0 .. 99; 1 without one -/
def am (o : Option Int64) : Int32 := match o with
  | some v => (if (if v < (99 : Int64) then v else 99) < (0 : Int64) then (0 : Int64) else (if v < (99 : Int64) then v else 99)).toInt32
  | none => 1
theorem am_nat (o : Option Int64) : ∃ a, a ≤ 99 ∧ am o = nI a := by
  cases o with
  | none => exact ⟨1, by omega, rfl⟩
  | some v =>
    unfold am
    dsimp only
    have key : ∃ x : Int64, (if (if v < (99 : Int64) then v else 99) < (0 : Int64) then (0 : Int64) else (if v < (99 : Int64) then v else 99)) = x ∧ 0 ≤ x ∧ x ≤ 99 := by
      refine ⟨_, rfl, ?_⟩
      by_cases h1 : v < 99
      · simp only [if_pos h1]
        by_cases h2 : v < 0
        · simp only [if_pos h2]; decide
        · simp only [if_neg h2]; exact ⟨Int64.not_lt.mp h2, Int64.le_of_lt h1⟩
      · simp only [if_neg h1]; decide
    obtain ⟨x, e, h1, h2⟩ := key
    rw [e]
    rw [Int64.le_iff_toInt_le] at h1 h2
    rw [show (0 : Int64).toInt = 0 by decide] at h1
    rw [show (99 : Int64).toInt = 99 by decide] at h2
    refine ⟨x.toInt.toNat, by omega, ?_⟩
    have e3 : x = lN x.toInt.toNat := Int64.toInt_inj.mp (by rw [lN_toInt (by omega)]; omega)
    rw [← lN_i, ← e3]

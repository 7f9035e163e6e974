/-! LEVEL 2: tried, chance -/
theorem pr_same {P nw nb nr tp : Nat} {I J I' J' : Nat → Nat → Int32} (hh : PR P 0 nw nb nr tp I J) (hI : ∀ k, k < 40 → I' k = I k) (hJ : ∀ j, 101 ≤ j → j ≤ 116 → J' j = J j) : PR P 0 nw nb nr tp I' J' :=
  pr_congr hh (fun j hj => hI _ (by have := isPl_le (pr_pl hh); omega)) hJ
/-- the trial scene changed, as tried wants it -/
theorem tried_start {P nw nb nr tp tl : Nat} {c1 m1 : xD} (k3 : RS P 73 1 nw nb nr tp 0 tl (fun _ _ => True) True c1 m1 c1 m1) (t50 : m1.1 99 50 = 0) {a1 a2 : Int32} {x3 : Int32} (h2 : a1 = 2 → ∃ p, p < nw ∧ a2 = nI p) : ∃ c2 m2, f_X9_changeTrial shA 0 a1 a2 c1 = some c2 ∧ (if a1 = (2 : Int32) then ((xon 10 shA 99 (f_X10_goesOut shA 99 (1 : Int32) a2 m1)).bind fun d11 => k_X10_tried_73 shA 99 a1 x3 d11) else (k_X10_tried_73 shA 99 a1 x3 m1)) = k_X10_tried_85 shA 99 a1 x3 m2 ∧ RS P 73 1 nw nb nr tp 0 tl (fun _ _ => True) False c2 (xu m2.1 99 50 a1, m2.2.1, m2.2.2) c2 (xu m2.1 99 50 a1, m2.2.1, m2.2.2) ∧ CT P c1 c2 ∧ MT m1 m2 ∧ m2.1 99 = m1.1 99 ∧ c2.1 73 1 = c1.1 73 1 ∧ m2.1 121 0 = m1.1 121 0 ∧ m2.1 108 = m1.1 108 := by
  obtain ⟨h, hs⟩ := k3
  have hRc := wf_rc h; have hRm := wf_rm h; have hq := wf_sq h; have hp := pr_pl (wf_pr h); have hs23 := wf_s23 h; have hqr := isSc_ge hq; have hpr := isPl_le hp; have hw6 := pr_w6 (wf_pr h); have hb8 := pr_b8 (wf_pr h); have hr12 := pr_r12 (wf_pr h); have ht2 := pr_t2 (wf_pr h); have ht60 := pr_t60 (wf_pr h)
  have hsF := sc_fl hs
  have x8 : ∀ b, b < nb → c1.1 (73 + 8) b = m1.1 104 b := fun b hb => by have z : c1.1 (73 + 8) b = _ := sc_se hs b hb; rw [t50, if_neg (by decide)] at z; exact z
  have x13 : ∀ r, r < nr → c1.1 (73 + 13) r = if bt (vM 1 m1.1 4 0) r then 1 else 0 := fun r hr => by have z : c1.1 (73 + 13) r = _ := sc_rt hs r hr; rw [t50, if_neg (by decide)] at z; exact z
  have mk : ∀ (c2 m2 : xD), c2.2.2 = c1.2.2 → m2.2.2 = m1.2.2 → (∀ k, k < 40 → c2.1 k = c1.1 k) → (∀ j, 101 ≤ j → j ≤ 116 → m2.1 j = m1.1 j) → m2.1 99 = m1.1 99 → c2.2.1 73 = c1.2.1 73 → ∀ X' Y', vC 73 c2.1 = X' → vM 1 m2.1 = Y' → SC nw nb nr 0 tp tl (fun _ _ => True) False (xu m2.1 99 50 a1) (m1.1 99 53) X' (c1.2.1 73 3) Y' → RS P 73 1 nw nb nr tp 0 tl (fun _ _ => True) False c2 (xu m2.1 99 50 a1, m2.2.1, m2.2.2) c2 (xu m2.1 99 50 a1, m2.2.1, m2.2.2) := by
    intro c2 m2 e1 e2 e3 e4 e5 e6 X' Y' e7 e8 hsc
    refine ⟨wf_refl (hRc.same e1) (hRm.same e2) sc73 (by omega) (pr_same (wf_pr h) e3 (fun j j1 j2 => (xu_off (by omega)).trans (e4 j j1 j2))), ?_⟩
    show SC nw nb nr 0 tp tl (fun _ _ => True) False (xu m2.1 99 50 a1) (xu m2.1 99 50 a1 99 53) (vC 73 c2.1) (c2.2.1 73 3) (vM 1 (xu m2.1 99 50 a1))
    rw [xu_at2 (by omega), vM_off (by omega), e5, e6, e7, e8]
    exact hsc
  have hpaG : ∀ (m2 : xD), m2.1 99 = m1.1 99 → m2.1 108 = m1.1 108 → ∀ i, i < nw → (if nI i = (xu m2.1 99 50 a1) 99 51 then (xu m2.1 99 50 a1) 99 52 else (xu m2.1 99 50 a1) 108 i) = (if nI i = m1.1 99 51 then m1.1 99 52 else m1.1 108 i) := by
    intro m2 e1 e2 i _
    rw [xu_at2 (by omega), xu_at2 (by omega), xu_cell (by omega), e1, e2]
  have hGG : ∀ (m2 : xD), (∀ j, 101 ≤ j → j ≤ 116 → m2.1 j = m1.1 j) → ∀ k, 101 ≤ k → k ≤ 116 → (xu m2.1 99 50 a1) k = m1.1 k := fun m2 e k k1 k2 => (xu_off (by omega)).trans (e k k1 k2)
  unfold f_X9_changeTrial k_X9_changeTrial_70 k_X10_tried_73
  by_cases z2 : a1 = 2
  · obtain ⟨p, hpw, rfl⟩ := h2 z2
    have e1 := e_outM h hpw
    rw [show nI 1 = (1 : Int32) from rfl] at e1
    rw [if_pos z2, if_pos z2, g0R_10 hRc, Option.bind_some, gR_of sA_73 (rs_5 hRc sc73), Option.bind_some, sI_of (ss_1 sc73) (by omega) (by omega), Option.bind_some, on_of sA_99, e1, Option.bind_some, if_neg (by rw [z2]; decide)]
    have w1 : WF P 73 1 nw nb nr tp c1 m1 c1 (xu (xu (xu (xu m1.1 124 (6 * 1 + p) 1) 127 (6 * 1 + p) (-1)) 128 (6 * 1 + p) 0) 124 (6 * 1 + p) 3, m1.2.1, m1.2.2) := wf_m2 (wf_m2 (wf_m2 (wf_m2 h (by omega) (by omega) (by omega)) (by omega) (by omega) (by omega)) (by omega) (by omega) (by omega)) (by omega) (by omega) (by omega)
    have f1 : ∀ j, j < 124 → (xu (xu (xu (xu m1.1 124 (6 * 1 + p) 1) 127 (6 * 1 + p) (-1)) 128 (6 * 1 + p) 0) 124 (6 * 1 + p) 3) j = m1.1 j := fun j hj => by rw [xu_off (by omega), xu_off (by omega), xu_off (by omega), xu_off (by omega)]
    refine ⟨_, _, rfl, rfl, mk _ _ rfl rfl (fun k hk => xu_off (by omega)) (fun j j1 j2 => f1 j (by omega)) (f1 99 (by omega)) rfl _ _ vC_xu (by rw [vM_124, vM_128, vM_127, vM_124]) ?_, ⟨rfl, fun k k1 _ => by dsimp only; rw [xu_off (by omega)], fun _ _ _ _ => rfl⟩, mt_wf w1, f1 99 (by omega), (by dsimp only; rw [xu_cell (show 73 ≠ 73 + 1 by omega)]), by dsimp only; rw [f1 121 (by omega)], f1 108 (by omega)⟩
    refine sc_tw (sc_outF hsF) rfl (hpaG _ (f1 99 (by omega)) (f1 108 (by omega))) (hGG _ (fun j j1 j2 => f1 j (by omega))) (fun _ _ _ => rfl) (fun b hb => ?_) (fun r hr => ?_)
    · rw [xu_at, z2, if_neg (by decide)]; exact x8 b hb
    · rw [xu_at, z2, if_neg (by decide)]; exact x13 r hr
  · rw [if_neg z2, if_neg z2]
    by_cases z3 : a1 = 3
    · have q1 := sI_of (d := m1) (i := 1) (v := (0 : Int32)) sA_122 (by omega) (by omega)
      rw [show nI 1 = (1 : Int32) from rfl] at q1
      rw [if_pos z3, if_pos z3, g0R_10 hRc, Option.bind_some, pS_2 sc73, Option.bind_some, gR_of sA_99 (rf_99_38 hRm), Option.bind_some, q1, Option.bind_some]
      have f1 : ∀ j, j ≠ 122 → (xu m1.1 122 1 0) j = m1.1 j := fun j hj => xu_off hj
      refine ⟨_, _, rfl, rfl, mk _ _ rfl rfl (fun k hk => xu_off (by omega)) (fun j j1 j2 => f1 j (by omega)) (f1 99 (by omega)) rfl _ _ vC_xu0 vM_122 ?_, ⟨rfl, fun k k1 _ => by dsimp only; rw [xu_off (by omega)], fun _ _ _ _ => rfl⟩, mt_wf (wf_m1 h (by omega) (by omega)), f1 99 (by omega), (by dsimp only; rw [xu_at2 (show 1 ≠ 2 by omega)]), by dsimp only; rw [f1 121 (by omega)], f1 108 (by omega)⟩
      refine sc_tw (sc_pi0 hsF ht2) rfl (hpaG _ (f1 99 (by omega)) (f1 108 (by omega))) (hGG _ (fun j j1 j2 => f1 j (by omega))) (fun _ _ _ => rfl) (fun b hb => ?_) (fun r hr => ?_)
      · rw [xu_at, z3, if_neg (by decide)]; exact x8 b hb
      · rw [xu_at, z3, if_neg (by decide)]; exact x13 r hr
    · rw [if_neg z3, if_neg z3]
      by_cases z4 : a1 = 4
      · obtain ⟨I', e1, e2, e3⟩ := e_fill (v := 1) (d := c1) (ss_13 sc73) (by omega)
        rw [if_pos z4, g0R_10 hRc, Option.bind_some, gR_of sA_73 (rs_18 hRc sc73), Option.bind_some, e1, Option.bind_some]
        refine ⟨_, m1, rfl, rfl, mk _ _ rfl rfl (fun k hk => e2 k (by omega)) (fun _ _ _ => rfl) rfl rfl (vC 73 I') _ rfl rfl ?_, ⟨rfl, fun k k1 _ => e2 k (by omega), fun _ _ _ _ => rfl⟩, MT.refl, rfl, by dsimp only; rw [e2 73 (by omega)], rfl, rfl⟩
        refine sc_tw hsF rfl (hpaG _ rfl rfl) (hGG _ (fun _ _ _ => rfl)) (fun j j1 j2 => e2 (73 + j) (by omega)) (fun b hb => ?_) (fun r hr => ?_)
        · show I' (73 + 8) b = _
          rw [xu_at, z4, if_neg (by decide), e2 (73 + 8) (by omega)]; exact x8 b hb
        · show I' (73 + 13) r = _
          rw [xu_at, z4, if_pos rfl]; exact e3 r (by omega)
      · rw [if_neg z4]
        by_cases z5 : a1 = 5
        · obtain ⟨I', e1, e2, e3⟩ := e_fill (v := 3) (d := c1) (ss_8 sc73) (by omega)
          rw [if_pos z5, g0R_10 hRc, Option.bind_some, gR_of sA_73 (rs_12 hRc sc73), Option.bind_some, e1, Option.bind_some]
          refine ⟨_, m1, rfl, rfl, mk _ _ rfl rfl (fun k hk => e2 k (by omega)) (fun _ _ _ => rfl) rfl rfl (vC 73 I') _ rfl rfl ?_, ⟨rfl, fun k k1 _ => e2 k (by omega), fun _ _ _ _ => rfl⟩, MT.refl, rfl, by dsimp only; rw [e2 73 (by omega)], rfl, rfl⟩
          refine sc_tw hsF rfl (hpaG _ rfl rfl) (hGG _ (fun _ _ _ => rfl)) (fun j j1 j2 => e2 (73 + j) (by omega)) (fun b hb => ?_) (fun r hr => ?_)
          · show I' (73 + 8) b = _
            rw [xu_at, z5, if_pos rfl]; exact e3 b (by omega)
          · show I' (73 + 13) r = _
            rw [xu_at, z5, if_neg (by decide), e2 (73 + 13) (by omega)]; exact x13 r hr
        · rw [if_neg z5]
          refine ⟨c1, m1, rfl, rfl, mk _ _ rfl rfl (fun _ _ => rfl) (fun _ _ _ => rfl) rfl rfl (vC 73 c1.1) _ rfl rfl ?_, CT.refl, MT.refl, rfl, rfl, rfl, rfl⟩
          refine sc_tw hsF rfl (hpaG _ rfl rfl) (hGG _ (fun _ _ _ => rfl)) (fun _ _ _ => rfl) (fun b hb => ?_) (fun r hr => ?_)
          · rw [xu_at, if_neg z5]; exact x8 b hb
          · rw [xu_at, if_neg z4]; exact x13 r hr
theorem tried_core {P nw nb nr tp n : Nat} {d m : xD} (hQ : RQ P nw nb nr tp d m) (hn : n ≤ 200) {a1 a2 : Int32} (h2 : a1 = 2 → ∃ p, p < nw ∧ a2 = nI p) : TY P d m (k_X9_tried_47 shA 0 a1 a2 (nI n) d) ((xon 10 shA 99 (f_X10_copies shA 99 (1 : Int32) (0 : Int32) m)).bind fun d10 => if a1 = (2 : Int32) then ((xon 10 shA 99 (f_X10_goesOut shA 99 (1 : Int32) a2 d10)).bind fun d11 => k_X10_tried_73 shA 99 a1 (nI n) d11) else (k_X10_tried_73 shA 99 a1 (nI n) d10)) := by
  obtain ⟨tl, c1, m1, k1, k2, k3, k4, k5, k6, k7, k8, k9, k10, k11, k12⟩ := tr_start hQ
  have t50 : m1.1 99 50 = 0 := by rw [k5]; exact rq_tw hQ
  obtain ⟨c2, m2, q1, q2, q3, q4, q5, q6, q7, q8, q9⟩ := tried_start (x3 := nI n) k3 t50 h2
  have hRc1 := wf_rc k3.1
  have hRc2 := wf_rc q3.1
  have hpa3 : PA nw (xu m2.1 99 50 a1) := by
    intro p hp
    obtain ⟨a, a1', a2'⟩ := k4 p hp
    refine ⟨a, a1', ?_⟩
    rw [xu_at2 (by omega), xu_at2 (by omega), xu_cell (by omega), q6, q9]
    exact a2'
  have step : ∀ cl : Int32, CB cl 0 a1 → TY P d m ((xon 2 shA 87 (f_X2_talkMore shA 87 73 (nI n) cl c2)).bind fun z1 => some (z1.1, z1.2)) (k_X10_tried_85 shA 99 a1 (nI n) m2) := by
    intro cl hcb
    obtain ⟨c', m', j1, j2, j3⟩ := e_its (m0 := (xu m2.1 99 50 a1, m2.2.1, m2.2.2)) hpa3 (cl := cl) (bn := 0) (by show CB cl 0 (xu m2.1 99 50 a1 99 50); rw [xu_at]; exact hcb) n c2 _ q3
    have i1 := e_talkMore sc73 (show n < 1000 by omega) j1
    have i2 := e_goesOn (show n < 1000 by omega) j2
    obtain ⟨T, t1, t2, t3, t4, t5⟩ := rs_talk j3
    have hRm' := wf_rm j3.1
    refine ⟨_, c', (xu m'.1 99 50 0, m'.2.1, m'.2.2), by rw [on_of sA_87, i1]; rfl, ?_, k6.trans (q4.trans (ct_wf j3.1)), k7.trans (q5.trans ((mt_99 (by omega)).trans ((mt_wf j3.1).trans (mt_99 (by omega))))), (by dsimp only; rw [xu_at]), ?_, ?_⟩
    · unfold k_X10_tried_85
      rw [pM_50, Option.bind_some, on_of sA_99, i2, Option.bind_some, pM_50, Option.bind_some]
      simp only [gR_of sA_99 (rf_99_37 (hRm'.same (d' := (xu m'.1 99 50 0, m'.2.1, m'.2.2)) rfl)), Option.bind_some, a1_3, a0_3]
      rw [xu_cell (by omega), xu_cell (by omega), t3, t4, t5, q7, k8, k11]
      dsimp only
      rw [xu_cell (by omega), q8, k9, k12]
    · show xu m'.1 99 50 0 99 51 = -1
      rw [xu_at2 (by omega), wf_o9 j3.1 51 (by omega) (by omega)]
      dsimp only
      rw [xu_at2 (by omega), q6, k5]; exact rq_po hQ
    · show xu m'.1 99 50 0 99 53 = -1
      rw [xu_at2 (by omega)]; exact rs_53 j3
  unfold k_X9_tried_47 k_X9_tried_83
  rw [g0_10 hQ, Option.bind_some, g0_8 hQ, Option.bind_some, on_of sA_73, k1, Option.bind_some, on_of sA_0, q1, Option.bind_some, g0R_12 hRc2, Option.bind_some, g0R_10 hRc2, Option.bind_some, on_of sA_99, k2, Option.bind_some, q2]
  by_cases z1 : a1 = 1
  · rw [if_pos z1]; exact step 1 (Or.inl ⟨rfl, z1⟩)
  · rw [if_neg z1]; exact step 0 (Or.inr (Or.inl ⟨rfl, rfl, z1⟩))
theorem l2_tried : L2_tried Rel := by
  intro d a1 a2 a3 hd
  refine co_L2 (fC := f_X9_tried shA 0 a1 a2 a3) (fM := f_X10_tried shA 99 a1 a2 a3) (co_ty hd ?_)
  intro P nw nb nr tp md m hm hQ
  have hp := pr_pl (rq_pr hQ)
  unfold f_X10_tried
  rw [t0_e, ← hm]
  unfold f_X9_tried k_X9_tried_20 k_X9_tried_45 k_X10_tried_35 k_X10_tried_36 k_X10_tried_54
  by_cases c0 : a1 < 0
  · have n2 : ¬ a1 = 2 := fun z => by rw [z] at c0; exact absurd c0 (by decide)
    rw [if_pos c0, if_neg n2, if_pos c0]; exact ty_same hQ _
  rw [if_neg c0]
  by_cases c1 : 5 < a1
  · have n2 : ¬ a1 = 2 := fun z => by rw [z] at c1; exact absurd c1 (by decide)
    rw [if_pos c1, if_neg n2, if_neg c0, if_pos c1]; exact ty_same hQ _
  rw [if_neg c1]
  by_cases z2 : a1 = 2
  · rw [if_pos z2, if_pos z2, on_of sA_99]
    rcases e_hasW hQ a2 with ⟨p, hpw, e0, e1, e2⟩ | ⟨e1, e2⟩
    · rw [e2, Option.bind_some]
      dsimp only
      rw [if_neg one_ne_zero32]
      by_cases c3 : a3 < 0
      · rw [if_pos c3, if_pos c3]; exact ty_same hQ _
      rw [if_neg c3, if_neg c3]
      by_cases c4 : a3 ≤ 200
      · obtain ⟨n, hn, rfl⟩ := nI_of2 (n := 200) (by decide) c3 c4
        rw [if_pos c4, if_pos c4, g0_4 hQ, Option.bind_some, on_of (sp_0 hp), e1, Option.bind_some]
        dsimp only
        rw [if_neg one_ne_zero32]
        exact tried_core hQ hn (fun _ => ⟨p, hpw, e0⟩)
      · rw [if_neg c4, if_neg c4]; exact ty_same hQ _
    · rw [e2, Option.bind_some]
      dsimp only
      rw [if_pos rfl]
      by_cases c3 : a3 < 0
      · rw [if_pos c3]; exact ty_same hQ _
      rw [if_neg c3]
      by_cases c4 : a3 ≤ 200
      · rw [if_pos c4, g0_4 hQ, Option.bind_some, on_of (sp_0 hp), e1]; exact ty_same hQ _
      · rw [if_neg c4]; exact ty_same hQ _
  · rw [if_neg z2, if_neg z2, if_neg c0, if_neg c1]
    by_cases c5 : a2 = 0
    · rw [if_pos c5, if_pos c5, if_neg one_ne_zero32]
      by_cases c3 : a3 < 0
      · rw [if_pos c3, if_pos c3]; exact ty_same hQ _
      rw [if_neg c3, if_neg c3]
      by_cases c4 : a3 ≤ 200
      · obtain ⟨n, hn, rfl⟩ := nI_of2 (n := 200) (by decide) c3 c4
        rw [if_pos c4, if_pos c4]
        exact tried_core hQ hn (fun z => absurd z z2)
      · rw [if_neg c4, if_neg c4]; exact ty_same hQ _
    · rw [if_neg c5, if_neg c5, if_pos rfl]
      by_cases c3 : a3 < 0
      · rw [if_pos c3]; exact ty_same hQ _
      rw [if_neg c3]
      by_cases c4 : a3 ≤ 200
      · rw [if_pos c4]; exact ty_same hQ _
      · rw [if_neg c4]; exact ty_same hQ _

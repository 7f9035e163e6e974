/-! LEVEL 2: sit, rise, undo -/
theorem sc_Y {nw nb nr e tp tl : Nat} {mt : Nat → Nat → Prop} {fl : Prop} {G : Nat → Nat → Int32} {xw : Int32} {X : Nat → Nat → Int32} {nu : Int64} {Y : Nat → Nat → Int32} (hs : SC nw nb nr e tp tl mt fl G xw X nu Y) {Y' : Nat → Nat → Int32} (hY0 : ∀ j, j < 5 → Y' j 0 = Y j 0) (y6 : ∀ j i, 5 ≤ j → j < 12 → i < nw → Y' j i = Y j i) (hY2 : ∀ b, b < nb → Y' 12 b = Y 12 b) : SC nw nb nr e tp tl mt fl G xw X nu Y' := by
  refine ⟨?_, ?_, ?_, ?_, sc_cw hs, ?_, ?_, ?_, sc_pa hs, ?_, ?_, ?_, ?_, sc_se hs, ?_, ?_, ?_, sc_e1 hs, sc_rc hs, sc_rr hs, ?_, ?_, sc_x0 hs, sc_x1 hs⟩
  · rw [hY0 0 (by omega)]; exact sc_mi hs
  · rw [hY0 2 (by omega)]; exact sc_ta hs
  · rw [hY0 3 (by omega)]; exact sc_pi hs
  · rw [hY0 1 (by omega)]; exact sc_nu hs
  · intro i hi; rw [y6 5 i (by omega) (by omega) hi]; exact sc_st hs i hi
  · intro i hi; rw [y6 6 i (by omega) (by omega) hi]; exact sc_sp hs i hi
  · intro i hi; rw [y6 7 i (by omega) (by omega) hi]; exact sc_dn hs i hi
  · intro i hi; rw [y6 5 i (by omega) (by omega) hi, y6 9 i (by omega) (by omega) hi]; exact sc_lf hs i hi
  · intro f i hi; rw [y6 5 i (by omega) (by omega) hi, y6 9 i (by omega) (by omega) hi]; exact sc_la hs f i hi
  · intro i hi; rw [y6 10 i (by omega) (by omega) hi]; exact sc_sa hs i hi
  · intro i hi; rw [y6 11 i (by omega) (by omega) hi]; exact sc_me hs i hi
  · intro b hb; rw [hY2 b hb]; exact sc_wo hs b hb
  · intro i hi; rw [y6 5 i (by omega) (by omega) hi, y6 8 i (by omega) (by omega) hi, y6 6 i (by omega) (by omega) hi]; exact sc_so hs i hi
  · intro i hi; rw [y6 5 i (by omega) (by omega) hi, y6 8 i (by omega) (by omega) hi]; exact sc_sn hs i hi
  · intro r hr'; rw [hY0 4 (by omega)]; exact sc_rt hs r hr'
  · rw [hY0 4 (by omega)]; exact sc_rz hs
theorem uns_p {nw nb tp p : Nat} {G Y Y1 Y' : Nat → Nat → Int32} {bef : Int32} (hw : nw ≤ 6) (hb : nb ≤ 8) (hp : p < nw) (h : VE Y1 Y) (h1 : ∀ j, j ≠ 5 → j ≠ 8 → j ≠ 9 → Y' j = Y1 j) (h2 : ∀ j i, i ≠ p → Y' j i = Y1 j i) (hbef : (bef = 0 ∧ Y 5 p = 1 ∧ Y 8 p = -1 ∧ Y 9 p = 0) ∨ (∃ a, 1 ≤ a ∧ a ≤ 30 ∧ bef = nI a ∧ Y 5 p = 2 ∧ Y 9 p = nI a ∧ ∃ b, b < nb ∧ Y 8 p = nI b ∧ G 103 b = Y 6 p)) : UNs nw nb tp G (nI p) bef Y Y' := by
  obtain ⟨a1, a2, a3⟩ := h
  refine ⟨⟨?_, ?_, ?_, ?_, fun i hi => ⟨?_, ?_, ?_, ?_⟩, fun b hb => ?_⟩, Or.inr ⟨p, hp, rfl, ?_, fun i hi hip => ⟨?_, ?_, ?_⟩, ?_⟩⟩
  · rw [h1 0 (by omega) (by omega) (by omega), a1 0 (by omega)]
  · rw [h1 1 (by omega) (by omega) (by omega), a1 1 (by omega)]
  · rw [h1 2 (by omega) (by omega) (by omega), a1 2 (by omega)]
  · rw [h1 4 (by omega) (by omega) (by omega), a1 4 (by omega)]
  · rw [h1 6 (by omega) (by omega) (by omega), a2 6 i (by omega) (by omega) (by omega)]
  · rw [h1 7 (by omega) (by omega) (by omega), a2 7 i (by omega) (by omega) (by omega)]
  · rw [h1 10 (by omega) (by omega) (by omega), a2 10 i (by omega) (by omega) (by omega)]
  · rw [h1 11 (by omega) (by omega) (by omega), a2 11 i (by omega) (by omega) (by omega)]
  · rw [h1 12 (by omega) (by omega) (by omega), a3 b (by omega)]
  · rw [h1 3 (by omega) (by omega) (by omega), a1 3 (by omega)]
  · rw [h2 5 i hip, a2 5 i (by omega) (by omega) (by omega)]
  · rw [h2 8 i hip, a2 8 i (by omega) (by omega) (by omega)]
  · rw [h2 9 i hip, a2 9 i (by omega) (by omega) (by omega)]
  · rw [h1 6 (by omega) (by omega) (by omega), a2 6 p (by omega) (by omega) (by omega)]
    exact hbef
theorem xu3_1 {Y1 : Nat → Nat → Int32} {p : Nat} {a b c : Int32} : (∀ j, j ≠ 5 → j ≠ 8 → j ≠ 9 → xu (xu (xu Y1 5 p a) 8 p b) 9 p c j = Y1 j) ∧ (∀ j i, i ≠ p → xu (xu (xu Y1 5 p a) 8 p b) 9 p c j i = Y1 j i) := by
  refine ⟨fun j j1 j2 j3 => by rw [xu_off j3, xu_off j2, xu_off j1], fun j i hi => ?_⟩
  unfold xu
  simp [hi]
theorem l2_rise : L2_rise Rel := by
  intro d a1 hd
  refine co_L2 (fC := f_X9_rise shA 0 a1) (fM := f_X10_rise shA 99 a1) (co_do hd ?_)
  intro P nw nb nr tp md m hm hQ
  have hp := pr_pl (rq_pr hQ)
  have hw6 := pr_w6 (rq_pr hQ); have hb8 := pr_b8 (rq_pr hQ)
  have hRc := rq_rc hQ; have hRm := rq_rm hQ
  unfold f_X10_rise
  rw [t0_e, ← hm]
  unfold f_X9_rise k_X9_rise_24 k_X10_rise_23
  rw [g0_4 hQ, Option.bind_some, on_of (sp_0 hp), on_of sA_99]
  rcases e_hasW hQ a1 with ⟨p, hpw, rfl, e1, e2⟩ | ⟨e1, e2⟩
  · have s5 : d.1 (45 + 1) p = m.1 124 p := (sc_st (rq_sn hQ) p hpw).trans (by show m.1 124 (6 * 0 + p) = _; rw [Nat.mul_zero, Nat.zero_add])
    rw [e1, e2, Option.bind_some, Option.bind_some]
    dsimp only
    rw [if_neg one_ne_zero32, if_neg one_ne_zero32, g0_8 hQ, Option.bind_some, gR_of sA_45 (rs_5 hRc sc45), Option.bind_some, aI_of (ss_1 sc45) (by omega) (by omega), Option.bind_some, s5, gR_of sA_99 (rf_99_40 hRm), Option.bind_some, aI_of sA_124 (by omega) (by omega), Option.bind_some]
    by_cases h2 : m.1 124 p = 2
    · rw [if_pos h2, if_pos h2]
      have y5 : vM 0 m.1 5 p = 2 := by show m.1 124 (6 * 0 + p) = 2; rw [Nat.mul_zero, Nat.zero_add]; exact h2
      obtain ⟨a, l1, l2, l3, l4⟩ := sc_lf (rq_sn hQ) p hpw y5
      have l3 : d.1 (45 + 5) p = nI a := l3
      obtain ⟨b, s1, s2, s3⟩ := sc_so (rq_sn hQ) p hpw y5
      obtain ⟨c1, m1, k1, k2, k3, k4, k5, k6, k7⟩ := rq_op hQ (nI p) (nI a)
      have hr := rs_stand k3 hpw
      have hnew : UNs nw nb tp m.1 (nI p) (nI a) (vM 0 m.1) (vM 0 (xu (xu (xu m1.1 124 (6 * 0 + p) 1) 127 (6 * 0 + p) (-1)) 128 (6 * 0 + p) 0)) := by
        rw [vM_128, vM_127, vM_124]
        exact uns_p hw6 hb8 hpw k5 xu3_1.1 xu3_1.2 (Or.inr ⟨a, l1, l2, rfl, y5, l4, b, s1, s2, s3⟩)
      obtain ⟨f1, f2, f3⟩ := k7 _ _ hr hnew
      have e3 := e_standC k3.1 hpw
      have e4 := e_getsUpM k3.1 hpw
      rw [nI_0] at e4
      refine ⟨1, _, _, ?_, ?_, f1, f2, f3⟩
      · rw [g0_13 hQ, Option.bind_some, Option.bind_some, gR_of sA_45 (rs_9 hRc sc45), Option.bind_some, aI_of (ss_5 sc45) (by omega) (by omega), Option.bind_some, l3, on_of sA_89, k1, Option.bind_some, g0R_8 (wf_rc k3.1), Option.bind_some, on_of sA_45, e3]; rfl
      · rw [on_of sA_99, k2, Option.bind_some, on_of sA_99, e4]; rfl
    · rw [if_neg h2, if_neg h2]; exact do_same hQ _
  · rw [e1, e2]; exact do_same hQ _
theorem l2_sit : L2_sit Rel := by
  intro d a1 a2 hd
  refine co_L2 (fC := f_X9_sit shA 0 a1 a2) (fM := f_X10_sit shA 99 a1 a2) (co_do hd ?_)
  intro P nw nb nr tp md m hm hQ
  have hp := pr_pl (rq_pr hQ)
  have hw6 := pr_w6 (rq_pr hQ); have hb8 := pr_b8 (rq_pr hQ)
  have hRc := rq_rc hQ; have hRm := rq_rm hQ
  obtain ⟨hW, hS⟩ := rq_rs hQ
  unfold f_X10_sit
  rw [t0_e, ← hm]
  unfold f_X9_sit k_X9_sit_22 k_X10_sit_24 k_X9_sit_76 k_X10_sit_50 k_X10_sit_65
  rw [g0_4 hQ, Option.bind_some, on_of (sp_0 hp), on_of sA_99]
  rcases e_hasW hQ a1 with ⟨p, hpw, rfl, e1, e2⟩ | ⟨e1, e2⟩
  · have s5 : d.1 (45 + 1) p = m.1 124 p := (sc_st (rq_sn hQ) p hpw).trans (by show m.1 124 (6 * 0 + p) = _; rw [Nat.mul_zero, Nat.zero_add])
    obtain ⟨st, hst, x2, y2⟩ := sc_sp (rq_sn hQ) p hpw
    have x2 : d.1 (45 + 2) p = nI st := x2
    have y2' : m.1 125 p = nI st := by rw [← y2]; show m.1 125 p = m.1 125 (6 * 0 + p); rw [Nat.mul_zero, Nat.zero_add]
    have eB := e_benchOn hW (nI st)
    have eA := e_benchAt hW (nI st)
    rw [e1, e2, Option.bind_some, Option.bind_some]
    dsimp only
    rw [if_neg one_ne_zero32, if_neg one_ne_zero32]
    by_cases c1 : a2 < 1
    · rw [if_pos c1, if_pos c1]; exact do_same hQ _
    rw [if_neg c1, if_neg c1]
    by_cases c2 : a2 ≤ 30
    · rw [if_pos c2, if_pos c2]
      have c1' : ¬ a2 < 0 := fun z => c1 (Int32.lt_trans z (by decide))
      obtain ⟨n, hn, rfl⟩ := nI_of2 (n := 30) (by decide) c1' c2
      have hn1 : 1 ≤ n := by
        rcases Nat.eq_zero_or_pos n with z | z
        · subst z; exact absurd (show nI 0 < 1 by decide) c1
        · exact z
      rw [g0_8 hQ, Option.bind_some, gR_of sA_45 (rs_6 hRc sc45), Option.bind_some, aI_of (ss_2 sc45) (by omega) (by omega), Option.bind_some, x2, g0_4 hQ, Option.bind_some, on_of (sp_0 hp), eB, Option.bind_some]
      dsimp only
      rw [g0_8 hQ, Option.bind_some, gR_of sA_45 (rs_5 hRc sc45), Option.bind_some, aI_of (ss_1 sc45) (by omega) (by omega), Option.bind_some, s5, gR_of sA_99 (rf_99_40 hRm), Option.bind_some, Option.bind_some, aI_of sA_124 (by omega) (by omega), Option.bind_some]
      by_cases c3 : m.1 124 p = 1
      · rw [if_pos c3, if_pos c3, gR_of sA_99 (rf_99_41 hRm), Option.bind_some, aI_of sA_125 (by omega) (by omega), Option.bind_some, y2', on_of sA_99, eA, Option.bind_some]
        dsimp only
        by_cases hx : findI (m.1 103) (nI st) 0 nb = -1
        · rw [if_pos hx, if_pos hx]; exact do_same hQ _
        · obtain ⟨b, hb, g1, g2⟩ := e_found hW hx
          rw [if_neg hx, if_neg hx, g1, on_of sA_45, on_of sA_99]
          obtain ⟨fr, v, f1, f2, f3⟩ := e_free hW hS hb
          rw [g2] at f1
          rw [nI_0] at f2
          rw [f1, f2, Option.bind_some, Option.bind_some]
          dsimp only
          cases fr with
          | false =>
            rw [if_pos (by decide), if_neg (fun z => by have := f3.mp z; exact absurd this (by decide))]
            exact do_same hQ _
          | true =>
            rw [if_neg (by decide), if_pos (f3.mpr rfl)]
            obtain ⟨c1, m1, k1, k2, k3, k4, k5, k6, k7⟩ := rq_op hQ (nI p) 0
            have y5 : vM 0 m.1 5 p = 1 := by show m.1 124 (6 * 0 + p) = 1; rw [Nat.mul_zero, Nat.zero_add]; exact c3
            have y5n : vM 0 m.1 5 p ≠ 2 := by rw [y5]; decide
            have hst1 : vM 0 m1.1 6 p = m1.1 103 b := by rw [k5.2.1 6 p (by omega) (by omega) (by omega), k6, g2]; exact y2
            have hwf := wf_seat (b := b) (v := nI n) k3.1 hpw
            have hsc := sc_seat k3.1 k3.2 hpw hb hst1 hn1 hn
            have hr : RS P 45 0 nw nb nr tp 0 0 (fun _ _ => True) True c1 m1 _ _ := ⟨hwf, hsc⟩
            have hnew : UNs nw nb tp m.1 (nI p) 0 (vM 0 m.1) (vM 0 (xu (xu (xu m1.1 124 (6 * 0 + p) 2) 127 (6 * 0 + p) (nI b)) 128 (6 * 0 + p) (nI n))) := by
              rw [vM_128, vM_127, vM_124]
              exact uns_p hw6 hb8 hpw k5 xu3_1.1 xu3_1.2 (Or.inl ⟨rfl, y5, sc_sn (rq_sn hQ) p hpw y5n, (sc_la (rq_sn hQ) trivial p hpw).2 y5n⟩)
            obtain ⟨w1, w2, w3⟩ := k7 _ _ hr hnew
            have e3 := e_seatC (v := nI n) k3.1 hpw
            have e4 := e_sitsDownM (b := b) (v := nI n) k3.1 hpw
            rw [nI_0] at e4
            obtain ⟨hW3, hS3⟩ := rq_rs w3
            have t1 := e_sitC hW3 hS3 hb
            have t2 := e_sitM hW3 b
            dsimp only at t1 t2
            have hG3 : (xu (xu (xu m1.1 124 (6 * 0 + p) 2) 127 (6 * 0 + p) (nI b)) 128 (6 * 0 + p) (nI n)) 103 b = nI st := by rw [xu_cell (by omega), xu_cell (by omega), xu_cell (by omega), k6, g2]
            rw [hG3] at t1
            rw [nI_0] at t2
            have hRc3 := rq_rc w3
            refine ⟨bo (sit (vM 0 (xu (xu (xu m1.1 124 (6 * 0 + p) 2) 127 (6 * 0 + p) (nI b)) 128 (6 * 0 + p) (nI n))) nw b) 0 12 0, _, _, ?_, ?_, w1, w2, w3⟩
            · rw [g0_13 hQ, Option.bind_some, on_of sA_89, k1, Option.bind_some, g0R_8 (wf_rc k3.1), Option.bind_some, on_of sA_45, e3, Option.bind_some, g0R_8 hRc3, Option.bind_some, on_of sA_45, t1, Option.bind_some]
              dsimp only
              rw [(e_cnt hw6 _).1, Option.bind_some]
            · rw [on_of sA_99, k2, Option.bind_some, on_of sA_99, e4, Option.bind_some, on_of sA_99, t2, Option.bind_some]
              dsimp only
              rw [e_bitsOf, Option.bind_some]
      · rw [if_neg c3, if_neg c3, if_pos rfl]; exact do_same hQ _
    · rw [if_neg c2, if_neg c2]; exact do_same hQ _
  · rw [e1, e2]; exact do_same hQ _
theorem l2_undo : L2_undo Rel := by
  intro d hd
  refine co_L2 (fC := f_X9_undo shA 0) (fM := f_X10_undo shA 99) (co_do hd ?_)
  intro P nw nb nr tp md m hm hQ
  have hpr := isPl_le (pr_pl (rq_pr hQ))
  have hw6 := pr_w6 (rq_pr hQ); have hb8 := pr_b8 (rq_pr hQ); have hr12 := pr_r12 (rq_pr hQ)
  have hRc := rq_rc hQ; have hRm := rq_rm hQ
  obtain ⟨u, u1, u2, u3, u4⟩ := rq_un hQ
  unfold f_X10_undo
  rw [t0_e, ← hm]
  unfold f_X9_undo
  rw [g0_13 hQ, Option.bind_some, gI_of sA_89, Option.bind_some, u2, gI_of sA_99, Option.bind_some, u3, Option.bind_some]
  by_cases hz : u = 0
  · subst hz
    rw [if_pos (by decide), if_pos (by decide)]; exact do_same hQ _
  · obtain ⟨g, rfl⟩ : ∃ g, u = g + 1 := ⟨u - 1, by omega⟩
    rw [if_neg (nI_ne0 (by omega) (by omega)), if_neg (nI_ne0 (by omega) (by omega))]
    -- the reference
    have hRt : RefOK (xu m.1 99 49 (nI g), m.2.1, m.2.2) P := hRm.same rfl
    obtain ⟨m1, e1, e2, e3, e4, e5, e6⟩ := copies_ve (to := 0) (as := 3 + g) (by omega) (by omega) (by omega) hRt
    rw [nI_0] at e1
    have v : ∀ s, vM s (xu m.1 99 49 (nI g)) = vM s m.1 := fun s => vM_off (by omega)
    dsimp only at e2 e3 e4 e5 e6
    rw [v] at e5
    have hM : ((some (nI (g + 1))).bind fun v3 => (xpI 10 shA m 99 49 (v3 - (1 : Int32))).bind fun d4 => (xgI 10 shA d4 99 49).bind fun v5 => (xon 10 shA 99 (f_X10_copies shA 99 (0 : Int32) ((3 : Int32) + v5) d4)).bind fun d6 => (xgI 10 shA d6 99 49).bind fun v7 => some (v7, d6)) = some (nI g, m1) := by
      have a2 : (3 : Int32) + nI g = nI (3 + g) := nI_add 3 g
      rw [Option.bind_some, nI_pred, pM_49, Option.bind_some, gI_of sA_99, Option.bind_some]
      dsimp only
      rw [xu_at, on_of sA_99, a2, e1, Option.bind_some, gI_of sA_99, Option.bind_some, e4 99 (by omega), xu_at]
    have hun := u4 g (by omega)
    rw [if_pos rfl] at hun
    have m1k : ∀ k, k ≠ 49 → m1.1 99 k = m.1 99 k := fun k hk => by rw [e4 99 (by omega), xu_at2 hk]
    have m1r : ∀ k, (k < 119 ∨ 132 ≤ k) → k ≠ 99 → m1.1 k = m.1 k := fun k hk hk2 => by rw [e4 k hk, xu_off hk2]
    have hG : ∀ k, 101 ≤ k → k ≤ 116 → m1.1 k = m.1 k := fun k k1 k2 => m1r k (by omega) (by omega)
    have g51 : m1.1 99 51 = -1 := by rw [m1k 51 (by omega)]; exact rq_po hQ
    have g50 : m1.1 99 50 = 0 := by rw [m1k 50 (by omega)]; exact rq_tw hQ
    -- the class
    have key : ∃ I', f_X8_takeBack shA 89 45 d = some (I', d.2.1, d.2.2) ∧ I' 89 0 = nI g ∧ (∀ k, (k < 45 ∨ 59 ≤ k) → k ≠ 89 → I' k = d.1 k) ∧ SC nw nb nr 0 tp 0 (fun _ _ => True) True m.1 (-1) (vC 45 I') (d.2.1 45 3) (vM (3 + g) m.1) := by
      have hs := rq_sn hQ
      have pre : ∀ (I : Nat → Nat → Int32), (∀ k, k ≠ 89 → I k = d.1 k) → I = xu d.1 89 0 (nI g) → SC nw nb nr 0 tp 0 (fun _ _ => True) True m.1 (-1) (vC 45 I) (d.2.1 45 3) (vM 0 m.1) := by
        intro I hI _
        refine sc_ve hs hw6 hb8 hr12 rfl (rq_po hQ) (rq_po hQ) rfl (fun _ _ _ => rfl) (fun k _ => ?_) (fun j j1 j2 k _ => ?_) VE.refl
        · show I 45 k = d.1 45 k; rw [hI 45 (by omega)]
        · show I (45 + j) k = d.1 (45 + j) k; rw [hI (45 + j) (by omega)]
      have hs1 := pre (xu d.1 89 0 (nI g)) (fun k hk => xu_off hk) rfl
      have hR1 : RefOK (xu d.1 89 0 (nI g), d.2.1, d.2.2) P := hRc.same rfl
      have hW1 : WF P 45 0 nw nb nr tp (xu d.1 89 0 (nI g), d.2.1, d.2.2) m (xu d.1 89 0 (nI g), d.2.1, d.2.2) m := wf_refl hR1 hRm sc45 (by omega) (pr_same (rq_pr hQ) (fun k hk => by dsimp only; rw [xu_off (by omega)]) (fun _ _ _ => rfl))
      have a90 : xaI .int shA (xu d.1 89 0 (nI g), d.2.1, d.2.2) 90 (nI g) = some (d.1 90 g) := by rw [aI_of sA_90 (by omega) (by omega)]; dsimp only; rw [xu_cell (by omega)]
      have a91 : xaI .int shA (xu d.1 89 0 (nI g), d.2.1, d.2.2) 91 (nI g) = some (d.1 91 g) := by rw [aI_of sA_91 (by omega) (by omega)]; dsimp only; rw [xu_cell (by omega)]
      have a89 : xgI 8 shA (xu d.1 89 0 (nI g), d.2.1, d.2.2) 89 0 = some (nI g) := by rw [gI_of sA_89]; dsimp only; rw [xu_at]
      unfold f_X8_takeBack k_X8_takeBack_75
      rw [gI_of sA_89, Option.bind_some, u2, nI_pred, pU_0, Option.bind_some, gR_of sA_89 (rf_89_1 hR1), Option.bind_some, a89, Option.bind_some, a90, Option.bind_some, gR_of sA_89 (rf_89_2 hR1)]
      simp only [Option.bind_some, a91]
      obtain ⟨⟨v1, v2, v3, v4, v5, v6⟩, v7⟩ := hun
      rcases v7 with ⟨w1, ⟨a, w2, w3, w4, w5⟩, w6⟩ | ⟨p, w1, w2, w3, w4, w5⟩
      · rw [if_pos w1, w5, pS_2 sc45]
        refine ⟨_, rfl, ?_, fun k k1 k2 => ?_, ?_⟩
        · dsimp only; rw [xu_cell (by omega), xu_at]
        · dsimp only; rw [xu_off (by omega), xu_off k2]
        · dsimp only
          rw [vC_xu0]
          have z : SC nw nb nr 0 tp 0 (fun _ _ => True) True m.1 (-1) (xu (vC 45 (xu d.1 89 0 (nI g))) 0 2 (nI a)) (d.2.1 45 3) (xu (vM 0 m.1) 3 0 (nI a)) := by
            refine ⟨(sc_mi hs1 :), (sc_ta hs1 :), ?_, (sc_nu hs1 :), (sc_cw hs1 :), (sc_st hs1 :), (sc_sp hs1 :), (sc_dn hs1 :), (sc_pa hs1 :), (sc_lf hs1 :), (sc_la hs1 :), (sc_sa hs1 :), (sc_me hs1 :), (sc_se hs1 :), (sc_wo hs1 :), (sc_so hs1 :), (sc_sn hs1 :), (sc_e1 hs1 :), (sc_rc hs1 :), (sc_rr hs1 :), (sc_rt hs1 :), (sc_rz hs1 :), (sc_x0 hs1 :), (sc_x1 hs1 :)⟩
            exact ⟨a, w2, by rw [xu_is, if_pos rfl], by rw [xu_is, if_pos rfl, if_neg w3]⟩
          refine sc_Y z (fun j hj => ?_) (fun j i j1 j2 hi => ?_) (fun b hb => ?_)
          · rcases (show j = 0 ∨ j = 1 ∨ j = 2 ∨ j = 3 ∨ j = 4 by omega) with e | e | e | e | e <;> subst e
            · exact v1
            · exact v2
            · exact v3
            · rw [xu_is, if_pos rfl]; exact w4
            · exact v4
          · obtain ⟨q1, q2, q3⟩ := w6 i hi
            obtain ⟨q4, q5, q6, q7⟩ := v5 i hi
            rcases (show j = 5 ∨ j = 6 ∨ j = 7 ∨ j = 8 ∨ j = 9 ∨ j = 10 ∨ j = 11 by omega) with e | e | e | e | e | e | e <;> subst e
            · exact q1
            · exact q4
            · exact q5
            · exact q2
            · exact q3
            · exact q6
            · exact q7
          · exact v6 b hb
      · rw [w2, if_neg (nI_ne_m1 (by omega))]
        have rows : ∀ (A : Nat → Nat → Int32), (∀ j, j ≠ 5 → j ≠ 8 → j ≠ 9 → A j = vM 0 m.1 j) → (∀ j i, i ≠ p → A j i = vM 0 m.1 j i) → A 5 p = vM (3 + g) m.1 5 p → A 8 p = vM (3 + g) m.1 8 p → A 9 p = vM (3 + g) m.1 9 p → ∀ j i, 5 ≤ j → j < 12 → i < nw → vM (3 + g) m.1 j i = A j i := by
          intro A h1 h2 h3 h4 h5 j i j1 j2 hi
          obtain ⟨q4, q5, q6, q7⟩ := v5 i hi
          by_cases hip : i = p
          · subst hip
            rcases (show j = 5 ∨ j = 6 ∨ j = 7 ∨ j = 8 ∨ j = 9 ∨ j = 10 ∨ j = 11 by omega) with e | e | e | e | e | e | e <;> subst e
            · exact h3.symm
            · rw [h1 6 (by omega) (by omega) (by omega)]; exact q4
            · rw [h1 7 (by omega) (by omega) (by omega)]; exact q5
            · exact h4.symm
            · exact h5.symm
            · rw [h1 10 (by omega) (by omega) (by omega)]; exact q6
            · rw [h1 11 (by omega) (by omega) (by omega)]; exact q7
          · obtain ⟨q1, q2, q3⟩ := w4 i hi hip
            rw [h2 j i hip]
            rcases (show j = 5 ∨ j = 6 ∨ j = 7 ∨ j = 8 ∨ j = 9 ∨ j = 10 ∨ j = 11 by omega) with e | e | e | e | e | e | e <;> subst e
            · exact q1
            · exact q4
            · exact q5
            · exact q2
            · exact q3
            · exact q6
            · exact q7
        have tops : ∀ (A : Nat → Nat → Int32), (∀ j, j ≠ 5 → j ≠ 8 → j ≠ 9 → A j = vM 0 m.1 j) → ∀ j, j < 5 → vM (3 + g) m.1 j 0 = A j 0 := by
          intro A h1 j hj
          rw [h1 j (by omega) (by omega) (by omega)]
          rcases (show j = 0 ∨ j = 1 ∨ j = 2 ∨ j = 3 ∨ j = 4 by omega) with e | e | e | e | e <;> subst e
          · exact v1
          · exact v2
          · exact v3
          · exact w3
          · exact v4
        rcases w5 with ⟨b1, b2, b3, b4⟩ | ⟨a, a1, a2, b1, b2, b3, b, b4, b5, b6⟩
        · have ec := e_standC hW1 w1
          dsimp only at ec
          rw [b1, if_pos rfl, on_of sA_45, ec]
          refine ⟨_, rfl, ?_, fun k k1 k2 => ?_, ?_⟩
          · rw [xu_cell (by omega), xu_cell (by omega), xu_at]
          · rw [xu_off (by omega), xu_off (by omega), xu_off k2]
          · rw [vC_xu, vC_xu]
            refine sc_Y (sc_up0 hs1 (p := p)) (tops _ xu3_1.1) (rows _ xu3_1.1 xu3_1.2 ?_ ?_ ?_) (fun b hb => v6 b hb)
            · show xu (vM 0 m.1) 5 p 1 5 p = _; rw [xu_at, b2]
            · show xu (xu (vM 0 m.1) 5 p 1) 8 p (-1) 8 p = _; rw [xu_at, b3]
            · rw [xu_at, b4]
        · have ec := e_seatC (v := nI a) hW1 w1
          dsimp only at ec
          rw [b1, if_neg (nI_ne0 (by omega) (by omega)), on_of sA_45, ec]
          refine ⟨_, rfl, ?_, fun k k1 k2 => ?_, ?_⟩
          · rw [xu_cell (by omega), xu_cell (by omega), xu_at]
          · rw [xu_off (by omega), xu_off (by omega), xu_off k2]
          · rw [vC_xu, vC_xu]
            refine sc_Y (sc_sit hs1 (p := p) b4 b6 a1 a2) (tops _ xu3_1.1) (rows _ xu3_1.1 xu3_1.2 ?_ ?_ ?_) (fun b hb => v6 b hb)
            · show xu (vM 0 m.1) 5 p 2 5 p = _; rw [xu_at, b2]
            · show xu (xu (vM 0 m.1) 5 p 2) 8 p (nI b) 8 p = _; rw [xu_at, b5]
            · rw [xu_at, b3]
    obtain ⟨I', k1, k2, k3, k4⟩ := key
    have hRI : RefOK (I', d.2.1, d.2.2) P := hRc.same rfl
    refine ⟨nI g, (I', d.2.1, d.2.2), m1, ?_, hM, ⟨rfl, fun k hk => ⟨k3 k (by omega) (by omega), rfl⟩⟩, ⟨e2, fun k hk => ⟨m1r k (by omega) (by omega), by rw [e3]⟩⟩, ?_⟩
    · rw [g0_8 hQ, Option.bind_some, on_of sA_89, k1, Option.bind_some, g0R_13 hRI, Option.bind_some, gI_of sA_89, Option.bind_some]
      dsimp only
      rw [k2]
    · refine rq_build hQ rfl e2 (fun k q1 q2 q3 => k3 k (by omega) (by omega)) (fun k _ => by dsimp only; rw [k3 0 (by omega) (by omega)]) (fun k q1 q2 q3 => m1r k (by omega) (by omega)) (fun k _ _ _ q3 _ _ _ _ _ _ => m1k k q3) g50 g51 (by rw [m1k 53 (by omega)]; exact rq_ew hQ) ?_ ?_ ⟨g, by omega, k2, ?_, fun k hk => ?_⟩
      · exact sc_ve k4 hw6 hb8 hr12 (m1k 50 (by omega)) (rq_po hQ) g51 rfl hG (fun _ _ => rfl) (fun _ _ _ _ _ => rfl) e5
      · dsimp only
        rw [k3 0 (by omega) (by omega), m1k 48 (by omega)]
        rcases rq_im hQ with z | ⟨z1, z2, z3⟩
        · exact Or.inl z
        · refine Or.inr ⟨z1, z2, sc_ve z3 hw6 hb8 hr12 (m1k 50 (by omega)) (rq_po hQ) g51 rfl hG (fun k _ => ?_) (fun j j1 j2 k _ => ?_) (by have w := e6 2 (by omega); rw [v] at w; exact w)⟩
          · show I' 59 k = d.1 59 k; rw [k3 59 (by omega) (by omega)]
          · show I' (59 + j) k = d.1 (59 + j) k; rw [k3 (59 + j) (by omega) (by omega)]
      · rw [e4 99 (by omega), xu_at]
      · dsimp only
        rw [k3 90 (by omega) (by omega), k3 91 (by omega) (by omega)]
        have w1 := e6 (3 + k) (by omega)
        rw [v] at w1
        refine ve_uns hw6 hb8 (hG 103 (by omega) (by omega)) (u4 k (by omega)) w1 ?_
        rw [if_neg (show ¬ k + 1 = g + 1 by omega)]
        by_cases y : k + 1 = g
        · rw [if_pos y, show 4 + k = 3 + g by omega]; exact e5
        · rw [if_neg y]
          have w2 := e6 (4 + k) (by omega)
          rw [v] at w2; exact w2

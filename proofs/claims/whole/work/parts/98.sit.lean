/-! LEVEL 2: keep, back, sit, rise, push, undo -/
theorem p0_11 {d : xD} : xpI 9 shA d 0 11 (1 : Int32) = some (xu d.1 0 11 1, d.2.1, d.2.2) := pI_of sA_0 rfl
theorem pM_48 {d : xD} : xpI 10 shA d 99 48 (1 : Int32) = some (xu d.1 99 48 1, d.2.1, d.2.2) := pI_of sA_99 rfl
theorem l2_keep : L2_keep Rel := by
  intro d hd
  refine co_L2 (fC := f_X9_keep shA 0) (fM := f_X10_keep shA 99) (co_do hd ?_)
  intro P nw nb nr tp md m hm hQ
  have hpr := isPl_le (pr_pl (rq_pr hQ))
  have hw6 := pr_w6 (rq_pr hQ); have hb8 := pr_b8 (rq_pr hQ); have hr12 := pr_r12 (rq_pr hQ)
  have mi : d.1 45 0 = m.1 119 0 := (sc_mi (rq_sn hQ)).trans rM_119.symm
  unfold f_X10_keep
  rw [t0_e, ← hm]
  unfold f_X9_keep
  obtain ⟨c1, e1, hB⟩ := e_become (rq_rc hQ) sc59 sc45 (by omega)
  obtain ⟨m1, e2, hM⟩ := e_copies (to := 2) (as := 0) (by omega) (by omega) (by omega) (rq_rm hQ)
  rw [show nI 2 = (2 : Int32) from rfl, nI_0] at e2
  have hRc1 := (rq_rc hQ).same hB.1
  have hRm1 := (rq_rm hQ).same hM.1
  have h99 : m1.1 99 = m.1 99 := hM.2.2.1 99 (by omega)
  have hG : ∀ k, 101 ≤ k → k ≤ 116 → xu m1.1 99 48 1 k = m.1 k := fun k k1 k2 => (xu_off (by omega)).trans (hM.2.2.1 k (by omega))
  have v : ∀ s, vM s (xu m1.1 99 48 1) = vM s m1.1 := fun s => vM_off (by omega)
  have v0 : VE (vM 0 m1.1) (vM 0 m.1) := vM_mc hM (by omega)
  have g50 : xu m1.1 99 48 1 99 50 = 0 := by rw [xu_at2 (by omega), h99]; exact rq_tw hQ
  have g51 : xu m1.1 99 48 1 99 51 = -1 := by rw [xu_at2 (by omega), h99]; exact rq_po hQ
  refine ⟨m.1 119 0, (xu c1.1 0 11 1, c1.2.1, c1.2.2), (xu m1.1 99 48 1, m1.2.1, m1.2.2), ?_, ?_, ⟨hB.1, fun k hk => ⟨?_, ?_⟩⟩, ⟨hM.1, fun k hk => ⟨?_, ?_⟩⟩, ?_⟩
  · have g8 : xgR 9 shA (xu c1.1 0 11 1, c1.2.1, c1.2.2) 0 8 = some 45 := gR_of sA_0 (rf_0_8 hRc1)
    rw [g0_9 hQ, Option.bind_some, g0_8 hQ, Option.bind_some, on_of sA_59, e1, Option.bind_some, p0_11, Option.bind_some, g8, Option.bind_some, gI_of sA_45, Option.bind_some]
    dsimp only
    rw [xu_cell (by omega), hB.2.2.1 45 (by omega), mi]
  · have g35 : xgR 10 shA (xu m1.1 99 48 1, m1.2.1, m1.2.2) 99 35 = some 119 := gR_of sA_99 (rf_99_35 hRm1)
    rw [on_of sA_99, e2, Option.bind_some, pM_48, Option.bind_some, g35, Option.bind_some, a0_1, Option.bind_some]
    dsimp only
    rw [xu_cell (by omega), hM.2.2.2.1 119 0 (by omega) (by omega) (by omega)]
  · dsimp only; rw [xu_off (by omega)]; exact hB.2.2.1 k (by omega)
  · dsimp only; rw [hB.2.1, xu_off (by omega)]
  · dsimp only; rw [xu_off (by omega)]; exact hM.2.2.1 k (by omega)
  · dsimp only; rw [hM.2.1]
  · refine rq_build hQ hB.1 hM.1 (fun k k1 k2 k3 => ?_) (fun k k1 => ?_) (fun k k1 k2 k3 => ?_) (fun k k0 k1 k2 k3 k4 k5 k6 k7 k8 k9 => ?_) g50 g51 (by dsimp only; rw [xu_at2 (by omega), h99]; exact rq_ew hQ) ?_ ?_ ?_
    · dsimp only; rw [xu_off k3]; exact hB.2.2.1 k (by omega)
    · dsimp only; rw [xu_at2 k1, hB.2.2.1 0 (by omega)]
    · dsimp only; rw [xu_off (by omega)]; exact hM.2.2.1 k (by omega)
    · dsimp only; rw [xu_at2 k2, h99]
    · dsimp only
      rw [v, hB.2.1, xu_cell (by omega)]
      refine sc_ve (rq_sn hQ) hw6 hb8 hr12 (by rw [g50]; exact (rq_tw hQ).symm) (rq_po hQ) g51 rfl hG (fun k _ => ?_) (fun j j1 j2 k _ => ?_) v0
      · show xu c1.1 0 11 1 45 k = d.1 45 k; rw [xu_cell (by omega), hB.2.2.1 45 (by omega)]
      · show xu c1.1 0 11 1 (45 + j) k = d.1 (45 + j) k; rw [xu_cell (by omega), hB.2.2.1 (45 + j) (by omega)]
    · dsimp only
      refine Or.inr ⟨xu_at, xu_at, ?_⟩
      rw [v]
      have z := sc_copy (G' := xu m1.1 99 48 1) (rq_sn hQ) hw6 hb8 hr12 (by rw [g50]; exact (rq_tw hQ).symm) (fun i hi => by rw [pac_m1 (by omega) g51, pac_m1 (by omega) (rq_po hQ), hG 108 (by omega) (by omega)]) hG hB bcW hM
      refine sc_ve z hw6 hb8 hr12 rfl g51 g51 rfl (fun _ _ _ => rfl) (fun k _ => ?_) (fun j j1 j2 k _ => ?_) VE.refl
      · show xu c1.1 0 11 1 59 k = c1.1 59 k; exact xu_cell (by omega)
      · show xu c1.1 0 11 1 (59 + j) k = c1.1 (59 + j) k; exact xu_cell (by omega)
    · obtain ⟨u, u1, u2, u3, u4⟩ := rq_un hQ
      refine ⟨u, u1, ?_, ?_, fun k hk => ?_⟩
      · dsimp only; rw [xu_cell (by omega), hB.2.2.1 89 (by omega)]; exact u2
      · dsimp only; rw [xu_at2 (by omega), h99]; exact u3
      · dsimp only
        rw [xu_cell (by omega), xu_cell (by omega), hB.2.2.1 90 (by omega), hB.2.2.1 91 (by omega), v, v]
        refine ve_uns hw6 hb8 (hG 103 (by omega) (by omega)) (u4 k hk) (vM_mc hM (by omega)) (vM_mc hM ?_)
        by_cases z : k + 1 = u
        · rw [if_pos z]; omega
        · rw [if_neg z]; omega
theorem l2_back : L2_back Rel := by
  intro d hd
  refine co_L2 (fC := f_X9_back shA 0) (fM := f_X10_back shA 99) (co_do hd ?_)
  intro P nw nb nr tp md m hm hQ
  have hpr := isPl_le (pr_pl (rq_pr hQ))
  have hw6 := pr_w6 (rq_pr hQ); have hb8 := pr_b8 (rq_pr hQ); have hr12 := pr_r12 (rq_pr hQ)
  unfold f_X10_back
  rw [t0_e, ← hm]
  unfold f_X9_back
  rw [gI_of sA_0, Option.bind_some, gI_of sA_99, Option.bind_some]
  rcases rq_im hQ with ⟨z1, z2⟩ | ⟨z1, z2, z3⟩
  · rw [z1, z2, if_pos rfl, if_pos rfl]; exact do_same hQ _
  · rw [z1, z2, if_neg one_ne_zero32, if_neg one_ne_zero32]
    have mi : d.1 59 0 = m.1 119 2 := (sc_mi z3).trans rM_119.symm
    obtain ⟨c1, e1, hB⟩ := e_become (rq_rc hQ) sc45 sc59 (by omega)
    obtain ⟨m1, e2, hM⟩ := e_copies (to := 0) (as := 2) (by omega) (by omega) (by omega) (rq_rm hQ)
    rw [show nI 2 = (2 : Int32) from rfl, nI_0] at e2
    have hRc1 := (rq_rc hQ).same hB.1
    have hRm1 := (rq_rm hQ).same hM.1
    have h99 : m1.1 99 = m.1 99 := hM.2.2.1 99 (by omega)
    have hG : ∀ k, 101 ≤ k → k ≤ 116 → xu m1.1 99 49 0 k = m.1 k := fun k k1 k2 => (xu_off (by omega)).trans (hM.2.2.1 k (by omega))
    have v : ∀ s, vM s (xu m1.1 99 49 0) = vM s m1.1 := fun s => vM_off (by omega)
    have g50 : xu m1.1 99 49 0 99 50 = 0 := by rw [xu_at2 (by omega), h99]; exact rq_tw hQ
    have g51 : xu m1.1 99 49 0 99 51 = -1 := by rw [xu_at2 (by omega), h99]; exact rq_po hQ
    refine ⟨m.1 119 2, (xu c1.1 89 0 0, c1.2.1, c1.2.2), (xu m1.1 99 49 0, m1.2.1, m1.2.2), ?_, ?_, ⟨hB.1, fun k hk => ⟨?_, ?_⟩⟩, ⟨hM.1, fun k hk => ⟨?_, ?_⟩⟩, ?_⟩
    · have g8 : xgR 9 shA (xu c1.1 89 0 0, c1.2.1, c1.2.2) 0 8 = some 45 := gR_of sA_0 (rf_0_8 hRc1)
      unfold f_X8_clear
      rw [g0_8 hQ, Option.bind_some, g0_9 hQ, Option.bind_some, on_of sA_45, e1, Option.bind_some, g0R_13 hRc1, Option.bind_some, on_of sA_89, pU_0, Option.bind_some, Option.bind_some, g8, Option.bind_some, gI_of sA_45, Option.bind_some]
      dsimp only
      rw [xu_cell (by omega), hB.2.2.2.2]
      dsimp only
      rw [if_neg (by omega), if_neg (by omega), if_neg (by omega), if_neg (by omega), if_pos rfl, mi]
    · have g35 : xgR 10 shA (xu m1.1 99 49 0, m1.2.1, m1.2.2) 99 35 = some 119 := gR_of sA_99 (rf_99_35 hRm1)
      rw [on_of sA_99, e2, Option.bind_some, pM_49, Option.bind_some, g35, Option.bind_some, a0_1, Option.bind_some]
      dsimp only
      rw [xu_cell (by omega), hM.2.2.2.2.2.2.1 119 (by omega) (by omega)]
    · dsimp only; rw [xu_off (by omega)]; exact hB.2.2.1 k (by omega)
    · dsimp only; rw [hB.2.1, xu_off (by omega)]
    · dsimp only; rw [xu_off (by omega)]; exact hM.2.2.1 k (by omega)
    · dsimp only; rw [hM.2.1]
    · refine rq_build hQ hB.1 hM.1 (fun k k1 k2 k3 => ?_) (fun k k1 => ?_) (fun k k1 k2 k3 => ?_) (fun k k0 k1 k2 k3 k4 k5 k6 k7 k8 k9 => ?_) g50 g51 (by dsimp only; rw [xu_at2 (by omega), h99]; exact rq_ew hQ) ?_ ?_ ⟨0, by omega, by dsimp only; rw [xu_at]; rfl, by dsimp only; rw [xu_at]; rfl, fun k hk => by omega⟩
      · dsimp only; rw [xu_off (by omega)]; exact hB.2.2.1 k (by omega)
      · dsimp only; rw [xu_cell (by omega), hB.2.2.1 0 (by omega)]
      · dsimp only; rw [xu_off (by omega)]; exact hM.2.2.1 k (by omega)
      · dsimp only; rw [xu_at2 k3, h99]
      · dsimp only
        rw [v]
        have z := sc_copy (G' := xu m1.1 99 49 0) z3 hw6 hb8 hr12 (by rw [g50]; exact (rq_tw hQ).symm) (fun i hi => by rw [pac_m1 (by omega) g51, pac_m1 (by omega) (rq_po hQ), hG 108 (by omega) (by omega)]) hG hB bcW hM
        refine sc_ve z hw6 hb8 hr12 rfl g51 g51 rfl (fun _ _ _ => rfl) (fun k _ => ?_) (fun j j1 j2 k _ => ?_) VE.refl
        · show xu c1.1 89 0 0 45 k = c1.1 45 k; exact xu_cell (by omega)
        · show xu c1.1 89 0 0 (45 + j) k = c1.1 (45 + j) k; exact xu_cell (by omega)
      · dsimp only
        refine Or.inr ⟨?_, ?_, ?_⟩
        · rw [xu_cell (by omega), hB.2.2.1 0 (by omega)]; exact z1
        · rw [xu_at2 (by omega), h99]; exact z2
        · rw [v, hB.2.1, xu_cell (by omega)]
          refine sc_ve z3 hw6 hb8 hr12 (by rw [g50]; exact (rq_tw hQ).symm) (rq_po hQ) g51 rfl hG (fun k _ => ?_) (fun j j1 j2 k _ => ?_) (vM_mc hM (by omega))
          · show xu c1.1 89 0 0 59 k = d.1 59 k; rw [xu_cell (by omega), hB.2.2.1 59 (by omega)]
          · show xu c1.1 89 0 0 (59 + j) k = d.1 (59 + j) k; rw [xu_cell (by omega), hB.2.2.1 (59 + j) (by omega)]
/-- what is now is kept on both sides; then a step is done, and may be undone -/
theorem rq_op {P nw nb nr tp : Nat} {d m : xD} (hQ : RQ P nw nb nr tp d m) (x1 x2 : Int32) : ∃ c1 m1, f_X8_add shA 89 x1 x2 d = some c1 ∧ f_X10_keepNow shA 99 m = some m1 ∧ RS P 45 0 nw nb nr tp 0 0 (fun _ _ => True) True c1 m1 c1 m1 ∧ (∀ k, k ≠ 89 → k ≠ 90 → k ≠ 91 → c1.1 k = d.1 k) ∧ VE (vM 0 m1.1) (vM 0 m.1) ∧ m1.1 103 = m.1 103 ∧ ∀ c' m', RS P 45 0 nw nb nr tp 0 0 (fun _ _ => True) True c1 m1 c' m' → UNs nw nb tp m.1 x1 x2 (vM 0 m.1) (vM 0 m'.1) → (c'.2.2 = d.2.2 ∧ ∀ k, 99 ≤ k → c'.1 k = d.1 k ∧ c'.2.1 k = d.2.1 k) ∧ (m'.2.2 = m.2.2 ∧ ∀ k, k < 99 → m'.1 k = m.1 k ∧ m'.2.1 k = m.2.1 k) ∧ RQ P nw nb nr tp c' m' := by
  have hpr := isPl_le (pr_pl (rq_pr hQ))
  have hw6 := pr_w6 (rq_pr hQ); have hb8 := pr_b8 (rq_pr hQ); have hr12 := pr_r12 (rq_pr hQ)
  obtain ⟨u, u1, u2, u3, u4⟩ := rq_un hQ
  obtain ⟨I', u', a1, a2, a3, a4, a5, a6⟩ := e_add (rq_rc hQ) u1 u2 x1 x2
  obtain ⟨m1, u'', b1, b2, b3, b4, b5, b6, b7, b8, b9, b10⟩ := e_keepNow (rq_rm hQ) u1 u3
  have huu : u'' = u' := by
    rcases a6 with ⟨p1, p2, _⟩ | ⟨p1, p2, _⟩ <;> rcases b10 with ⟨q1, q2, _⟩ | ⟨q1, q2, _⟩ <;> omega
  subst huu
  have hG : ∀ k, 101 ≤ k → k ≤ 116 → m1.1 k = m.1 k := fun k k1 k2 => b4 k (by omega) (by omega)
  have g51 : m1.1 99 51 = -1 := by rw [b5 51 (by omega)]; exact rq_po hQ
  have hR1 : RefOK (I', d.2.1, d.2.2) P := (rq_rc hQ).same rfl
  have hrs : RS P 45 0 nw nb nr tp 0 0 (fun _ _ => True) True (I', d.2.1, d.2.2) m1 (I', d.2.1, d.2.2) m1 := by
    refine ⟨wf_refl hR1 ((rq_rm hQ).same b2) sc45 (by omega) (pr_same (rq_pr hQ) (fun k hk => a2 k (by omega) (by omega) (by omega)) hG), ?_⟩
    rw [b5 53 (by omega), rq_ew hQ]
    refine sc_ve (rq_sn hQ) hw6 hb8 hr12 (b5 50 (by omega)) (rq_po hQ) g51 rfl hG (fun k _ => ?_) (fun j j1 j2 k _ => ?_) (b8 0 (by omega))
    · show I' 45 k = d.1 45 k; rw [a2 45 (by omega) (by omega) (by omega)]
    · show I' (45 + j) k = d.1 (45 + j) k; rw [a2 (45 + j) (by omega) (by omega) (by omega)]
  refine ⟨_, m1, a1, b1, hrs, a2, b8 0 (by omega), b4 103 (by omega) (by omega), fun c' m' hr hnew => ?_⟩
  obtain ⟨f1, f2⟩ := fr_c hr.1 (by omega)
  obtain ⟨f3, f4⟩ := fr_m hr.1
  refine ⟨⟨f1, fun k hk => ⟨(f2 k hk).1.trans (a2 k (by omega) (by omega) (by omega)), (f2 k hk).2⟩⟩, ⟨f3.trans b2, fun k hk => ⟨(f4 k hk).1.trans (b4 k (by omega) (by omega)), (f4 k hk).2.trans (by rw [b3])⟩⟩, ?_⟩
  refine rq_now (c1 := (I', d.2.1, d.2.2)) hQ rfl rfl b2 a2 b4 b5 (b8 2 (by omega)) hr ?_
  have w90 : c'.1 90 = I' 90 := wf_oc hr.1 90 (by omega)
  have w91 : c'.1 91 = I' 91 := wf_oc hr.1 91 (by omega)
  have w89 : c'.1 89 = I' 89 := wf_oc hr.1 89 (by omega)
  refine un_push (J1 := m1.1) hw6 hb8 u1 u4 (by rw [w89]; exact a3) (by rw [w90]; exact a4) (by rw [w91]; exact a5) (by rw [w90, w91]; exact a6) ?_ ?_ b9 b10 (fun s hs => ve_wf hr.1 (by omega)) hnew
  · rw [wf_o9 hr.1 49 (by omega) (by omega)]; exact b7
  · rw [wf_om hr.1 103 (by omega) (by omega)]; exact b4 103 (by omega) (by omega)

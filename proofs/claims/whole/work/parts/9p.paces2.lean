/-! LEVEL 2: paces, the call -/
theorem l2_paces : L2_paces Rel := by
  intro d a1 hd
  refine co_L2 (fC := f_X9_paces shA 0 a1) (fM := f_X10_paces shA 99 a1) (co_ty hd ?_)
  intro P nw nb nr tp md m hm hQ
  have hp := pr_pl (rq_pr hQ)
  have hpl := isPl_le hp
  have hRc := rq_rc hQ; have hRm := rq_rm hQ
  obtain ⟨n, h1, h2, h3, h4, h5, h6⟩ := rq_se hQ
  have hC : ∀ I, RefOK (I, d.2.1, d.2.2) P := fun I => hRc.same rfl
  have hM : ∀ I, RefOK (I, m.2.1, m.2.2) P := fun I => hRm.same rfl
  unfold f_X10_paces
  rw [t0_e, ← hm]
  unfold f_X9_paces
  rw [g0_4 hQ, Option.bind_some, on_of (sp_0 hp), on_of sA_99]
  rcases e_hasW hQ a1 with ⟨p, hpw, rfl, e1, e2⟩ | ⟨e1, e2⟩
  · rw [e1, e2, Option.bind_some, Option.bind_some]
    dsimp only
    rw [if_neg one_ne_zero32, if_neg one_ne_zero32, g0_14 hQ, Option.bind_some, on_of sA_92]
    obtain ⟨K, hK, eK⟩ : ∃ K, K ≤ n ∧ (if m.1 99 58 = -1 then nI n else m.1 99 58) = nI K := by
      rcases h5 with z | ⟨k, k1, k2⟩
      · exact ⟨n, by omega, if_pos z⟩
      · exact ⟨k, k1, by rw [k2, if_neg (nI_ne_m1 (by omega))]⟩
    have kC := e_knownC h2 h4
    rw [eK] at kC
    obtain ⟨I1, c1, c2, c3⟩ := siftC_fill hC (show K ≤ 24 by omega) 24 0 d.1 xF (by omega) (by unfold xF; omega) (fun j hj => by omega)
    obtain ⟨J1, d1, d2, d3⟩ := siftM_fill (x1 := nI p) hM (show K ≤ 24 by omega) K 0 m.1 xF (by omega) (by unfold xF; omega) (fun J hJ => by
      have z := e_known (m := (J, m.2.1, m.2.2)) (n := n) (v := m.1 99 58) (by dsimp only; rw [hJ]; exact h3) (by dsimp only; rw [hJ])
      rw [eK] at z; exact z) (fun j hj => by omega)
    rw [nI_0] at c1 d1
    have hs : ∀ i, i < n → I1 93 i = J1 137 i ∧ (J1 137 i = -1 ∨ ∃ j, j < i ∧ J1 137 i = nI j) := fun i hi => by
      rw [c2 93 (by omega), d2 137 (by omega)]
      exact ⟨(h6 i hi).1, (h6 i hi).2.imp (fun z => z.1) id⟩
    have hf : SF K I1 J1 := ⟨fun i hi => Or.inl ⟨by rw [c3 i (by omega), if_neg (by omega)], d3 i hi⟩, fun i i1 i2 => by rw [c3 i i2, if_pos i1]⟩
    obtain ⟨I2, J2, s1, s2, s3, s4, s5⟩ := sift_lock (nb := nb) (x1 := nI p) hC hM hK h1 K I1 J1 xF xF (by omega) (by unfold xF; omega) (by unfold xF; omega) hs hf
    have hI : ∀ q, q ≠ 98 → I2 q = d.1 q := fun q hq => (s3 q hq).trans (c2 q hq)
    have hJ : ∀ q, q ≠ 138 → J2 q = m.1 q := fun q hq => (s4 q hq).trans (d2 q hq)
    have hct : CT P d (I2, d.2.1, d.2.2) := ⟨rfl, fun k _ hk => hI k hk, fun _ _ _ _ => rfl⟩
    have hv : ∀ s, VE (vM s J2) (vM s m.1) := fun s => ve_rows (fun k k1 k2 => hJ k (by omega))
    have hmt : MT m (J2, m.2.1, m.2.2) := ⟨rfl, fun k hk => ⟨hJ k (by omega), rfl⟩, fun k _ _ hk => hJ k hk, fun k _ _ _ _ _ _ _ _ => by dsimp only; rw [hJ 99 (by omega)], fun s _ => hv s⟩
    have hkm : f_X10_knownMany shA 99 (J2, m.2.1, m.2.2) = some (nI K, (J2, m.2.1, m.2.2)) := by
      have z := e_known (m := (J2, m.2.1, m.2.2)) (n := n) (v := m.1 99 58) (by dsimp only; rw [hJ 99 (by omega)]; exact h3) (by dsimp only; rw [hJ 99 (by omega)])
      rw [eK] at z; exact z
    have hkm1 : f_X10_knownMany shA 99 (J1, m.2.1, m.2.2) = some (nI K, (J1, m.2.1, m.2.2)) := by
      have z := e_known (m := (J1, m.2.1, m.2.2)) (n := n) (v := m.1 99 58) (by dsimp only; rw [d2 99 (by omega)]; exact h3) (by dsimp only; rw [d2 99 (by omega)])
      rw [eK] at z; exact z
    have hsn : SN nb n K (I2, d.2.1, d.2.2) (J2, m.2.1, m.2.2) := by
      refine ⟨⟨hK, h1⟩, by dsimp only; rw [hI 92 (by omega)]; exact h2, hkm, s5, fun i hi => ?_⟩
      dsimp only
      rw [hI 93 (by omega), hI 94 (by omega), hI 95 (by omega), hI 96 (by omega), hI 97 (by omega), hJ 133 (by omega), hJ 134 (by omega), hJ 135 (by omega), hJ 136 (by omega), hJ 137 (by omega)]
      exact ⟨(h6 i hi).1, (h6 i hi).2.imp (fun z => ⟨z.1, z.2.1, z.2.2.1, z.2.2.2.1, z.2.2.2.2.1⟩) id⟩
    obtain ⟨l, l1, l2⟩ := lmx_le (kn := knS K J2) (mi := J2 133) K 0 0 (by omega) (fun j _ _ hk => by
      obtain ⟨⟨a, _, a2, _, a4⟩, _⟩ := knS_mi hsn hk
      exact ⟨a, a2, a4⟩)
    rw [nI_0] at l2
    have lM := lastM_loop (x1 := nI p) (hM J2) hsn K 0 xF 0 (by omega) (by unfold xF; omega)
    rw [nI_0] at lM
    have lM : xloop (fun _ _ _ _ _ => none) (b_X10_paces_90 shA) xF 99 (nI p) 0 0 (J2, m.2.1, m.2.2) = k_X10_paces_134 shA 99 (nI p) (lmx (knS K J2) (J2 133) 0 K 0) (J2, m.2.1, m.2.2) := lM
    have mt3 : MT (J2, m.2.1, m.2.2) (xu J2 99 51 (nI p), m.2.1, m.2.2) := mt_99 (m := (J2, m.2.1, m.2.2)) (by omega)
    have e138 : (xu J2 99 51 (nI p), m.2.1, m.2.2).1 138 = (J2, m.2.1, m.2.2).1 138 := by dsimp only; rw [xu_off (by omega)]
    obtain ⟨r, c', m', y1, y2, y3, y4, y5, y6, y7⟩ := pace_loop (n := n) (K := K) l1 hpw 9 0 0 (I2, d.2.1, d.2.2) (xu J2 99 51 (nI p), m.2.1, m.2.2) xF xF (by omega) (by unfold xF; omega) (by unfold xF; omega) (hC I2) (hM _) (pr_ctmt (rq_pr hQ) hct (hmt.trans mt3)) (sn_ctmt hsn (CT.refl (P := P)) mt3 rfl e138) ((lm_ctmt mt3 e138).trans l2) (by dsimp only; rw [xu_at2 (by omega), hJ 99 (by omega)]; exact rq_tw hQ) (by dsimp only; rw [xu_at]) (by dsimp only; rw [xu_at2 (by omega), hJ 99 (by omega)]; exact rq_ew hQ)
    rw [nI_0] at y2
    have y1 : xloop (fun _ _ _ _ _ => none) (b_X9_paces_24 shA) xF 0 (nI p) 0 1 (I2, d.2.1, d.2.2) = some (r, c') := y1
    refine ⟨r, c', m', ?_, ?_, hct.trans y3, (hmt.trans mt3).trans y4, y5, y6, y7⟩
    · have s1 : xloop (fun _ _ _ => none) (b_X5_sift_39 shA) xF 92 (nI K - 1) (I1, d.2.1, d.2.2) = some (I2, d.2.1, d.2.2) := by rw [Int32.sub_eq_add_neg]; exact s1
      have c1 : xloop (fun _ _ _ _ => none) (b_X5_sift_7 shA) xF 92 (nI K) 0 d = k_X5_sift_35 shA 92 (nI K) (I1, d.2.1, d.2.2) := c1
      unfold f_X5_sift
      rw [on_of sA_92, kC, Option.bind_some]
      dsimp only
      rw [c1, k_X5_sift_35, s1, Option.bind_some]
      exact y1
    · have s2 : xloop (fun _ _ _ _ _ => none) (b_X10_paces_47 shA) xF 99 (nI p) 0 (nI K - 1) (J1, m.2.1, m.2.2) = k_X10_paces_88 shA 99 (nI p) 0 (J2, m.2.1, m.2.2) := by rw [Int32.sub_eq_add_neg]; exact s2
      have d1 : xloop (fun _ _ _ _ _ => none) (b_X10_paces_19 shA) xF 99 (nI p) 0 0 m = k_X10_paces_40 shA 99 (nI p) 0 (J1, m.2.1, m.2.2) := d1
      rw [d1, k_X10_paces_40, on_of sA_99, hkm1, Option.bind_some]
      dsimp only
      rw [s2, k_X10_paces_88, lM, l2, k_X10_paces_134, pM_51, Option.bind_some]
      exact y2
  · rw [e1, e2]; exact ty_same hQ _

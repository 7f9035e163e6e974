/-! LEVEL 2: bench, law, count, walker -/
theorem v0_ {J : Nat → Nat → Int32} {j k : Nat} : vM 0 J j k = J (119 + j) k := by show J (119 + j) (stj j * 0 + k) = _; rw [Nat.mul_zero, Nat.zero_add]
theorem l2_bench : L2_bench Rel := by
  intro d a1 a2 hd
  refine co_L2 (fC := f_X9_bench shA 0 a1 a2) (fM := f_X10_bench shA 99 a1 a2) (co_look hd ?_)
  intro P nw nb nr tp md m hm hQ
  have hp := pr_pl (rq_pr hQ)
  have hw6 := pr_w6 (rq_pr hQ); have hb8 := pr_b8 (rq_pr hQ)
  have hRc := rq_rc hQ; have hRm := rq_rm hQ
  obtain ⟨hW, hS⟩ := rq_rs hQ
  unfold f_X10_bench
  rw [t0_e, ← hm]
  unfold f_X9_bench
  rw [g0_4 hQ, Option.bind_some, on_of (sp_0 hp), on_of sA_99]
  rcases e_hasB hQ a1 with ⟨b, hb, rfl, e1, e2⟩ | ⟨e1, e2⟩
  · have x1 : d.1 (P + 2) b = m.1 103 b := p0_bs (rq_pr hQ) b hb
    have x8 : d.1 (45 + 8) b = m.1 104 b := by have z : d.1 (45 + 8) b = _ := sc_se (rq_sn hQ) b hb; rw [rq_tw hQ, if_neg (by decide)] at z; exact z
    obtain ⟨w, _, w2, w3⟩ := sc_wo (rq_sn hQ) b hb
    have w2 : d.1 (45 + 9) b = nI w := w2
    rw [v0_] at w3
    have w3 : m.1 131 b = nI w := w3
    have t1 := e_sitC hW hS hb
    have t2 := e_sitM hW b
    obtain ⟨n1, k, hk, n2⟩ := e_cnt (Y := vM 0 m.1) (b := b) hw6 d
    obtain ⟨s, s1, s2, s3⟩ := e_seats hW hb
    have t3 := e_freeM hW hb n2 s3
    rw [nI_0] at t2 t3
    rw [rq_tw hQ, if_neg (by decide)] at s3
    rw [n2] at n1
    rw [e1, e2, Option.bind_some, Option.bind_some]
    dsimp only
    rw [if_neg one_ne_zero32, if_neg one_ne_zero32]
    simp (disch := omega) only [g0_4 hQ, g0_8 hQ, gR_of (sp_0 hp) (rp_6 hRc hp), Option.bind_some, aI_of (sp_2 hp), x1, gR_of sA_45 (rs_12 hRc sc45), gR_of sA_45 (rs_13 hRc sc45), aI_of (ss_8 sc45), aI_of (ss_9 sc45), x8, w2, on_of sA_45, t1, n1, gR_of sA_99 (rf_99_5 hRm), gR_of sA_99 (rf_99_6 hRm), gR_of sA_99 (rf_99_47 hRm), aI_of sA_103, aI_of sA_104, aI_of sA_131, w3, on_of sA_99, t2, t3, s3]
    by_cases k0 : a2 = 0
    · simp only [if_pos k0]; exact ⟨_, rfl, rfl⟩
    · by_cases k1 : a2 = 1
      · simp only [if_neg k0, if_pos k1]; exact ⟨_, rfl, rfl⟩
      · by_cases k2 : a2 = 2
        · simp only [if_neg k0, if_neg k1, if_pos k2]; exact ⟨_, rfl, rfl⟩
        · by_cases k3 : a2 = 3
          · simp only [if_neg k0, if_neg k1, if_neg k2, if_pos k3]; exact ⟨_, rfl, rfl⟩
          · by_cases k4 : a2 = 4
            · simp only [if_neg k0, if_neg k1, if_neg k2, if_neg k3, if_pos k4]; exact ⟨_, rfl, rfl⟩
            · simp only [if_neg k0, if_neg k1, if_neg k2, if_neg k3, if_neg k4]; exact ⟨_, rfl, rfl⟩
  · rw [e1, e2]; exact ⟨_, rfl, rfl⟩
theorem l2_law : L2_law Rel := by
  intro d a1 a2 a3 hd
  refine co_L2 (fC := f_X9_law shA 0 a1 a2 a3) (fM := f_X10_law shA 99 a1 a2 a3) (co_ty hd ?_)
  intro P nw nb nr tp md m hm hQ
  have hp := pr_pl (rq_pr hQ)
  have hpr := isPl_le hp
  have hRc := rq_rc hQ; have hRm := rq_rm hQ
  obtain ⟨hW, hS⟩ := rq_rs hQ
  unfold f_X10_law
  rw [t0_e, ← hm]
  unfold f_X9_law k_X9_law_31 k_X10_law_38 k_X10_law_69
  by_cases c0 : a1 < 0
  · rw [if_pos c0, if_pos c0]; exact ty_same hQ _
  rw [if_neg c0, if_neg c0]
  by_cases c1 : 2 < a1
  · have c1' : (3 : Int32) ≤ a1 := by
      have h1 := Int32.lt_iff_toInt_lt.mp c1
      rw [show (2 : Int32).toInt = 2 by decide] at h1
      rw [Int32.le_iff_toInt_le, show (3 : Int32).toInt = 3 by decide]; omega
    rw [if_pos c1', if_pos c1]; exact ty_same hQ _
  · obtain ⟨k, hk, rfl⟩ := nI_of2 (n := 2) (by decide) c0 (Int32.not_lt.mp c1)
    rw [if_neg (show ¬ (3 : Int32) ≤ nI k from nI_ge (b := 3) (by omega) (by omega)), if_neg c1, g0_4 hQ, Option.bind_some, on_of (sp_0 hp), on_of sA_99, e_hasLaw hW (show k < 3 by omega), Option.bind_some]
    dsimp only
    by_cases hl : m.1 113 k < m.1 114 k
    · rw [if_pos hl, if_neg one_ne_zero32, on_of sA_99]
      rcases e_hasW hQ a2 with ⟨p, hpw, rfl, e1, e2⟩ | ⟨e1, e2⟩
      · rw [e1, e2, Option.bind_some, Option.bind_some]
        dsimp only
        rw [if_neg one_ne_zero32, if_neg one_ne_zero32, g0_4 hQ, Option.bind_some, on_of (sp_0 hp), on_of sA_99]
        rcases e_hasB hQ a3 with ⟨b, hb, rfl, e3, e4⟩ | ⟨e3, e4⟩
        · rw [e3, e4, Option.bind_some, Option.bind_some]
          dsimp only
          rw [if_neg one_ne_zero32, if_neg one_ne_zero32]
          obtain ⟨L2, hL2, eW⟩ := e_worth hW hS (show k < 3 by omega) hpw hb
          obtain ⟨L1, f1, f2, f3⟩ := e_calls hW hpw hb
          have hw1 := wf_mL hW (L := L1) (fun k k1 _ => f1 k k1)
          obtain ⟨L', h', hL', hv, eG⟩ := e_goes hw1 (show k < 3 by omega) hl (p := p) (b := b) (Y := vM 0 m.1) (w := vM 0 m.1 12 b) f2
          rw [nI_0] at f3
          dsimp only at eG hL'
          have hR' : RefOK (xu m.1 99 34 h', L', m.2.2) P := hRm.same rfl
          have e0 : xaL shA (xu m.1 99 34 h', L', m.2.2) 118 0 = some (L' 118 0) := aL_of (i := 0) sA_118 (by omega) (by omega)
          rw [g0_12 hQ, Option.bind_some, g0_8 hQ, Option.bind_some, on_of sA_87, eW, Option.bind_some, on_of sA_99, f3, Option.bind_some, on_of sA_99, eG, Option.bind_some]
          dsimp only
          rw [gR_of sA_99 (rf_99_33 hR'), Option.bind_some, e0, Option.bind_some]
          refine ⟨(lvv m.1 (vM 0 m.1) nw k p b (vM 0 m.1 12 b)).getD (-9223372036854775808), (d.1, L2, d.2.2), (xu m.1 99 34 h', L', m.2.2), rfl, ?_, ⟨rfl, fun _ _ _ => rfl, fun j _ j2 j3 => hL2 j j2 j3⟩, ?_, ?_, ?_, ?_⟩
          · cases hO : lvv m.1 (vM 0 m.1) nw k p b (vM 0 m.1 12 b) with
            | none => rw [if_pos (by decide)]; rfl
            | some v =>
              have z : (if (some v).isSome = true then (1 : Int32) else 0) = 1 := rfl
              rw [z, if_neg one_ne_zero32, hv v hO]; rfl
          · refine MT.trans (m1 := (xu m.1 99 34 h', m.2.1, m.2.2)) (mt_99 (by omega)) ⟨rfl, fun j hj => ⟨rfl, ?_⟩, fun _ _ _ _ => rfl, fun _ _ _ _ _ _ _ _ _ => rfl, fun _ _ => ⟨fun _ _ => rfl, fun _ _ _ _ _ => rfl, fun _ _ => rfl⟩⟩
            exact (hL' j (by omega)).trans (f1 j (by omega))
          · dsimp only; rw [xu_at2 (by omega)]; exact rq_tw hQ
          · dsimp only; rw [xu_at2 (by omega)]; exact rq_po hQ
          · dsimp only; rw [xu_at2 (by omega)]; exact rq_ew hQ
        · rw [e3, e4]; exact ty_same hQ _
      · rw [e1, e2]; exact ty_same hQ _
    · rw [if_neg hl, if_pos rfl]
      rcases e_hasW hQ a2 with ⟨p, hpw, rfl, e1, e2⟩ | ⟨e1, e2⟩
      · rw [e1, Option.bind_some]
        dsimp only
        rw [if_neg one_ne_zero32, g0_4 hQ, Option.bind_some, on_of (sp_0 hp)]
        rcases e_hasB hQ a3 with ⟨b, hb, rfl, e3, e4⟩ | ⟨e3, e4⟩
        · rw [e3, Option.bind_some]
          dsimp only
          obtain ⟨L2, hL2, eW⟩ := e_worth hW hS (show k < 3 by omega) hpw hb
          have hn : lvv m.1 (vM 0 m.1) nw k p b (vM 0 m.1 12 b) = none := by unfold lvv; rw [if_neg hl]
          rw [hn] at eW
          rw [if_neg one_ne_zero32, g0_12 hQ, Option.bind_some, g0_8 hQ, Option.bind_some, on_of sA_87, eW]
          exact ⟨_, (d.1, L2, d.2.2), m, rfl, rfl, ⟨rfl, fun _ _ _ => rfl, fun j _ j2 j3 => hL2 j j2 j3⟩, MT.refl, rq_tw hQ, rq_po hQ, rq_ew hQ⟩
        · rw [e3]; exact ty_same hQ _
      · rw [e1]; exact ty_same hQ _
/-- the class's walker, the law's row and the reference's -/
theorem l2_walker : L2_walker Rel := by
  intro d a1 a2 hd
  obtain ⟨P, nw, nb, nr, tp, hQ⟩ := hd
  have hp := pr_pl (rq_pr hQ)
  have hw6 := pr_w6 (rq_pr hQ)
  have hRc := rq_rc hQ; have hRm := rq_rm hQ
  have t1 : ∀ (v : Int32) (m : xD), RQ P nw nb nr tp m m → RQ P nw nb nr tp (xu m.1 99 0 v, m.2.1, m.2.2) (xu m.1 99 0 v, m.2.1, m.2.2) := by
    intro v m hm
    exact rl_frame hm ⟨rfl, fun k _ _ => xu_off (by omega), fun _ _ _ _ _ => rfl⟩ (mf_of hm rfl (fun k k1 _ => xu_off (by omega)) (fun k k0 => by dsimp only; rw [xu_at2 k0]))
  have rel : ∀ (v : Int32) (m : xD), RQ P nw nb nr tp m m → Rel (xu m.1 99 0 v, m.2.1, m.2.2) := fun v m hm => ⟨P, nw, nb, nr, tp, t1 v m hm⟩
  have thr' : ∀ (v : Int32) (m : xD), f_X10_thrown shA 99 (xu m.1 99 0 v, m.2.1, m.2.2) = some (v, (xu m.1 99 0 v, m.2.1, m.2.2)) := by
    intro v m
    unfold f_X10_thrown
    rw [gI_of sA_99, Option.bind_some]
    dsimp only
    rw [xu_at]
  unfold f_L_walker f_X9_walkerX
  rw [on_of sA_0, g0_4 hQ, Option.bind_some, on_of (sp_0 hp)]
  rcases e_hasW hQ a1 with ⟨p, hpw, rfl, e1, e2⟩ | ⟨e1, e2⟩
  · have s5 : d.1 (45 + 1) p = d.1 124 p := (sc_st (rq_sn hQ) p hpw).trans v0_
    have s6 : d.1 (45 + 2) p = d.1 125 p := by obtain ⟨a, _, y1, y2⟩ := sc_sp (rq_sn hQ) p hpw; exact (y1.trans y2.symm).trans v0_
    have s7 : d.1 (45 + 3) p = d.1 126 p := (sc_dn (rq_sn hQ) p hpw).trans v0_
    have s8 : d.1 (45 + 4) p = d.1 108 p := by have z : d.1 (45 + 4) p = _ := sc_pa (rq_sn hQ) p hpw; rw [pac_m1 (by omega) (rq_po hQ)] at z; exact z
    have s9 : d.1 (45 + 5) p = d.1 128 p := (sc_la (rq_sn hQ) trivial p hpw).1.trans v0_
    have s10 : d.1 (45 + 6) p = d.1 129 p := (sc_sa (rq_sn hQ) p hpw).trans v0_
    have s11 : d.1 (45 + 7) p = d.1 130 p := by
      apply b_ext
      intro i hi
      exact (sc_me (rq_sn hQ) p hpw i hi trivial).trans (by rw [v0_])
    rw [e1, Option.bind_some]
    dsimp only
    rw [if_neg one_ne_zero32]
    have fin : ∀ (v : Int32), (a2 < 0 → False) → a2 ≤ 6 → (∀ m : xD, m.1 = xu d.1 99 0 0 → m.2.2 = d.2.2 → (if a2 = (0 : Int32) then ((xgR 10 shA m 99 40).bind fun v4 => (xaI .int shA m v4 (nI p)).bind fun v5 => some (v5, m)) else (if a2 = (1 : Int32) then ((xgR 10 shA m 99 41).bind fun v7 => (xaI .int shA m v7 (nI p)).bind fun v8 => some (v8, m)) else (if a2 = (2 : Int32) then ((xgR 10 shA m 99 42).bind fun v10 => (xaI .int shA m v10 (nI p)).bind fun v11 => some (v11, m)) else (if a2 = (3 : Int32) then ((xgR 10 shA m 99 10).bind fun v13 => (xaI .int shA m v13 (nI p)).bind fun v14 => some (v14, m)) else (if a2 = (4 : Int32) then ((xgR 10 shA m 99 44).bind fun v16 => (xaI .int shA m v16 (nI p)).bind fun v17 => some (v17, m)) else (if a2 = (5 : Int32) then ((xgR 10 shA m 99 45).bind fun v19 => (xaI .int shA m v19 (nI p)).bind fun v20 => some (v20, m)) else ((xgR 10 shA m 99 46).bind fun v21 => (xaI .int shA m v21 (nI p)).bind fun v22 => some (v22, m)))))))) = some (v, m)) → ∃ (k r : Int32) (d1 d2 : xD), ((some ((0 : Int32), v, d)).bind fun z => if z.1 = 0 then ((xsL shA z.2.2 139 0 (z.2.1).toInt64).bind fun d2 => some ((0 : Int32), d2)) else some (z.1, z.2.2)) = some (k, d1) ∧ f_X10_walker shA 99 (nI p) a2 d1 = some (r, d2) ∧ f_X10_thrown shA 99 d2 = some (k, d2) ∧ (k = 0 → xaL shA d2 139 0 = some r.toInt64) ∧ Rel d2 := by
      intro v n0 n6 hv
      have sl : xsL shA d 139 0 v.toInt64 = some (d.1, xu d.2.1 139 0 v.toInt64, d.2.2) := sL_of (i := 0) sA_139 (by omega) (by omega)
      have hQ1 : RQ P nw nb nr tp (d.1, xu d.2.1 139 0 v.toInt64, d.2.2) (d.1, xu d.2.1 139 0 v.toInt64, d.2.2) := rl_frame hQ ⟨rfl, fun _ _ _ => rfl, fun k k1 _ _ _ => xu_off (by omega)⟩ (mf_of hQ rfl (fun _ _ _ => rfl) (fun _ _ => rfl))
      refine ⟨0, v, (d.1, xu d.2.1 139 0 v.toInt64, d.2.2), (xu d.1 99 0 0, xu d.2.1 139 0 v.toInt64, d.2.2), ?_, ?_, ?_, fun _ => ?_, rel 0 _ hQ1⟩
      · rw [Option.bind_some]
        dsimp only
        rw [if_pos rfl, sl]; rfl
      · rcases e_hasW hQ1 (nI p) with ⟨_, _, _, _, g2⟩ | ⟨g1, _⟩
        · unfold f_X10_walker k_X10_walker_28
          rw [on_of sA_99, g2, Option.bind_some]
          dsimp only
          rw [if_neg one_ne_zero32, if_neg n0, if_pos n6, pM_0, Option.bind_some, gI_of sA_99, Option.bind_some]
          dsimp only
          rw [if_pos (show xu d.1 99 0 0 99 0 = 0 from xu_at)]
          exact hv _ rfl rfl
        · exfalso
          have e1' : f_X3_hasWalker shA P (nI p) (d.1, xu d.2.1 139 0 v.toInt64, d.2.2) = some (1, (d.1, xu d.2.1 139 0 v.toInt64, d.2.2)) := by
            have c9 : d.1 P 9 = nI nw := pr_cW (rq_pr hQ)
            unfold f_X3_hasWalker k_X3_hasWalker_16 k_X3_hasWalker_17
            rw [if_neg (nI_pos (by omega)), gI_of (sp_0 hp), Option.bind_some]
            dsimp only
            rw [c9, if_neg (nI_ge hpw (by omega))]; rfl
          rw [e1'] at g1
          have := (Prod.mk.inj (Option.some.inj g1)).1
          exact absurd this (by decide)
      · exact thr' 0 (d.1, xu d.2.1 139 0 v.toInt64, d.2.2)
      · have z := aL_of (d := (xu d.1 99 0 0, xu d.2.1 139 0 v.toInt64, d.2.2)) (i := 0) sA_139 (by omega) (by omega)
        rw [nI_0] at z
        dsimp only at z
        rw [xu_at] at z; exact z
    have rr : ∀ (m : xD), m.2.2 = d.2.2 → RefOK m P := fun m h => hRm.same h
    have rd : ∀ (m : xD) (k : Nat), m.1 = xu d.1 99 0 0 → k ≠ 99 → m.1 k = d.1 k := fun m k h hk => by rw [h, xu_off hk]
    by_cases k0 : a2 = 0
    · rw [if_pos k0, g0_8 hQ, Option.bind_some, gR_of sA_45 (rs_5 hRc sc45), Option.bind_some, aI_of (ss_1 sc45) (by omega) (by omega), Option.bind_some, s5]
      refine fin _ (by rw [k0]; decide) (by rw [k0]; decide) (fun m h1 h2 => ?_)
      rw [if_pos k0, gR_of sA_99 (rf_99_40 (rr m h2)), Option.bind_some, aI_of sA_124 (by omega) (by omega), rd m 124 h1 (by omega)]; rfl
    · rw [if_neg k0]
      by_cases k1 : a2 = 1
      · rw [if_pos k1, g0_8 hQ, Option.bind_some, gR_of sA_45 (rs_6 hRc sc45), Option.bind_some, aI_of (ss_2 sc45) (by omega) (by omega), Option.bind_some, s6]
        refine fin _ (by rw [k1]; decide) (by rw [k1]; decide) (fun m h1 h2 => ?_)
        rw [if_neg k0, if_pos k1, gR_of sA_99 (rf_99_41 (rr m h2)), Option.bind_some, aI_of sA_125 (by omega) (by omega), rd m 125 h1 (by omega)]; rfl
      · rw [if_neg k1]
        by_cases k2 : a2 = 2
        · rw [if_pos k2, g0_8 hQ, Option.bind_some, gR_of sA_45 (rs_7 hRc sc45), Option.bind_some, aI_of (ss_3 sc45) (by omega) (by omega), Option.bind_some, s7]
          refine fin _ (by rw [k2]; decide) (by rw [k2]; decide) (fun m h1 h2 => ?_)
          rw [if_neg k0, if_neg k1, if_pos k2, gR_of sA_99 (rf_99_42 (rr m h2)), Option.bind_some, aI_of sA_126 (by omega) (by omega), rd m 126 h1 (by omega)]; rfl
        · rw [if_neg k2]
          by_cases k3 : a2 = 3
          · rw [if_pos k3, g0_8 hQ, Option.bind_some, gR_of sA_45 (rs_8 hRc sc45), Option.bind_some, aI_of (ss_4 sc45) (by omega) (by omega), Option.bind_some, s8]
            refine fin _ (by rw [k3]; decide) (by rw [k3]; decide) (fun m h1 h2 => ?_)
            rw [if_neg k0, if_neg k1, if_neg k2, if_pos k3, gR_of sA_99 (rf_99_10 (rr m h2)), Option.bind_some, aI_of sA_108 (by omega) (by omega), rd m 108 h1 (by omega)]; rfl
          · rw [if_neg k3]
            by_cases k4 : a2 = 4
            · rw [if_pos k4, g0_8 hQ, Option.bind_some, gR_of sA_45 (rs_9 hRc sc45), Option.bind_some, aI_of (ss_5 sc45) (by omega) (by omega), Option.bind_some, s9]
              refine fin _ (by rw [k4]; decide) (by rw [k4]; decide) (fun m h1 h2 => ?_)
              rw [if_neg k0, if_neg k1, if_neg k2, if_neg k3, if_pos k4, gR_of sA_99 (rf_99_44 (rr m h2)), Option.bind_some, aI_of sA_128 (by omega) (by omega), rd m 128 h1 (by omega)]; rfl
            · rw [if_neg k4]
              by_cases k5 : a2 = 5
              · rw [if_pos k5, g0_8 hQ, Option.bind_some, gR_of sA_45 (rs_10 hRc sc45), Option.bind_some, aI_of (ss_6 sc45) (by omega) (by omega), Option.bind_some, s10]
                refine fin _ (by rw [k5]; decide) (by rw [k5]; decide) (fun m h1 h2 => ?_)
                rw [if_neg k0, if_neg k1, if_neg k2, if_neg k3, if_neg k4, if_pos k5, gR_of sA_99 (rf_99_45 (rr m h2)), Option.bind_some, aI_of sA_129 (by omega) (by omega), rd m 129 h1 (by omega)]; rfl
              · rw [if_neg k5]
                by_cases k6 : a2 = 6
                · rw [if_pos k6, g0_8 hQ, Option.bind_some, gR_of sA_45 (rs_11 hRc sc45), Option.bind_some, aI_of (ss_7 sc45) (by omega) (by omega), Option.bind_some, s11]
                  refine fin _ (by rw [k6]; decide) (by rw [k6]; decide) (fun m h1 h2 => ?_)
                  rw [if_neg k0, if_neg k1, if_neg k2, if_neg k3, if_neg k4, if_neg k5, gR_of sA_99 (rf_99_46 (rr m h2)), Option.bind_some, aI_of sA_130 (by omega) (by omega), rd m 130 h1 (by omega)]; rfl
                · rw [if_neg k6]
                  refine ⟨2, 0, d, (xu d.1 99 0 2, d.2.1, d.2.2), rfl, ?_, thr' 2 d, fun z => absurd z (by decide), rel 2 d hQ⟩
                  have w23 : k_X10_walker_23 shA 99 (nI p) a2 99 d = some (0, (xu d.1 99 0 2, d.2.1, d.2.2)) := by
                    unfold k_X10_walker_23 k_X10_walker_28
                    rw [pM_0, Option.bind_some, gI_of sA_99, Option.bind_some]
                    dsimp only
                    rw [if_neg (show ¬ xu d.1 99 0 2 99 0 = 0 by rw [xu_at]; decide)]
                  unfold f_X10_walker
                  rw [on_of sA_99, e2, Option.bind_some]
                  dsimp only
                  rw [if_neg one_ne_zero32]
                  by_cases n0 : a2 < 0
                  · rw [if_pos n0]; exact w23
                  · rw [if_neg n0]
                    by_cases n6 : a2 ≤ 6
                    · exfalso
                      obtain ⟨j, hj, rfl⟩ := nI_of2 (n := 6) (by decide) n0 n6
                      rcases (show j = 0 ∨ j = 1 ∨ j = 2 ∨ j = 3 ∨ j = 4 ∨ j = 5 ∨ j = 6 by omega) with e | e | e | e | e | e | e <;> subst e
                      · exact k0 rfl
                      · exact k1 rfl
                      · exact k2 rfl
                      · exact k3 rfl
                      · exact k4 rfl
                      · exact k5 rfl
                      · exact k6 rfl
                    · rw [if_neg n6]; exact w23
  · rw [e1, Option.bind_some]
    refine ⟨1, 0, d, (xu d.1 99 0 1, d.2.1, d.2.2), rfl, ?_, thr' 1 d, fun z => absurd z (by decide), rel 1 d hQ⟩
    unfold f_X10_walker k_X10_walker_28
    rw [on_of sA_99, e2, Option.bind_some]
    dsimp only
    rw [if_pos rfl, pM_0, Option.bind_some, gI_of sA_99, Option.bind_some]
    dsimp only
    rw [if_neg (show ¬ xu d.1 99 0 1 99 0 = 0 by rw [xu_at]; decide)]

/-! LEVEL 2: text. Lines: a bench is read -/
theorem one_ne : ((1 : Int32) = 0) = False := by simp
theorem k239_run {P : Nat} {L' : Nat → Nat → Int64} {R' : Nat → Nat → Option Nat} (hR' : ∀ I, RefOK (I, L', R') P) {K K2 K3 : Nat → Nat → Int32} {nb tp : Nat} {v1 v2 : Int32} (hb : nb < 8) (ht : 1 ≤ tp) (eT : K 101 8 = nI tp) (e1 : f_X10_numeral shA 99 (nI 1) (nI (tp - 1)) (K, L', R') = some (v1, (K2, L', R'))) (e2 : f_X10_numeral shA 99 (nI 1) (nI 3) (xu K2 103 (8 + nb) v1, L', R') = some (v2, (K3, L', R'))) : k_X10_line_239 shA 99 (nI (8 + nb)) (K, L', R') = k_X10_line_521 shA 99 (xu (xu K3 104 (8 + nb) v2) 101 9 (K3 101 9 + 1), L', R') := by
  have fr0 : f_X10_fresher shA 99 (0 : Int32) (K, L', R') = some (nI tp, (K, L', R')) := by rw [← eT]; exact m_fresher hR' (i := 0) (by omega)
  have fr1 : ∀ K : Nat → Nat → Int32, f_X10_fresher shA 99 (1 : Int32) (K, L', R') = some (K 101 9, (K, L', R')) := fun K => m_fresher hR' (i := 1) (by omega)
  have rd1 : ∀ (K : Nat → Nat → Int32) (v : Int32), f_X10_reads shA 99 (1 : Int32) v (K, L', R') = some (xu K 101 9 v, L', R') := fun K v => m_reads hR' (i := 1) (by omega) v
  have e1 : f_X10_numeral shA 99 (1 : Int32) (nI tp - (1 : Int32)) (K, L', R') = some (v1, (K2, L', R')) := by rw [show nI tp - (1 : Int32) = nI (tp - 1) from pk_sub (b := 1) ht]; exact e1
  have e2 : f_X10_numeral shA 99 (1 : Int32) (3 : Int32) (xu K2 103 (8 + nb) v1, L', R') = some (v2, (K3, L', R')) := e2
  unfold k_X10_line_239
  simp only [gR_of sA_99 (rf_99_5 (hR' _)), Option.bind_some, on_of sA_99, fr0, e1, sI_of sA_103 (show 8 + nb < 16 by omega) (show 16 < 2 ^ 31 by omega), gR_of sA_99 (rf_99_6 (hR' _)), e2, sI_of sA_104 (show 8 + nb < 16 by omega) (show 16 < 2 ^ 31 by omega), fr1, rd1, xu_cell (show 101 ≠ 104 by omega)]
def bR (nb : Nat) (d30 : xD) : Option xD := (xgI 10 shA d30 99 26).bind fun v31 => if v31 = 0 then ((xgI 10 shA d30 99 24).bind fun v32 => if v32 = (2 : Int32) then ((xgR 10 shA d30 99 5).bind fun v33 => (xon 10 shA 99 (f_X10_fresher shA 99 (1 : Int32) d30)).bind fun z34 => (xgI 10 shA z34.2 99 25).bind fun v35 => (f_X10_found shA v33 (8 : Int32) z34.1 v35 z34.2).bind fun z36 => if z36.1 = (-1 : Int32) then (k_X10_line_239 shA 99 (nI (8 + nb)) z36.2) else ((xon 10 shA 99 (f_X10_wrong shA 99 (3 : Int32) z36.2)).bind fun d37 => k_X10_line_239 shA 99 (nI (8 + nb)) d37)) else (k_X10_line_239 shA 99 (nI (8 + nb)) d30)) else (k_X10_line_239 shA 99 (nI (8 + nb)) d30)
theorem rl_bench {P P' : Nat} {L L' : Nat → Nat → Int64} {R R' : Nat → Nat → Option Nat} (hR : ∀ I, RefOK (I, L, R) P) (hR' : ∀ I, RefOK (I, L', R') P') {n : Nat} {B : Nat → Nat} {D li nw nb nr tp p a t : Nat} {I J : Nat → Nat → Int32} (hD : isPl D) (hRD : R 42 2 = some D) (h : LN D n B li nw nb nr tp p a t I J) (ht : t = 1) : RES L R L' R' n B D li p I J (f_X6_readBench shA 42 (I, L, R)) (if nb = 8 then some (rfM 2 J, L', R') else k_X10_line_85 shA 99 (nI 1) (J, L', R')) := by
  have hpr := isPl_le hD
  have hP := ln_pr h
  have t60 := pr_t60 hP; have t2' := pr_t2 hP; have b8 := pr_b8 hP
  have hg42 : ∀ X : Nat → Nat → Int32, xgR 6 shA (X, L, R) 42 2 = some D := fun X => gR_of sA_42 hRD
  have hg40 : ∀ X : Nat → Nat → Int32, xgR 6 shA (X, L, R) 42 0 = some 40 := fun X => gR_of sA_42 (rf_42_0 (hR X))
  by_cases c8 : nb = 8
  · left
    rw [if_pos c8]
    refine ⟨rfC 2 I, rfM 2 J, ?_, rfl, ft_of (by decide) (tk_cp (ln_tk h)) (tk_mp (ln_tk h)), frc_rf frc_refl, frm_rf frm_refl⟩
    have e : ¬ I D 4 < 8 := by rw [pr_cB hP, c8]; decide
    unfold f_X6_readBench
    simp only [hg42, hg40, Option.bind_some, gI_of (sp_0 hD), if_neg e, on_of sA_40, c_refuse, xz_0]
  rw [if_neg c8]
  have hb : nb < 8 := by omega
  have e8 : I D 4 < 8 := by rw [pr_cB hP]; exact nI_lt (b := 8) hb (by omega)
  obtain ⟨I1, J1, p1, a1, t1, q1, q2, q3, q4, q5, q6⟩ := adv0 hR hR' (ln_tk h) (show t ≠ 36 by omega) (I1 := I) (J1 := xu J 99 19 (J 99 19 ||| ((1 : Int32) <<< (nI 1 &&& 31)))) (fun _ _ => rfl) rfl rfl (fun j j1 j2 => xu_at2 (by omega)) (xu_off (by omega))
  have f0 : J1 99 26 = 0 := (q4.2 26 (by omega)).trans ((xu_at2 (by omega)).trans (ln_f0 h))
  have fm1 : FRM J J1 := frm_trans (frm_99 (by omega)) (frm_nm q4)
  have jR : ∀ q, q ≠ 99 → J1 q = J q := fun q hq => by rw [q4.1 q hq, xu_off hq]
  have hfr1 : ∀ K : Nat → Nat → Int32, f_X10_fresher shA 99 (1 : Int32) (K, L', R') = some (K 101 9, (K, L', R')) := fun K => m_fresher hR' (i := 1) (by omega)
  have mB : J1 101 9 = nI nb := by rw [jR 101 (by omega)]; exact pr_mB hP
  have a8 : (8 : Int32) + nI nb = nI (8 + nb) := nI_add 8 nb
  have hY : k_X10_line_85 shA 99 (nI 1) (J, L', R') = (f_X10_fresh shA 99 102 (8 : Int32) (nI nb) (J1, L', R')).bind fun z29 => (xsI .int shA z29.2 102 (nI (8 + nb)) z29.1).bind fun d30 => bR nb d30 := by
    unfold k_X10_line_85
    rw [gI_of sA_99, Option.bind_some]
    dsimp only
    rw [if_pos (ln_f0 h), gI_of sA_99, Option.bind_some, pM_19, Option.bind_some, on_of sA_99]
    dsimp only
    rw [q2, Option.bind_some, if_neg (show ¬ nI 1 = (0 : Int32) by decide), if_pos (show nI 1 = (1 : Int32) from rfl)]
    unfold bR
    simp only [on_of sA_99, hfr1, Option.bind_some, gR_of sA_99 (rf_99_4 (hR' _)), mB, a8]
  -- the name
  have hfd : f_X10_found shA 102 (8 : Int32) (nI nb) (J1 99 25) (J1, L', R') = some (findI (fun k => J1 102 (8 + k)) (J1 99 25) 0 nb, (J1, L', R')) := X10_found (o := 8) sA_102 (by omega) (by omega) (by unfold xF; omega)
  have hnm : f_X3_benchNamed shA D (I1 40 2) (I1, L, R) = some (findI (I1 (D + 1)) (I1 40 2) 0 nb, (I1, L, R)) := by
    unfold f_X3_benchNamed
    rw [gR_of (sp_0 hD) (rp_5 (hR _) hD), Option.bind_some, gI_of (sp_0 hD), Option.bind_some]
    dsimp only
    rw [show I1 D 4 = nI nb by rw [q3.1 D (by omega)]; exact pr_cB hP, X3_indexOf (sp_1 hD) (by omega) (by omega) (by unfold xF; omega), Option.bind_some]
  have efd : t1 = 21 → findI (fun k => J1 102 (8 + k)) (J1 99 25) 0 nb = findI (I1 (D + 1)) (I1 40 2) 0 nb := fun e => by
    have tt := tk_tt q5
    rw [e] at tt
    rw [t_nameV tt]
    refine findI_congr nb 0 (fun j _ hj => ?_)
    rw [jR 102 (by omega), q3.1 (D + 1) (by omega)]
    exact (pr_bn hP j (by omega)).symm
  rcases e_fresh hR hR' q5 f0 hfd efd with ⟨v, v0, b1, b2⟩ | ⟨x1, x2, x3, x4⟩
  · left
    have hJ : xu (rfM v J1) 102 (8 + nb) 0 99 26 ≠ 0 := by rw [xu_cell (by omega), rfM_26]; exact v0
    obtain ⟨J', k1, k2, k3⟩ := k239F hR' hb hJ
    refine ⟨rfC v I1, J', ?_, ?_, ?_, frc_rf (frc_nc q3), frm_trans (frm_trans (frm_rf fm1) (frm_xu (by omega) (by omega) (Nat.le_trans (by decide : hfR 102 ≤ 8) (by omega)))) k2⟩
    · unfold f_X6_readBench
      simp only [hg42, hg40, Option.bind_some, gI_of (sp_0 hD), if_pos e8, on_of sA_40, q1, gI_of sA_40, on_of (sp_0 hD), hnm, on_of sA_42, b1, ↓reduceIte]
    · rw [hY, b2, Option.bind_some, sI_of sA_102 (by omega) (by omega), Option.bind_some]
      unfold bR
      rw [gI_of sA_99, Option.bind_some]
      dsimp only
      rw [if_neg hJ, k1]
    · unfold FT
      rw [k3, xu_cell (by omega), xu_cell (by omega)]
      exact ft_of v0 (tk_cp q5) (tk_mp q5)
  -- the step
  obtain ⟨I2, J2, p2, a2, t2, r1, r2, r3, r4, r5, r6⟩ := adv0 hR hR' q5 (show t1 ≠ 36 by omega) (I1 := I1) (J1 := J1) (fun _ _ => rfl) rfl rfl (fun _ _ _ => rfl) rfl
  generalize hN : J1 99 25 = nmv at x4
  have enm : I1 40 2 = nmv := by
    have tt := tk_tt q5
    rw [x1] at tt
    rw [← hN, t_nameV tt]
  rw [r2, Option.bind_some] at x4
  generalize hK : xu J2 102 (8 + nb) nmv = K
  have k99 : K 99 = J2 99 := by rw [← hK, xu_off (by omega)]
  have kR : ∀ q, q ≠ 99 → q ≠ 102 → K q = J q := fun q c1 c2 => by rw [← hK, xu_off c2, r4.1 q c1, jR q c1]
  have hYk : k_X10_line_85 shA 99 (nI 1) (J, L', R') = bR nb (K, L', R') := by
    rw [hY, x4, Option.bind_some, sI_of sA_102 (by omega) (by omega), Option.bind_some, hK]
  have fK : K 99 26 = 0 := by rw [k99, r4.2 26 (by omega)]; exact f0
  have tkK : TK n B p2 a2 t2 I2 K := tk_congr r5 (fun _ _ => rfl) rfl rfl (fun j _ _ => by rw [k99]) (by rw [← hK, xu_off (by omega)])
  have fmK : FRM J K := by rw [← hK]; exact frm_trans (frm_trans fm1 (frm_nm r4)) (frm_xu (by omega) (by omega) (Nat.le_trans (by decide : hfR 102 ≤ 8) (by omega)))
  have nc2 : NC I I2 := nc_trans q3 r3
  have i2D : I2 D = I D := nc2.1 D (by omega)
  have cT2 : I2 D 0 = nI tp := by rw [i2D]; exact pr_cT hP
  have tp1 : nI tp - (1 : Int32) = nI (tp - 1) := pk_sub (b := 1) (by omega)
  have ttK := tk_tt tkK
  have hfound : ∀ v : Int32, f_X10_found shA 103 (8 : Int32) (nI nb) v (K, L', R') = some (findI (fun k => J 103 (8 + k)) v 0 nb, (K, L', R')) := fun v => by
    have z := X10_found (d := (K, L', R')) (v := v) (o := 8) (n := nb) sA_103 (by omega) (by omega) (by unfold xF; omega)
    dsimp only at z
    rw [kR 103 (by omega) (by omega)] at z
    exact z
  have kB : K 101 9 = nI nb := by rw [kR 101 (by omega) (by omega)]; exact pr_mB hP
  have hbR : bR nb (K, L', R') = if t2 = 22 ∧ ¬ findI (fun k => J 103 (8 + k)) (K 99 25) 0 nb = -1 then k_X10_line_239 shA 99 (nI (8 + nb)) (rfM 3 K, L', R') else k_X10_line_239 shA 99 (nI (8 + nb)) (K, L', R') := by
    unfold bR
    simp only [gI_of sA_99, Option.bind_some, t_num ttK, gR_of sA_99 (rf_99_5 (hR' _)), on_of sA_99, hfr1, kB, hfound, m_wrong _ fK]
    rw [if_pos fK]
    by_cases c : t2 = 22
    · rw [if_pos c]
      by_cases c2 : findI (fun k => J 103 (8 + k)) (K 99 25) 0 nb = -1
      · rw [if_pos c2, if_neg (fun z => z.2 c2)]
      · rw [if_neg c2, if_pos ⟨c, c2⟩]
    · rw [if_neg c, if_neg (fun z => c z.1)]
  have hon : ∀ x, x ≤ 60 → f_X3_benchOn shA D (nI x) (I2, L, R) = some (findI (fun k => J 103 (8 + k)) (nI x) 0 nb, (I2, L, R)) := fun x hx => by
    unfold f_X3_benchOn k_X3_benchOn_20
    rw [if_neg (nI_pos (by omega)), if_pos (show nI x ≤ (60 : Int32) from nI_le (b := 60) hx (by omega)), gR_of (sp_0 hD) (rp_8 (hR _) hD), Option.bind_some, aI_of (sp_4 hD) (by omega) (by omega), Option.bind_some]
    dsimp only
    rw [nc2.1 (D + 4) (by omega), pr_ba hP x hx]
  by_cases cf : t2 = 22 ∧ ¬ findI (fun k => J 103 (8 + k)) (K 99 25) 0 nb = -1
  · left
    obtain ⟨c22, cf2⟩ := cf
    obtain ⟨x, y, hv, v1, v2⟩ : ∃ x y, NV x y ∧ I2 40 2 = nI x ∧ K 99 25 = nI y := by
      unfold TT at ttK
      rcases ttK with q | q | ⟨_, _, q⟩ | q | q | q
      · omega
      · omega
      · exact q
      · omega
      · omega
      · omega
    obtain ⟨a', ha1, ha2, ha3⟩ : ∃ a', 1 ≤ a' ∧ a' < tp ∧ K 99 25 = nI a' := by
      rcases findI_spec (fun k => J 103 (8 + k)) (K 99 25) nb 0 with ⟨q, _⟩ | ⟨j, _, q2, _, q4⟩
      · exact absurd q cf2
      · obtain ⟨a', y1, y2, y3⟩ := pr_br hP j (by omega)
        exact ⟨a', y1, y2, q4.symm.trans y3⟩
    have hya : y = a' := by
      have hy : y ≤ 1000000 := by unfold NV at hv; omega
      exact (nI_eq (by omega) (by omega)).mp (v2.symm.trans ha3)
    have hxy : x = y := by unfold NV at hv; omega
    have hn2 : f_X6_isNumber shA 42 (1 : Int32) (nI (tp - 1)) (I2, L, R) = some (1, (I2, L, R)) := isNum_ok hR tkK c22 (lo := 1) (hi := tp - 1) (x := x) (by omega) (by omega) (by omega) v1
    have hon2 := hon x (by omega)
    rw [hxy, ← v2] at hon2
    have hJ : rfM 3 K 99 26 ≠ 0 := by rw [rfM_26]; decide
    obtain ⟨J', k1, k2, k3⟩ := k239F hR' hb hJ
    refine ⟨rfC 3 I2, J', ?_, ?_, ?_, frc_rf (frc_nc nc2), frm_trans (frm_rf fmK) k2⟩
    · have e2 : I2 40 2 = K 99 25 := by rw [v1, v2, hxy]
      unfold f_X6_readBench
      simp only [hg42, hg40, Option.bind_some, gI_of (sp_0 hD), if_pos e8, on_of sA_40, q1, gI_of sA_40, on_of (sp_0 hD), hnm, on_of sA_42, x3, one_ne, if_false, r1, cT2, tp1, hn2, e2, hon2, if_neg cf2, c_refuse, xz_0]
    · rw [hYk, hbR, if_pos ⟨c22, cf2⟩, k1]
    · unfold FT
      rw [k3]
      exact ft_of (by decide) (tk_cp tkK) (tk_mp tkK)
  rw [if_neg cf] at hbR
  rcases e_num hR hR' tkK fK (lo := 1) (hi := tp - 1) (by omega) (by omega) with ⟨v, v0, b1, b2⟩ | ⟨x, y1, y2, y3, y4, y5, y6, y7⟩
  · left
    have b1 : f_X6_isNumber shA 42 (1 : Int32) (nI (tp - 1)) (I2, L, R) = some (0, (rfC v I2, L, R)) := b1
    have hJ : xu (rfM v K) 103 (8 + nb) (nI 1) 99 26 ≠ 0 := by rw [xu_cell (by omega), rfM_26]; exact v0
    have kk := k239_run hR' hb (show 1 ≤ tp by omega) (by rw [kR 101 (by omega) (by omega)]; exact pr_mT hP) b2 (numF hJ _ _)
    have hJ2 : ∀ w, xu (xu (xu (rfM v K) 103 (8 + nb) (nI 1)) 104 (8 + nb) (nI 1)) 101 9 w 99 26 ≠ 0 := fun w => by rw [xu_cell (by omega), xu_cell (by omega)]; exact hJ
    rw [h521F (hJ2 _)] at kk
    refine ⟨rfC v I2, _, ?_, by rw [hYk, hbR, kk], ft_xu (by omega) (ft_xu (by omega) (ft_xu (by omega) (ft_of v0 (tk_cp tkK) (tk_mp tkK)))), frc_rf (frc_nc nc2), frm_trans (frm_trans (frm_trans (frm_rf fmK) (frm_xu (by omega) (by omega) (Nat.le_trans (by decide : hfR 103 ≤ 8) (by omega)))) (frm_xu (by omega) (by omega) (Nat.le_trans (by decide : hfR 104 ≤ 8) (by omega)))) (frm_101 (by omega))⟩
    unfold f_X6_readBench
    simp only [hg42, hg40, Option.bind_some, gI_of (sp_0 hD), if_pos e8, on_of sA_40, q1, gI_of sA_40, on_of (sp_0 hD), hnm, on_of sA_42, x3, one_ne, if_false, r1, cT2, tp1, b1, ↓reduceIte]
  have y6 : f_X6_isNumber shA 42 (1 : Int32) (nI (tp - 1)) (I2, L, R) = some (1, (I2, L, R)) := y6
  have hnf : findI (fun k => J 103 (8 + k)) (nI x) 0 nb = -1 := by
    rw [← y5]
    exact Classical.byContradiction (fun z => cf ⟨y3, z⟩)
  have hon2 := hon x (by omega)
  rw [hnf] at hon2
  -- the seats
  obtain ⟨I3, J3, p3, a3, t3, s1, s2, s3, s4, s5, s6⟩ := adv0 hR hR' tkK (show t2 ≠ 36 by omega) (I1 := I2) (J1 := K) (fun _ _ => rfl) rfl rfl (fun _ _ _ => rfl) rfl
  rw [s2, Option.bind_some] at y7
  generalize hM : xu J3 103 (8 + nb) (nI x) = M
  have m99 : M 99 = J3 99 := by rw [← hM, xu_off (by omega)]
  have mR : ∀ q, q ≠ 99 → q ≠ 102 → q ≠ 103 → M q = J q := fun q c1 c2 c3 => by rw [← hM, xu_off c3, s4.1 q c1, kR q c1 c2]
  have fM : M 99 26 = 0 := by rw [m99, s4.2 26 (by omega)]; exact fK
  have tkM : TK n B p3 a3 t3 I3 M := tk_congr s5 (fun _ _ => rfl) rfl rfl (fun j _ _ => by rw [m99]) (by rw [← hM, xu_off (by omega)])
  have fmM : FRM J M := by rw [← hM]; exact frm_trans (frm_trans fmK (frm_nm s4)) (frm_xu (by omega) (by omega) (Nat.le_trans (by decide : hfR 103 ≤ 8) (by omega)))
  have nc3 : NC I I3 := nc_trans nc2 s3
  rcases e_num hR hR' tkM fM (lo := 1) (hi := 3) (by omega) (by omega) with ⟨v, v0, b1, b2⟩ | ⟨s, z1, z2, z3, z4, z5, z6, z7⟩
  · left
    have b1 : f_X6_isNumber shA 42 (1 : Int32) (3 : Int32) (I3, L, R) = some (0, (rfC v I3, L, R)) := b1
    rw [← hM] at b2
    have kk := k239_run hR' hb (show 1 ≤ tp by omega) (by rw [kR 101 (by omega) (by omega)]; exact pr_mT hP) y7 b2
    rw [hM] at kk
    have hJ2 : ∀ w, xu (xu (rfM v M) 104 (8 + nb) (nI 1)) 101 9 w 99 26 ≠ 0 := fun w => by rw [xu_cell (by omega), xu_cell (by omega), rfM_26]; exact v0
    rw [h521F (hJ2 _)] at kk
    refine ⟨rfC v I3, _, ?_, by rw [hYk, hbR, kk], ft_xu (by omega) (ft_xu (by omega) (ft_of v0 (tk_cp tkM) (tk_mp tkM))), frc_rf (frc_nc nc3), frm_trans (frm_trans (frm_rf fmM) (frm_xu (by omega) (by omega) (Nat.le_trans (by decide : hfR 104 ≤ 8) (by omega)))) (frm_101 (by omega))⟩
    unfold f_X6_readBench
    simp only [hg42, hg40, Option.bind_some, gI_of (sp_0 hD), if_pos e8, on_of sA_40, q1, gI_of sA_40, on_of (sp_0 hD), hnm, on_of sA_42, x3, one_ne, if_false, r1, cT2, tp1, y6, y4, hon2, s1, b1, ↓reduceIte]
  · right
    have z6 : f_X6_isNumber shA 42 (1 : Int32) (3 : Int32) (I3, L, R) = some (1, (I3, L, R)) := z6
    have cB3 : I3 D 4 = nI nb := by rw [nc3.1 D (by omega)]; exact pr_cB hP
    have had := c_addBench hR hD cB3 hb (s := x) (by omega) nmv (nI s)
    generalize hA : xu (xu (xu (xu (xu I3 (D + 1) nb nmv) (D + 2) nb (nI x)) (D + 3) nb (nI s)) (D + 4) x (nI nb)) D 4 (nI (nb + 1)) = A at had
    have aR : ∀ q, q < D ∨ D + 5 ≤ q → A q = I3 q := fun q hq => by rw [← hA, xu_off (by omega), xu_off (by omega), xu_off (by omega), xu_off (by omega), xu_off (by omega)]
    obtain ⟨I4, J4, p4, a4, t4, u1, u2, u3, u4, u5, u6⟩ := adv0 hR hR' tkM (show t3 ≠ 36 by omega) (I1 := A) (J1 := M) (fun j _ => by rw [aR 40 (by omega)]) (aR 1 (by omega)) (aR 41 (by omega)) (fun _ _ _ => rfl) rfl
    rw [u2, Option.bind_some, ← hM] at z7
    have kk := k239_run hR' hb (show 1 ≤ tp by omega) (by rw [kR 101 (by omega) (by omega)]; exact pr_mT hP) y7 z7
    have j49 : J4 101 9 + 1 = nI (nb + 1) := by rw [u4.1 101 (by omega), mR 101 (by omega) (by omega) (by omega), show J 101 9 = nI nb from pr_mB hP, nI_1]
    rw [j49] at kk
    generalize hZ : xu (xu J4 104 (8 + nb) (nI s)) 101 9 (nI (nb + 1)) = Z at kk
    have z99 : ∀ j, Z 99 j = J4 99 j := fun j => by rw [← hZ, xu_cell (by omega), xu_cell (by omega)]
    have cI : ∀ q, q ≠ 40 → (q < D ∨ D + 5 ≤ q) → I4 q = I q := fun q c1 c2 => by rw [u3.1 q c1, aR q c2, nc3.1 q c1]
    have zR : ∀ q, q ≠ 99 → q ≠ 101 → q ≠ 102 → q ≠ 103 → q ≠ 104 → Z q = J q := fun q c1 c2 c3 c4 c5 => by rw [← hZ, xu_off c2, xu_off c5, u4.1 q c1, mR q c1 c3 c4]
    have c99 : ∀ j, (j < 22 ∨ 25 < j) → j ≠ 19 → Z 99 j = J 99 j := fun j c1 c2 => by rw [z99, u4.2 j c1, m99, s4.2 j c1, k99, r4.2 j c1, q4.2 j c1, xu_at2 c2]
    have c19 : Z 99 19 = J 99 19 ||| ((1 : Int32) <<< (nI 1 &&& 31)) := by rw [z99, u4.2 19 (by omega), m99, s4.2 19 (by omega), k99, r4.2 19 (by omega), q4.2 19 (by omega), xu_at]
    have i40 : ∀ j, j = 3 ∨ j = 4 → I4 40 j = I 40 j := fun j c => by rw [u3.2 j (by omega) (by omega) (by omega) (by omega), aR 40 (by omega), nc3.2 j (by omega) (by omega) (by omega) (by omega)]
    have hP2 : PR D 1 nw (nb + 1) nr tp I4 Z := by
      refine pr_bench (s := x) (c := s) (nm := nmv) hP hb y1 (by omega) hnf z1 z2 ?_ (by rw [← hZ, xu_at]) ?_ ?_ ?_ ?_ ?_ ?_ ?_ ?_ ?_ ?_ ?_ ?_ ?_ ?_ ?_ (fun j j1 j2 => cI _ (by omega) (by omega)) ?_ (fun q c1 c2 => zR q (by omega) (by omega) (by omega) (by omega) (by omega))
      · rw [u3.1 D (by omega), ← hA, xu_at]
      · rw [u3.1 (D + 1) (by omega), ← hA, xu_cell (by omega), xu_cell (by omega), xu_cell (by omega), xu_cell (by omega), xu_at]
      · intro i hi; rw [u3.1 (D + 1) (by omega), ← hA, xu_cell (by omega), xu_cell (by omega), xu_cell (by omega), xu_cell (by omega), xu_at2 hi, nc3.1 (D + 1) (by omega)]
      · rw [← hZ, xu_cell (by omega), xu_cell (by omega), u4.1 102 (by omega), ← hM, xu_cell (by omega), s4.1 102 (by omega), ← hK, xu_at]
      · intro i hi; rw [← hZ, xu_cell (by omega), xu_cell (by omega), u4.1 102 (by omega), ← hM, xu_cell (by omega), s4.1 102 (by omega), ← hK, xu_at2 hi, r4.1 102 (by omega), jR 102 (by omega)]
      · rw [u3.1 (D + 2) (by omega), ← hA, xu_cell (by omega), xu_cell (by omega), xu_cell (by omega), xu_at]
      · intro i hi; rw [u3.1 (D + 2) (by omega), ← hA, xu_cell (by omega), xu_cell (by omega), xu_cell (by omega), xu_at2 hi, xu_cell (by omega), nc3.1 (D + 2) (by omega)]
      · rw [← hZ, xu_cell (by omega), xu_cell (by omega), u4.1 103 (by omega), ← hM, xu_at]
      · intro i hi; rw [← hZ, xu_cell (by omega), xu_cell (by omega), u4.1 103 (by omega), ← hM, xu_at2 hi, s4.1 103 (by omega), kR 103 (by omega) (by omega)]
      · rw [u3.1 (D + 3) (by omega), ← hA, xu_cell (by omega), xu_cell (by omega), xu_at]
      · intro i hi; rw [u3.1 (D + 3) (by omega), ← hA, xu_cell (by omega), xu_cell (by omega), xu_at2 hi, xu_cell (by omega), xu_cell (by omega), nc3.1 (D + 3) (by omega)]
      · rw [← hZ, xu_cell (by omega), xu_at]
      · intro i hi; rw [← hZ, xu_cell (by omega), xu_at2 hi, u4.1 104 (by omega), mR 104 (by omega) (by omega) (by omega)]
      · rw [u3.1 (D + 4) (by omega), ← hA, xu_cell (by omega), xu_at]
      · intro i hi; rw [u3.1 (D + 4) (by omega), ← hA, xu_cell (by omega), xu_at2 hi, xu_cell (by omega), xu_cell (by omega), xu_cell (by omega), nc3.1 (D + 4) (by omega)]
      · intro k hk; rw [u3.1 D (by omega), ← hA, xu_at2 hk, xu_cell (by omega), xu_cell (by omega), xu_cell (by omega), xu_cell (by omega), nc3.1 D (by omega)]
      · intro k hk; rw [← hZ, xu_at2 hk, xu_cell (by omega), u4.1 101 (by omega), mR 101 (by omega) (by omega) (by omega)]
    have fcA : FRC D I A := by
      rw [← hA]
      exact frc_trans (frc_nc nc3) (frc_trans (frc_trans (frc_trans (frc_trans (frc_xu (by omega)) (frc_xu (by omega))) (frc_xu (by omega))) (frc_xu (by omega))) (frc_xu (by omega)))
    refine ⟨nw, nb + 1, nr, tp, p4, a4, t4, I4, Z, ?_, by rw [hYk, hbR, kk], ⟨tk_congr u5 (fun _ _ => rfl) rfl rfl (fun j _ _ => z99 j) (by rw [← hZ, xu_off (by omega), xu_off (by omega)]), hP2, ?_, ?_, ?_, ?_, ?_, ?_, ?_, ?_, ?_, ?_⟩, by omega, frc_trans fcA (frc_nc u3), ?_⟩
    · rw [enm] at hnm x3
      unfold f_X6_readBench
      simp only [hg42, hg40, Option.bind_some, gI_of (sp_0 hD), if_pos e8, on_of sA_40, q1, gI_of sA_40, on_of (sp_0 hD), enm, hnm, on_of sA_42, x3, one_ne, if_false, r1, cT2, tp1, y6, y4, hon2, s1, z6, z4, had, u1, ↓reduceIte]
    · rw [c99 26 (by omega) (by omega)]; exact ln_f0 h
    · rw [c99 27 (by omega) (by omega)]; exact ln_f1 h
    · rw [i40 3 (by omega)]; exact ln_g0 h
    · rw [i40 4 (by omega)]; exact ln_g1 h
    · rw [c99 20 (by omega) (by omega)]; exact ln_li h
    · rw [c99 30 (by omega) (by omega)]; exact ln_op h
    · rw [c99 31 (by omega) (by omega), cI (D + 13) (by omega) (by omega)]; exact ln_mk h
    · rw [cI 42 (by omega) (by omega), c19]; exact told_or (by omega) (ln_tn h)
    · intro k hk
      rw [cI 42 (by omega) (by omega), c19, cI (D + 13) (by omega) (by omega), told_or2 (by omega) hk]; exact ln_tl h k hk
    · intro k hk hb'
      rw [cI (D + 13) (by omega) (by omega)] at hb' ⊢
      rw [zR 114 (by omega) (by omega) (by omega) (by omega) (by omega)]; exact ln_tb h k hk hb'
    · rw [← hZ]; exact frm_trans (frm_trans fmM (frm_nm u4)) (frm_trans (frm_xu (by omega) (by omega) (Nat.le_trans (by decide : hfR 104 ≤ 8) (by omega))) (frm_101 (by omega)))

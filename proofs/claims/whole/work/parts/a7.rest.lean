/-! LEVEL 2: text. Lines: rests -/
theorem pr_rest {D nw nb nr tp c : Nat} {wI bI : Int32} {I J I' J' : Nat → Nat → Int32} (h : PR D 1 nw nb nr tp I J) (hb : nr < 12) (c1 : 1 ≤ c) (c2 : c ≤ 30) (eD : I' D 15 = nI (nr + 1)) (eN : J' 101 11 = nI (nr + 1)) (i10 : I' (D + 10) nr = wI) (i10o : ∀ i, i ≠ nr → I' (D + 10) i = I (D + 10) i) (j10 : J' 110 (12 + nr) = wI) (j10o : ∀ i, i ≠ 12 + nr → J' 110 i = J 110 i) (i11 : I' (D + 11) nr = bI) (i11o : ∀ i, i ≠ nr → I' (D + 11) i = I (D + 11) i) (j11 : J' 111 (12 + nr) = bI) (j11o : ∀ i, i ≠ 12 + nr → J' 111 i = J 111 i) (i12 : I' (D + 12) nr = nI c) (i12o : ∀ i, i ≠ nr → I' (D + 12) i = I (D + 12) i) (j12 : J' 112 (12 + nr) = nI c) (j12o : ∀ i, i ≠ 12 + nr → J' 112 i = J 112 i) (cD : ∀ k, k ≠ 15 → I' D k = I D k) (cR : ∀ j, 1 ≤ j → j < 18 → (j < 10 ∨ 12 < j) → I' (D + j) = I (D + j)) (mN : ∀ k, k ≠ 11 → J' 101 k = J 101 k) (mR : ∀ q, 102 ≤ q → q ≤ 116 → (q < 110 ∨ 112 < q) → J' q = J q) : PR D 1 nw nb (nr + 1) tp I' J' := by
  refine ⟨pr_pl h, pr_w6 h, pr_b8 h, ?_, pr_t2 h, pr_t60 h, (by apply cD <;> omega : I' D 0 = I D 0).trans (pr_cT h), (by apply cD <;> omega : I' D 4 = I D 4).trans (pr_cB h), (by apply cD <;> omega : I' D 9 = I D 9).trans (pr_cW h), ?_, (by apply mN <;> omega : J' 101 8 = J 101 8).trans (pr_mT h), (by apply mN <;> omega : J' 101 9 = J 101 9).trans (pr_mB h), (by apply mN <;> omega : J' 101 10 = J 101 10).trans (pr_mW h), ?_, (by obtain ⟨x, x1, x2, x3⟩ := pr_pi h; exact ⟨x, x1, (by apply mN <;> omega : J' 101 12 = J 101 12).trans x2, (by apply cD <;> omega : I' D 1 = I D 1).trans x3⟩), (by obtain ⟨x, x1, x2, x3⟩ := pr_ca h; exact ⟨x, x1, (by apply mN <;> omega : J' 101 13 = J 101 13).trans x2, (by apply cD <;> omega : I' D 2 = I D 2).trans x3⟩), (by obtain ⟨x, x1, x2, x3⟩ := pr_se h; exact ⟨x, x1, (by apply mN <;> omega : J' 101 14 = J 101 14).trans x2, (by apply cD <;> omega : I' D 3 = I D 3).trans x3⟩), (by obtain ⟨x, x1, x2, x3, x4⟩ := pr_kn h; have e13 := (by apply cR <;> omega : I' (D + 13) = I (D + 13)); exact ⟨x, x1, (by apply mN <;> omega : J' 101 15 = J 101 15).trans x2, by rw [e13]; exact x3, by rw [e13]; exact x4⟩), (by rw [(by apply cR <;> omega : I' (D + 1) = I (D + 1)), (by apply mR <;> omega : J' 102 = J 102)]; exact pr_bn h), (by rw [(by apply cR <;> omega : I' (D + 2) = I (D + 2)), (by apply mR <;> omega : J' 103 = J 103)]; exact pr_bs h), (by rw [(by apply mR <;> omega : J' 103 = J 103)]; exact pr_br h), (by rw [(by apply mR <;> omega : J' 103 = J 103)]; exact pr_bd h), (by rw [(by apply cR <;> omega : I' (D + 3) = I (D + 3)), (by apply mR <;> omega : J' 104 = J 104)]; exact pr_bc h), (by rw [(by apply cR <;> omega : I' (D + 4) = I (D + 4)), (by apply mR <;> omega : J' 103 = J 103)]; exact pr_ba h), (by rw [(by apply cR <;> omega : I' (D + 5) = I (D + 5)), (by apply mR <;> omega : J' 105 = J 105)]; exact pr_wn h), (by rw [(by apply cR <;> omega : I' (D + 6) = I (D + 6)), (by apply mR <;> omega : J' 106 = J 106)]; exact pr_ws h), (by rw [(by apply cR <;> omega : I' (D + 7) = I (D + 7)), (by apply mR <;> omega : J' 107 = J 107)]; exact pr_wd h), (by rw [(by apply cR <;> omega : I' (D + 8) = I (D + 8)), (by apply mR <;> omega : J' 108 = J 108)]; exact pr_wp h), (by rw [(by apply cR <;> omega : I' (D + 9) = I (D + 9)), (by apply mR <;> omega : J' 109 = J 109)]; exact pr_wm h), ?_, ?_, (fun k hk => by rw [lw_congr2 (by rw [(by apply cR <;> omega : I' (D + 13) = I (D + 13))]) (by apply cR <;> omega : I' (D + 14) = I (D + 14)) (by apply cR <;> omega : I' (D + 15) = I (D + 15)) (by apply cR <;> omega : I' (D + 16) = I (D + 16)) (by apply cR <;> omega : I' (D + 17) = I (D + 17)) (by apply mR <;> omega : J' 113 = J 113) (by apply mR <;> omega : J' 114 = J 114) (by apply mR <;> omega : J' 115 = J 115) (by apply mR <;> omega : J' 116 = J 116)]; exact pr_lw h k hk)⟩
  · omega
  · exact eD
  · exact eN
  · intro i hi
    by_cases q : i = nr
    · subst q; exact ⟨i10.trans j10.symm, i11.trans j11.symm, i12.trans j12.symm⟩
    · rw [i10o i q, j10o (12 * 1 + i) (by omega), i11o i q, j11o (12 * 1 + i) (by omega), i12o i q, j12o (12 * 1 + i) (by omega)]; exact pr_rr h i (by omega)
  · intro i hi
    by_cases q : i = nr
    · subst q; exact ⟨c, c1, c2, j12⟩
    · rw [j12o (12 * 1 + i) (by omega)]; exact pr_rm h i (by omega)
theorem c_addRestP {P : Nat} {L : Nat → Nat → Int64} {R : Nat → Nat → Option Nat} (hR : ∀ I, RefOK (I, L, R) P) {D nr : Nat} (hD : isPl D) {I : Nat → Nat → Int32} (e : I D 15 = nI nr) (hb : nr < 12) (v1 v2 v3 : Int32) : f_X3_addRest shA D v1 v2 v3 (I, L, R) = some (xu (xu (xu (xu I (D + 10) nr v1) (D + 11) nr v2) (D + 12) nr v3) D 15 (nI (nr + 1)), L, R) := by
  unfold f_X3_addRest
  rw [gI_of (sp_0 hD), Option.bind_some]
  simp only [e]
  rw [if_pos (show nI nr < (12 : Int32) from nI_lt (b := 12) hb (by omega))]
  simp (disch := omega) only [gR_of (sp_0 hD) (rp_16 (hR _) hD), gR_of (sp_0 hD) (rp_17 (hR _) hD), gR_of (sp_0 hD) (rp_18 (hR _) hD), gI_of (sp_0 hD), Option.bind_some, e, sI_of (sp_10 hD) (show nr < 12 by omega), sI_of (sp_11 hD) (show nr < 12 by omega), sI_of (sp_12 hD) (show nr < 12 by omega), xu_cell, nI_1, pD_f hD]
def rt3 (d74 : xD) : Option xD := (xon 10 shA 99 (f_X10_fresher shA 99 (3 : Int32) d74)).bind fun z75 => (xon 10 shA 99 (f_X10_reads shA 99 (3 : Int32) (z75.1 + (1 : Int32)) z75.2)).bind fun d76 => k_X10_line_521 shA 99 d76
def rt2 (ix : Int32) (d71 : xD) : Option xD := (xgR 10 shA d71 99 14).bind fun v72 => (xon 10 shA 99 (f_X10_numeral shA 99 (1 : Int32) (30 : Int32) d71)).bind fun z73 => (xsI .int shA z73.2 v72 ix z73.1).bind fun d74 => rt3 d74
def rt1 (ix : Int32) (d66 : xD) : Option xD := (xgR 10 shA d66 99 13).bind fun v67 => (xgR 10 shA d66 99 4).bind fun v68 => (xon 10 shA 99 (f_X10_fresher shA 99 (1 : Int32) d66)).bind fun z69 => (xon 10 shA 99 (f_X10_toldAhead shA 99 v68 (8 : Int32) z69.1 z69.2)).bind fun z70 => (xsI .int shA z70.2 v67 ix z70.1).bind fun d71 => rt2 ix d71
theorem rt3_e {P : Nat} {L' : Nat → Nat → Int64} {R' : Nat → Nat → Option Nat} (hR' : ∀ I, RefOK (I, L', R') P) {K : Nat → Nat → Int32} : rt3 (K, L', R') = k_X10_line_521 shA 99 (xu K 101 11 (K 101 11 + 1), L', R') := by
  have fr : f_X10_fresher shA 99 (3 : Int32) (K, L', R') = some (K 101 11, (K, L', R')) := m_fresher hR' (i := 3) (by omega)
  have rd : ∀ v : Int32, f_X10_reads shA 99 (3 : Int32) v (K, L', R') = some (xu K 101 11 v, L', R') := fun v => m_reads hR' (i := 3) (by omega) v
  unfold rt3
  simp only [on_of sA_99, fr, Option.bind_some, rd]
theorem rt2_e {P : Nat} {L' : Nat → Nat → Int64} {R' : Nat → Nat → Option Nat} (hR' : ∀ I, RefOK (I, L', R') P) {K K2 : Nat → Nat → Int32} {nr : Nat} {v : Int32} (hb : nr < 12) (e : f_X10_numeral shA 99 (nI 1) (nI 30) (K, L', R') = some (v, (K2, L', R'))) : rt2 (nI (12 + nr)) (K, L', R') = rt3 (xu K2 112 (12 + nr) v, L', R') := by
  have e : f_X10_numeral shA 99 (1 : Int32) (30 : Int32) (K, L', R') = some (v, (K2, L', R')) := e
  unfold rt2
  simp only [gR_of sA_99 (rf_99_14 (hR' _)), Option.bind_some, on_of sA_99, e, sI_of sA_112 (show 12 + nr < 24 by omega) (show 24 < 2 ^ 31 by omega)]
theorem rt1_e {P : Nat} {L' : Nat → Nat → Int64} {R' : Nat → Nat → Option Nat} (hR' : ∀ I, RefOK (I, L', R') P) {K K2 : Nat → Nat → Int32} {nr nb : Nat} {v : Int32} (hb : nr < 12) (eB : K 101 9 = nI nb) (e : f_X10_toldAhead shA 99 102 (8 : Int32) (nI nb) (K, L', R') = some (v, (K2, L', R'))) : rt1 (nI (12 + nr)) (K, L', R') = rt2 (nI (12 + nr)) (xu K2 111 (12 + nr) v, L', R') := by
  have fr : f_X10_fresher shA 99 (1 : Int32) (K, L', R') = some (nI nb, (K, L', R')) := by rw [← eB]; exact m_fresher hR' (i := 1) (by omega)
  unfold rt1
  simp only [gR_of sA_99 (rf_99_13 (hR' _)), gR_of sA_99 (rf_99_4 (hR' _)), Option.bind_some, on_of sA_99, fr, e, sI_of sA_111 (show 12 + nr < 24 by omega) (show 24 < 2 ^ 31 by omega)]
theorem frm_12 {q k : Nat} {v : Int32} {K : Nat → Nat → Int32} (h1 : 110 ≤ q) (h2 : q ≤ 112) (h3 : 12 ≤ k) : FRM K (xu K q k v) := frm_xu (by omega) (by omega) (by unfold hfR; rw [if_neg (by omega), if_neg (by omega), if_pos h2]; exact h3)
theorem rt3F {P : Nat} {L' : Nat → Nat → Int64} {R' : Nat → Nat → Option Nat} (hR' : ∀ I, RefOK (I, L', R') P) {K : Nat → Nat → Int32} (hK : K 99 26 ≠ 0) : ∃ J', rt3 (K, L', R') = some (J', L', R') ∧ FRM K J' ∧ J' 99 = K 99 := by
  refine ⟨_, by rw [rt3_e hR', h521F (by rw [xu_cell (by omega)]; exact hK)], frm_101 (by omega), xu_off (by omega)⟩
theorem rt2F {P : Nat} {L' : Nat → Nat → Int64} {R' : Nat → Nat → Option Nat} (hR' : ∀ I, RefOK (I, L', R') P) {K : Nat → Nat → Int32} {nr : Nat} (hb : nr < 12) (hK : K 99 26 ≠ 0) : ∃ J', rt2 (nI (12 + nr)) (K, L', R') = some (J', L', R') ∧ FRM K J' ∧ J' 99 = K 99 := by
  obtain ⟨J', e1, e2, e3⟩ := rt3F hR' (K := xu K 112 (12 + nr) (nI 1)) (by rw [xu_cell (by omega)]; exact hK)
  exact ⟨J', by rw [rt2_e hR' hb (numF hK _ _)]; exact e1, frm_trans (frm_12 (by omega) (by omega) (by omega)) e2, e3.trans (xu_off (by omega))⟩
theorem rt1F {P : Nat} {L' : Nat → Nat → Int64} {R' : Nat → Nat → Option Nat} (hR' : ∀ I, RefOK (I, L', R') P) {K : Nat → Nat → Int32} {nr nb : Nat} (hb : nr < 12) (eB : K 101 9 = nI nb) (hK : K 99 26 ≠ 0) : ∃ J', rt1 (nI (12 + nr)) (K, L', R') = some (J', L', R') ∧ FRM K J' ∧ J' 99 = K 99 := by
  obtain ⟨J', e1, e2, e3⟩ := rt2F hR' hb (K := xu K 111 (12 + nr) 0) (by rw [xu_cell (by omega)]; exact hK)
  exact ⟨J', by rw [rt1_e hR' hb eB (toldF hK _ _ _)]; exact e1, frm_trans (frm_12 (by omega) (by omega) (by omega)) e2, e3.trans (xu_off (by omega))⟩
theorem rl_rest {P P' : Nat} {L L' : Nat → Nat → Int64} {R R' : Nat → Nat → Option Nat} (hR : ∀ I, RefOK (I, L, R) P) (hR' : ∀ I, RefOK (I, L', R') P') {n : Nat} {B : Nat → Nat} {D li nw nb nr tp p a t : Nat} {I J : Nat → Nat → Int32} (hD : isPl D) (hRD : R 42 2 = some D) (h : LN D n B li nw nb nr tp p a t I J) (ht : t = 3) : RES L R L' R' n B D li p I J (f_X6_readRest shA 42 (I, L, R)) (if nr = 12 then some (rfM 2 J, L', R') else k_X10_line_85 shA 99 (nI 3) (J, L', R')) := by
  have hpr := isPl_le hD
  have hP := ln_pr h
  have w6 := pr_w6 hP; have b8 := pr_b8 hP; have r12 := pr_r12 hP
  have hg42 : ∀ X : Nat → Nat → Int32, xgR 6 shA (X, L, R) 42 2 = some D := fun X => gR_of sA_42 hRD
  have hg40 : ∀ X : Nat → Nat → Int32, xgR 6 shA (X, L, R) 42 0 = some 40 := fun X => gR_of sA_42 (rf_42_0 (hR X))
  by_cases c12 : nr = 12
  · left
    rw [if_pos c12]
    refine ⟨rfC 2 I, rfM 2 J, ?_, rfl, ft_of (by decide) (tk_cp (ln_tk h)) (tk_mp (ln_tk h)), frc_rf frc_refl, frm_rf frm_refl⟩
    have e : ¬ I D 15 < 12 := by rw [pr_cR hP, c12]; decide
    unfold f_X6_readRest
    simp only [hg42, hg40, Option.bind_some, gI_of (sp_0 hD), if_neg e, on_of sA_40, c_refuse, xz_0]
  rw [if_neg c12]
  have hb : nr < 12 := by omega
  have e12 : I D 15 < 12 := by rw [pr_cR hP]; exact nI_lt (b := 12) hb (by omega)
  obtain ⟨I1, J1, p1, a1, t1, q1, q2, q3, q4, q5, q6⟩ := adv0 hR hR' (ln_tk h) (show t ≠ 36 by omega) (I1 := I) (J1 := xu J 99 19 (J 99 19 ||| ((1 : Int32) <<< (nI 3 &&& 31)))) (fun _ _ => rfl) rfl rfl (fun j j1 j2 => xu_at2 (by omega)) (xu_off (by omega))
  have f0 : J1 99 26 = 0 := (q4.2 26 (by omega)).trans ((xu_at2 (by omega)).trans (ln_f0 h))
  have fm1 : FRM J J1 := frm_trans (frm_99 (by omega)) (frm_nm q4)
  have jR : ∀ q, q ≠ 99 → J1 q = J q := fun q hq => by rw [q4.1 q hq, xu_off hq]
  have hfr3 : ∀ K : Nat → Nat → Int32, f_X10_fresher shA 99 (3 : Int32) (K, L', R') = some (K 101 11, (K, L', R')) := fun K => m_fresher hR' (i := 3) (by omega)
  have hfr2 : ∀ K : Nat → Nat → Int32, f_X10_fresher shA 99 (2 : Int32) (K, L', R') = some (K 101 10, (K, L', R')) := fun K => m_fresher hR' (i := 2) (by omega)
  have mR1 : J1 101 11 = nI nr := by rw [jR 101 (by omega)]; exact pr_mR hP
  have mW1 : J1 101 10 = nI nw := by rw [jR 101 (by omega)]; exact pr_mW hP
  have a12 : (12 : Int32) + nI nr = nI (12 + nr) := nI_add 12 nr
  have hY : k_X10_line_85 shA 99 (nI 3) (J, L', R') = (f_X10_toldAhead shA 99 105 (6 : Int32) (nI nw) (J1, L', R')).bind fun z65 => (xsI .int shA z65.2 110 (nI (12 + nr)) z65.1).bind fun d66 => rt1 (nI (12 + nr)) d66 := by
    unfold k_X10_line_85
    rw [gI_of sA_99, Option.bind_some]
    dsimp only
    rw [if_pos (ln_f0 h), gI_of sA_99, Option.bind_some, pM_19, Option.bind_some, on_of sA_99]
    dsimp only
    rw [q2, Option.bind_some, if_neg (show ¬ nI 3 = (0 : Int32) by decide), if_neg (show ¬ nI 3 = (1 : Int32) by decide), if_neg (show ¬ nI 3 = (2 : Int32) by decide), if_pos (show nI 3 = (3 : Int32) from rfl)]
    unfold rt1 rt2 rt3
    simp only [on_of sA_99, hfr3, hfr2, Option.bind_some, gR_of sA_99 (rf_99_12 (hR' _)), gR_of sA_99 (rf_99_7 (hR' _)), mR1, mW1, a12]
  -- whose
  have hfd : f_X10_found shA 105 (6 : Int32) (nI nw) (J1 99 25) (J1, L', R') = some (findI (fun k => J1 105 (6 + k)) (J1 99 25) 0 nw, (J1, L', R')) := X10_found (o := 6) sA_105 (by omega) (by omega) (by unfold xF; omega)
  have hwn : f_X3_walkerNamed shA D (I1 40 2) (I1, L, R) = some (findI (I1 (D + 5)) (I1 40 2) 0 nw, (I1, L, R)) := by
    unfold f_X3_walkerNamed
    rw [gR_of (sp_0 hD) (rp_10 (hR _) hD), Option.bind_some, gI_of (sp_0 hD), Option.bind_some]
    dsimp only
    rw [show I1 D 9 = nI nw by rw [q3.1 D (by omega)]; exact pr_cW hP, X3_indexOf (sp_5 hD) (by omega) (by omega) (by unfold xF; omega), Option.bind_some]
  have efd : t1 = 21 → findI (fun k => J1 105 (6 + k)) (J1 99 25) 0 nw = findI (I1 (D + 5)) (I1 40 2) 0 nw := fun e => by
    have tt := tk_tt q5
    rw [e] at tt
    rw [t_nameV tt]
    refine findI_congr nw 0 (fun j _ hj => ?_)
    rw [jR 105 (by omega), q3.1 (D + 5) (by omega)]
    exact (pr_wn hP j (by omega)).symm
  generalize hwI : findI (I1 (D + 5)) (I1 40 2) 0 nw = wI at hwn efd
  rcases e_toldA hR hR' q5 f0 hfd efd with ⟨v, v0, b1, b2⟩ | ⟨x1, x2, x3, x4⟩
  · left
    have hJ : xu (rfM v J1) 110 (12 + nr) 0 99 26 ≠ 0 := by rw [xu_cell (by omega), rfM_26]; exact v0
    obtain ⟨J', k1, k2, k3⟩ := rt1F hR' hb (nb := nb) (K := xu (rfM v J1) 110 (12 + nr) 0) (by unfold rfM; rw [xu_cell (by omega), xu_cell (by omega), xu_cell (by omega), jR 101 (by omega)]; exact pr_mB hP) hJ
    refine ⟨rfC v I1, J', ?_, ?_, ?_, frc_rf (frc_nc q3), frm_trans (frm_trans (frm_rf fm1) (frm_12 (by omega) (by omega) (by omega))) k2⟩
    · unfold f_X6_readRest
      simp only [hg42, hg40, Option.bind_some, gI_of (sp_0 hD), if_pos e12, on_of sA_40, q1, gI_of sA_40, on_of (sp_0 hD), hwn, on_of sA_42, one_ne, if_false, ↓reduceIte, b1]
    · rw [hY, b2, Option.bind_some, sI_of sA_110 (by omega) (by omega), Option.bind_some, k1]
    · unfold FT
      rw [k3, xu_cell (by omega), xu_cell (by omega)]
      exact ft_of v0 (tk_cp q5) (tk_mp q5)
  obtain ⟨I2, J2, p2, a2, t2, r1, r2, r3, r4, r5, r6⟩ := adv0 hR hR' q5 (show t1 ≠ 36 by omega) (I1 := I1) (J1 := J1) (fun _ _ => rfl) rfl rfl (fun _ _ _ => rfl) rfl
  have x4 := x4 J2 r2 (by rw [r4.2 26 (by omega)]; exact f0)
  generalize hK : xu J2 110 (12 + nr) wI = K2
  have k99 : K2 99 = J2 99 := by rw [← hK, xu_off (by omega)]
  have kR : ∀ q, q ≠ 99 → q ≠ 110 → K2 q = J q := fun q c1 c2 => by rw [← hK, xu_off c2, r4.1 q c1, jR q c1]
  have hYk : k_X10_line_85 shA 99 (nI 3) (J, L', R') = rt1 (nI (12 + nr)) (K2, L', R') := by
    rw [hY, x4, Option.bind_some, sI_of sA_110 (by omega) (by omega), Option.bind_some, hK]
  have fK : K2 99 26 = 0 := by rw [k99, r4.2 26 (by omega)]; exact f0
  have tkK : TK n B p2 a2 t2 I2 K2 := tk_congr r5 (fun _ _ => rfl) rfl rfl (fun j _ _ => by rw [k99]) (by rw [← hK, xu_off (by omega)])
  have fm2 : FRM J K2 := by rw [← hK]; exact frm_trans (frm_trans fm1 (frm_nm r4)) (frm_12 (by omega) (by omega) (by omega))
  have nc2 : NC I I2 := nc_trans q3 r3
  have mB2 : K2 101 9 = nI nb := by rw [kR 101 (by omega) (by omega)]; exact pr_mB hP
  -- where
  have hfd2 : f_X10_found shA 102 (8 : Int32) (nI nb) (K2 99 25) (K2, L', R') = some (findI (fun k => K2 102 (8 + k)) (K2 99 25) 0 nb, (K2, L', R')) := X10_found (o := 8) sA_102 (by omega) (by omega) (by unfold xF; omega)
  have hbn : f_X3_benchNamed shA D (I2 40 2) (I2, L, R) = some (findI (I2 (D + 1)) (I2 40 2) 0 nb, (I2, L, R)) := by
    unfold f_X3_benchNamed
    rw [gR_of (sp_0 hD) (rp_5 (hR _) hD), Option.bind_some, gI_of (sp_0 hD), Option.bind_some]
    dsimp only
    rw [show I2 D 4 = nI nb by rw [nc2.1 D (by omega)]; exact pr_cB hP, X3_indexOf (sp_1 hD) (by omega) (by omega) (by unfold xF; omega), Option.bind_some]
  have efd2 : t2 = 21 → findI (fun k => K2 102 (8 + k)) (K2 99 25) 0 nb = findI (I2 (D + 1)) (I2 40 2) 0 nb := fun e => by
    have tt := tk_tt tkK
    rw [e] at tt
    rw [t_nameV tt]
    refine findI_congr nb 0 (fun j _ hj => ?_)
    rw [kR 102 (by omega) (by omega), nc2.1 (D + 1) (by omega)]
    exact (pr_bn hP j (by omega)).symm
  generalize hbI : findI (I2 (D + 1)) (I2 40 2) 0 nb = bI at hbn efd2
  rcases e_toldA hR hR' tkK fK hfd2 efd2 with ⟨v, v0, b1, b2⟩ | ⟨y1, y2, y3, y4⟩
  · left
    have hJ : xu (rfM v K2) 111 (12 + nr) 0 99 26 ≠ 0 := by rw [xu_cell (by omega), rfM_26]; exact v0
    obtain ⟨J', k1, k2, k3⟩ := rt2F hR' hb (K := xu (rfM v K2) 111 (12 + nr) 0) hJ
    refine ⟨rfC v I2, J', ?_, by rw [hYk, rt1_e hR' hb mB2 b2]; exact k1, ?_, frc_rf (frc_nc nc2), frm_trans (frm_trans (frm_rf fm2) (frm_12 (by omega) (by omega) (by omega))) k2⟩
    · unfold f_X6_readRest
      simp only [hg42, hg40, Option.bind_some, gI_of (sp_0 hD), if_pos e12, on_of sA_40, q1, gI_of sA_40, on_of (sp_0 hD), hwn, on_of sA_42, one_ne, if_false, ↓reduceIte, x3, r1, hbn, b1]
    · unfold FT
      rw [k3, xu_cell (by omega), xu_cell (by omega)]
      exact ft_of v0 (tk_cp tkK) (tk_mp tkK)
  obtain ⟨I3, J3, p3, a3, t3, s1, s2, s3, s4, s5, s6⟩ := adv0 hR hR' tkK (show t2 ≠ 36 by omega) (I1 := I2) (J1 := K2) (fun _ _ => rfl) rfl rfl (fun _ _ _ => rfl) rfl
  have y4 := y4 J3 s2 (by rw [s4.2 26 (by omega)]; exact fK)
  have e1 := rt1_e hR' hb mB2 y4
  generalize hM : xu J3 111 (12 + nr) bI = K3 at e1
  have m99 : K3 99 = J3 99 := by rw [← hM, xu_off (by omega)]
  have mR : ∀ q, q ≠ 99 → q ≠ 110 → q ≠ 111 → K3 q = J q := fun q c1 c2 c3 => by rw [← hM, xu_off c3, s4.1 q c1, kR q c1 c2]
  have fM : K3 99 26 = 0 := by rw [m99, s4.2 26 (by omega)]; exact fK
  have tkM : TK n B p3 a3 t3 I3 K3 := tk_congr s5 (fun _ _ => rfl) rfl rfl (fun j _ _ => by rw [m99]) (by rw [← hM, xu_off (by omega)])
  have fm3 : FRM J K3 := by rw [← hM]; exact frm_trans (frm_trans fm2 (frm_nm s4)) (frm_12 (by omega) (by omega) (by omega))
  have nc3 : NC I I3 := nc_trans nc2 s3
  rcases e_num hR hR' tkM fM (lo := 1) (hi := 30) (by omega) (by omega) with ⟨v, v0, b1, b2⟩ | ⟨mi, z1, z2, z3, z4, z5, z6, z7⟩
  · left
    have b1 : f_X6_isNumber shA 42 (1 : Int32) (30 : Int32) (I3, L, R) = some (0, (rfC v I3, L, R)) := b1
    have hJ : xu (rfM v K3) 112 (12 + nr) (nI 1) 99 26 ≠ 0 := by rw [xu_cell (by omega), rfM_26]; exact v0
    obtain ⟨J', k1, k2, k3⟩ := rt3F hR' (K := xu (rfM v K3) 112 (12 + nr) (nI 1)) hJ
    refine ⟨rfC v I3, J', ?_, by rw [hYk, e1, rt2_e hR' hb b2]; exact k1, ?_, frc_rf (frc_nc nc3), frm_trans (frm_trans (frm_rf fm3) (frm_12 (by omega) (by omega) (by omega))) k2⟩
    · unfold f_X6_readRest
      simp only [hg42, hg40, Option.bind_some, gI_of (sp_0 hD), if_pos e12, on_of sA_40, q1, gI_of sA_40, on_of (sp_0 hD), hwn, on_of sA_42, one_ne, if_false, ↓reduceIte, x3, r1, hbn, y3, s1, b1]
    · unfold FT
      rw [k3, xu_cell (by omega), xu_cell (by omega)]
      exact ft_of v0 (tk_cp tkM) (tk_mp tkM)
  right
  have z6 : f_X6_isNumber shA 42 (1 : Int32) (30 : Int32) (I3, L, R) = some (1, (I3, L, R)) := z6
  have cR3 : I3 D 15 = nI nr := by rw [nc3.1 D (by omega)]; exact pr_cR hP
  have had := c_addRestP hR hD cR3 hb wI bI (nI mi)
  generalize hA : xu (xu (xu (xu I3 (D + 10) nr wI) (D + 11) nr bI) (D + 12) nr (nI mi)) D 15 (nI (nr + 1)) = A at had
  have aR : ∀ q, q ≠ D → (q < D + 10 ∨ D + 13 ≤ q) → A q = I3 q := fun q hq0 hq => by rw [← hA, xu_off (by omega), xu_off (by omega), xu_off (by omega), xu_off (by omega)]
  obtain ⟨I6, J6, p6, a6', t6, u1, u2, u3, u4, u5, u6⟩ := adv0 hR hR' tkM (show t3 ≠ 36 by omega) (I1 := A) (J1 := K3) (fun j _ => by rw [aR 40 (by omega) (by omega)]) (aR 1 (by omega) (by omega)) (aR 41 (by omega) (by omega)) (fun _ _ _ => rfl) rfl
  rw [u2, Option.bind_some] at z7
  have e2 := rt2_e hR' hb z7
  rw [rt3_e hR'] at e2
  have j611 : xu J6 112 (12 + nr) (nI mi) 101 11 + 1 = nI (nr + 1) := by rw [xu_cell (by omega), u4.1 101 (by omega), mR 101 (by omega) (by omega) (by omega), show J 101 11 = nI nr from pr_mR hP, nI_1]
  rw [j611] at e2
  generalize hZ : xu (xu J6 112 (12 + nr) (nI mi)) 101 11 (nI (nr + 1)) = Z at e2
  have z99 : ∀ j, Z 99 j = J6 99 j := fun j => by rw [← hZ, xu_cell (by omega), xu_cell (by omega)]
  have cI : ∀ q, q ≠ 40 → q ≠ D → (q < D + 10 ∨ D + 13 ≤ q) → I6 q = I q := fun q c1 c2 c3 => by rw [u3.1 q c1, aR q c2 c3, nc3.1 q c1]
  have zR : ∀ q, q ≠ 99 → q ≠ 101 → (q < 110 ∨ 112 < q) → Z q = J q := fun q c1 c2 c3 => by rw [← hZ, xu_off c2, xu_off (by omega), u4.1 q c1, mR q c1 (by omega) (by omega)]
  have ch : ∀ j, (j < 22 ∨ 25 < j) → Z 99 j = J1 99 j := fun j c1 => by rw [z99, u4.2 j c1, m99, s4.2 j c1, k99, r4.2 j c1]
  have c99 : ∀ j, (j < 22 ∨ 25 < j) → j ≠ 19 → Z 99 j = J 99 j := fun j c1 c2 => by rw [ch j c1, q4.2 j c1, xu_at2 c2]
  have c19 : Z 99 19 = J 99 19 ||| ((1 : Int32) <<< (nI 3 &&& 31)) := by rw [ch 19 (by omega), q4.2 19 (by omega), xu_at]
  have i40 : ∀ j, j = 3 ∨ j = 4 → I6 40 j = I 40 j := fun j c => by rw [u3.2 j (by omega) (by omega) (by omega) (by omega), aR 40 (by omega) (by omega), nc3.2 j (by omega) (by omega) (by omega) (by omega)]
  have hP2 : PR D 1 nw nb (nr + 1) tp I6 Z := by
    refine pr_rest (c := mi) (wI := wI) (bI := bI) hP hb z1 z2 ?_ (by rw [← hZ, xu_at]) ?_ ?_ ?_ ?_ ?_ ?_ ?_ ?_ ?_ ?_ ?_ ?_ ?_ (fun j j1 j2 j3 => cI _ (by omega) (by omega) (by omega)) ?_ (fun q c1 c2 c3 => zR q (by omega) (by omega) c3)
    · rw [u3.1 D (by omega), ← hA, xu_at]
    · rw [u3.1 (D + 10) (by omega), ← hA, xu_cell (by omega), xu_cell (by omega), xu_cell (by omega), xu_at]
    · intro i hi; rw [u3.1 (D + 10) (by omega), ← hA, xu_cell (by omega), xu_cell (by omega), xu_cell (by omega), xu_at2 hi, nc3.1 (D + 10) (by omega)]
    · rw [← hZ, xu_cell (by omega), xu_cell (by omega), u4.1 110 (by omega), ← hM, xu_cell (by omega), s4.1 110 (by omega), ← hK, xu_at]
    · intro i hi; rw [← hZ, xu_cell (by omega), xu_cell (by omega), u4.1 110 (by omega), ← hM, xu_cell (by omega), s4.1 110 (by omega), ← hK, xu_at2 hi, r4.1 110 (by omega), jR 110 (by omega)]
    · rw [u3.1 (D + 11) (by omega), ← hA, xu_cell (by omega), xu_cell (by omega), xu_at]
    · intro i hi; rw [u3.1 (D + 11) (by omega), ← hA, xu_cell (by omega), xu_cell (by omega), xu_at2 hi, xu_cell (by omega), nc3.1 (D + 11) (by omega)]
    · rw [← hZ, xu_cell (by omega), xu_cell (by omega), u4.1 111 (by omega), ← hM, xu_at]
    · intro i hi; rw [← hZ, xu_cell (by omega), xu_cell (by omega), u4.1 111 (by omega), ← hM, xu_at2 hi, s4.1 111 (by omega), kR 111 (by omega) (by omega)]
    · rw [u3.1 (D + 12) (by omega), ← hA, xu_cell (by omega), xu_at]
    · intro i hi; rw [u3.1 (D + 12) (by omega), ← hA, xu_cell (by omega), xu_at2 hi, xu_cell (by omega), xu_cell (by omega), nc3.1 (D + 12) (by omega)]
    · rw [← hZ, xu_cell (by omega), xu_at]
    · intro i hi; rw [← hZ, xu_cell (by omega), xu_at2 hi, u4.1 112 (by omega), mR 112 (by omega) (by omega) (by omega)]
    · intro k hk; rw [u3.1 D (by omega), ← hA, xu_at2 hk, xu_cell (by omega), xu_cell (by omega), xu_cell (by omega), nc3.1 D (by omega)]
    · intro k hk; rw [← hZ, xu_at2 hk, xu_cell (by omega), u4.1 101 (by omega), mR 101 (by omega) (by omega) (by omega)]
  have fcA : FRC D I A := by
    rw [← hA]
    exact frc_trans (frc_nc nc3) (frc_trans (frc_trans (frc_trans (frc_xu (by omega)) (frc_xu (by omega))) (frc_xu (by omega))) (frc_xu (by omega)))
  refine ⟨nw, nb, nr + 1, tp, p6, a6', t6, I6, Z, ?_, by rw [hYk, e1, e2], ⟨tk_congr u5 (fun _ _ => rfl) rfl rfl (fun j _ _ => z99 j) (by rw [← hZ, xu_off (by omega), xu_off (by omega)]), hP2, ?_, ?_, ?_, ?_, ?_, ?_, ?_, ?_, ?_, ?_⟩, by omega, frc_trans fcA (frc_nc u3), ?_⟩
  · unfold f_X6_readRest
    simp only [hg42, hg40, Option.bind_some, gI_of (sp_0 hD), if_pos e12, on_of sA_40, q1, gI_of sA_40, on_of (sp_0 hD), hwn, on_of sA_42, one_ne, if_false, ↓reduceIte, x3, r1, hbn, y3, s1, z6, z4, had, u1]
  · rw [c99 26 (by omega) (by omega)]; exact ln_f0 h
  · rw [c99 27 (by omega) (by omega)]; exact ln_f1 h
  · rw [i40 3 (by omega)]; exact ln_g0 h
  · rw [i40 4 (by omega)]; exact ln_g1 h
  · rw [c99 20 (by omega) (by omega)]; exact ln_li h
  · rw [c99 30 (by omega) (by omega)]; exact ln_op h
  · rw [c99 31 (by omega) (by omega), cI (D + 13) (by omega) (by omega) (by omega)]; exact ln_mk h
  · rw [cI 42 (by omega) (by omega) (by omega), c19]; exact told_or (by omega) (ln_tn h)
  · intro k hk
    rw [cI 42 (by omega) (by omega) (by omega), c19, cI (D + 13) (by omega) (by omega) (by omega), told_or2 (by omega) hk]; exact ln_tl h k hk
  · intro k hk hb'
    rw [cI (D + 13) (by omega) (by omega) (by omega)] at hb' ⊢
    rw [zR 114 (by omega) (by omega) (by omega)]; exact ln_tb h k hk hb'
  · rw [← hZ]; exact frm_trans (frm_trans fm3 (frm_nm u4)) (frm_trans (frm_12 (by omega) (by omega) (by omega)) (frm_101 (by omega)))

/-! LEVEL 2: text. Lines: a walker is read -/
theorem rl_walker {P P' : Nat} {L L' : Nat → Nat → Int64} {R R' : Nat → Nat → Option Nat} (hR : ∀ I, RefOK (I, L, R) P) (hR' : ∀ I, RefOK (I, L', R') P') {n : Nat} {B : Nat → Nat} {D li nw nb nr tp p a t : Nat} {I J : Nat → Nat → Int32} (hD : isPl D) (hRD : R 42 2 = some D) (h : LN D n B li nw nb nr tp p a t I J) (ht : t = 2) : RES L R L' R' n B D li p I J (f_X6_readWalker shA 42 (I, L, R)) (if nw = 6 then some (rfM 2 J, L', R') else k_X10_line_85 shA 99 (nI 2) (J, L', R')) := by
  have hpr := isPl_le hD
  have hP := ln_pr h
  have t60 := pr_t60 hP; have t2' := pr_t2 hP; have w6 := pr_w6 hP
  have hg42 : ∀ X : Nat → Nat → Int32, xgR 6 shA (X, L, R) 42 2 = some D := fun X => gR_of sA_42 hRD
  have hg40 : ∀ X : Nat → Nat → Int32, xgR 6 shA (X, L, R) 42 0 = some 40 := fun X => gR_of sA_42 (rf_42_0 (hR X))
  by_cases c6 : nw = 6
  · left
    rw [if_pos c6]
    refine ⟨rfC 2 I, rfM 2 J, ?_, rfl, ft_of (by decide) (tk_cp (ln_tk h)) (tk_mp (ln_tk h)), frc_rf frc_refl, frm_rf frm_refl⟩
    have e : ¬ I D 9 < 6 := by rw [pr_cW hP, c6]; decide
    unfold f_X6_readWalker
    simp only [hg42, hg40, Option.bind_some, gI_of (sp_0 hD), if_neg e, on_of sA_40, c_refuse, xz_0]
  rw [if_neg c6]
  have hb : nw < 6 := by omega
  have e6 : I D 9 < 6 := by rw [pr_cW hP]; exact nI_lt (b := 6) hb (by omega)
  obtain ⟨I1, J1, p1, a1, t1, q1, q2, q3, q4, q5, q6⟩ := adv0 hR hR' (ln_tk h) (show t ≠ 36 by omega) (I1 := I) (J1 := xu J 99 19 (J 99 19 ||| ((1 : Int32) <<< (nI 2 &&& 31)))) (fun _ _ => rfl) rfl rfl (fun j j1 j2 => xu_at2 (by omega)) (xu_off (by omega))
  have f0 : J1 99 26 = 0 := (q4.2 26 (by omega)).trans ((xu_at2 (by omega)).trans (ln_f0 h))
  have fm1 : FRM J J1 := frm_trans (frm_99 (by omega)) (frm_nm q4)
  have jR : ∀ q, q ≠ 99 → J1 q = J q := fun q hq => by rw [q4.1 q hq, xu_off hq]
  have hfr2 : ∀ K : Nat → Nat → Int32, f_X10_fresher shA 99 (2 : Int32) (K, L', R') = some (K 101 10, (K, L', R')) := fun K => m_fresher hR' (i := 2) (by omega)
  have mW : J1 101 10 = nI nw := by rw [jR 101 (by omega)]; exact pr_mW hP
  have a6 : (6 : Int32) + nI nw = nI (6 + nw) := nI_add 6 nw
  have hY : k_X10_line_85 shA 99 (nI 2) (J, L', R') = (f_X10_fresh shA 99 105 (6 : Int32) (nI nw) (J1, L', R')).bind fun z29 => (xsI .int shA z29.2 105 (nI (6 + nw)) z29.1).bind fun d30 => wk1 (nI (6 + nw)) d30 := by
    unfold k_X10_line_85
    rw [gI_of sA_99, Option.bind_some]
    dsimp only
    rw [if_pos (ln_f0 h), gI_of sA_99, Option.bind_some, pM_19, Option.bind_some, on_of sA_99]
    dsimp only
    rw [q2, Option.bind_some, if_neg (show ¬ nI 2 = (0 : Int32) by decide), if_neg (show ¬ nI 2 = (1 : Int32) by decide), if_pos (show nI 2 = (2 : Int32) from rfl)]
    unfold wk1 wk2 wk3 wk4 wk5
    simp only [on_of sA_99, hfr2, Option.bind_some, gR_of sA_99 (rf_99_7 (hR' _)), mW, a6]
  -- the name
  have hfd : f_X10_found shA 105 (6 : Int32) (nI nw) (J1 99 25) (J1, L', R') = some (findI (fun k => J1 105 (6 + k)) (J1 99 25) 0 nw, (J1, L', R')) := X10_found (o := 6) sA_105 (by omega) (by omega) (by unfold xF; omega)
  have hnm : f_X3_walkerNamed shA D (I1 40 2) (I1, L, R) = some (findI (I1 (D + 5)) (I1 40 2) 0 nw, (I1, L, R)) := by
    unfold f_X3_walkerNamed
    rw [gR_of (sp_0 hD) (rp_10 (hR _) hD), Option.bind_some, gI_of (sp_0 hD), Option.bind_some]
    dsimp only
    rw [show I1 D 9 = nI nw by rw [q3.1 D (by omega)]; exact pr_cW hP, X3_indexOf (sp_5 hD) (by omega) (by omega) (by unfold xF; omega), Option.bind_some]
  have efd : t1 = 21 → findI (fun k => J1 105 (6 + k)) (J1 99 25) 0 nw = findI (I1 (D + 5)) (I1 40 2) 0 nw := fun e => by
    have tt := tk_tt q5
    rw [e] at tt
    rw [t_nameV tt]
    refine findI_congr nw 0 (fun j _ hj => ?_)
    rw [jR 105 (by omega), q3.1 (D + 5) (by omega)]
    exact (pr_wn hP j (by omega)).symm
  rcases e_fresh hR hR' q5 f0 hfd efd with ⟨v, v0, b1, b2⟩ | ⟨x1, x2, x3, x4⟩
  · left
    have hJ : xu (rfM v J1) 105 (6 + nw) 0 99 26 ≠ 0 := by rw [xu_cell (by omega), rfM_26]; exact v0
    obtain ⟨J', k1, k2, k3⟩ := wk1F hR' hb (tp := tp) (K := xu (rfM v J1) 105 (6 + nw) 0) (by unfold rfM; rw [xu_cell (by omega), xu_cell (by omega), xu_cell (by omega), jR 101 (by omega)]; exact pr_mT hP) hJ
    refine ⟨rfC v I1, J', ?_, ?_, ?_, frc_rf (frc_nc q3), frm_trans (frm_trans (frm_rf fm1) (frm_6 (by omega) (by omega) (by omega))) k2⟩
    · unfold f_X6_readWalker
      simp only [hg42, hg40, Option.bind_some, gI_of (sp_0 hD), if_pos e6, on_of sA_40, q1, gI_of sA_40, on_of (sp_0 hD), hnm, on_of sA_42, b1, ↓reduceIte]
    · rw [hY, b2, Option.bind_some, sI_of sA_105 (by omega) (by omega), Option.bind_some, k1]
    · unfold FT
      rw [k3, xu_cell (by omega), xu_cell (by omega)]
      exact ft_of v0 (tk_cp q5) (tk_mp q5)
  obtain ⟨I2, J2, p2, a2, t2, r1, r2, r3, r4, r5, r6⟩ := adv0 hR hR' q5 (show t1 ≠ 36 by omega) (I1 := I1) (J1 := J1) (fun _ _ => rfl) rfl rfl (fun _ _ _ => rfl) rfl
  generalize hN : J1 99 25 = nmv at x4
  have enm : I1 40 2 = nmv := by
    have tt := tk_tt q5
    rw [x1] at tt
    rw [← hN, t_nameV tt]
  rw [enm] at hnm x3
  rw [r2, Option.bind_some] at x4
  generalize hK : xu J2 105 (6 + nw) nmv = K2
  have k99 : K2 99 = J2 99 := by rw [← hK, xu_off (by omega)]
  have kR : ∀ q, q ≠ 99 → q ≠ 105 → K2 q = J q := fun q c1 c2 => by rw [← hK, xu_off c2, r4.1 q c1, jR q c1]
  have hYk : k_X10_line_85 shA 99 (nI 2) (J, L', R') = wk1 (nI (6 + nw)) (K2, L', R') := by
    rw [hY, x4, Option.bind_some, sI_of sA_105 (by omega) (by omega), Option.bind_some, hK]
  have fK : K2 99 26 = 0 := by rw [k99, r4.2 26 (by omega)]; exact f0
  have tkK : TK n B p2 a2 t2 I2 K2 := tk_congr r5 (fun _ _ => rfl) rfl rfl (fun j _ _ => by rw [k99]) (by rw [← hK, xu_off (by omega)])
  have fm2 : FRM J K2 := by rw [← hK]; exact frm_trans (frm_trans fm1 (frm_nm r4)) (frm_6 (by omega) (by omega) (by omega))
  have nc2 : NC I I2 := nc_trans q3 r3
  have cT2 : I2 D 0 = nI tp := by rw [nc2.1 D (by omega)]; exact pr_cT hP
  have mT2 : K2 101 8 = nI tp := by rw [kR 101 (by omega) (by omega)]; exact pr_mT hP
  -- the step
  rcases stage hR hR' tkK fK (lo := 0) (hi := tp) (q := 106) (k := 6 + nw) (by omega) (by omega) (by omega) with ⟨v, v0, b1, b2, bJ, bF⟩ | ⟨s, I3, J3, K3, p3, a3, t3, s1, s2, s3, s4, s5, s6, s7, s8, s9, s10, s11, s12, s13, s14⟩
  · have b1 : f_X6_isNumber shA 42 (0 : Int32) (nI tp) (I2, L, R) = some (0, (rfC v I2, L, R)) := b1
    left
    obtain ⟨J', k1, k2, k3⟩ := wk2F hR' hb (K := xu (rfM v K2) 106 (6 + nw) (nI 0)) bJ
    refine ⟨rfC v I2, J', ?_, by rw [hYk, wk1_e hR' hb mT2 b2]; exact k1, bF J' k3, frc_rf (frc_nc nc2), frm_trans (frm_trans (frm_rf fm2) (frm_6 (by omega) (by omega) (by omega))) k2⟩
    unfold f_X6_readWalker
    simp only [hg42, hg40, Option.bind_some, gI_of (sp_0 hD), if_pos e6, on_of sA_40, q1, gI_of sA_40, on_of (sp_0 hD), enm, hnm, on_of sA_42, x3, one_ne, if_false, ↓reduceIte, r1, cT2, b1]
  have s5 : f_X6_isNumber shA 42 (0 : Int32) (nI tp) (I2, L, R) = some (1, (I2, L, R)) := s5
  have e1 := wk1_e hR' hb mT2 s6
  rw [← s10] at e1
  have nc3 : NC I I3 := nc_trans nc2 s8
  have fm3 : FRM J K3 := by rw [s10]; exact frm_trans (frm_trans fm2 (frm_nm s9)) (frm_6 (by omega) (by omega) (by omega))
  rcases stage hR hR' s11 s13 (lo := 0) (hi := 1) (q := 107) (k := 6 + nw) (by omega) (by omega) (by omega) with ⟨v, v0, b1, b2, bJ, bF⟩ | ⟨dn, I4, J4, K4, p4, a4, t4, u1, u2, u3, u4, u5, u6, u7, u8, u9, u10, u11, u12, u13, u14⟩
  · have b1 : f_X6_isNumber shA 42 (0 : Int32) (1 : Int32) (I3, L, R) = some (0, (rfC v I3, L, R)) := b1
    left
    obtain ⟨J', k1, k2, k3⟩ := wk3F hR' hb (K := xu (rfM v K3) 107 (6 + nw) (nI 0)) bJ
    refine ⟨rfC v I3, J', ?_, by rw [hYk, e1, wk2_e hR' hb b2]; exact k1, bF J' k3, frc_rf (frc_nc nc3), frm_trans (frm_trans (frm_rf fm3) (frm_6 (by omega) (by omega) (by omega))) k2⟩
    unfold f_X6_readWalker
    simp only [hg42, hg40, Option.bind_some, gI_of (sp_0 hD), if_pos e6, on_of sA_40, q1, gI_of sA_40, on_of (sp_0 hD), enm, hnm, on_of sA_42, x3, one_ne, if_false, ↓reduceIte, r1, cT2, s5, s4, s7, b1]
  have u5 : f_X6_isNumber shA 42 (0 : Int32) (1 : Int32) (I3, L, R) = some (1, (I3, L, R)) := u5
  have e2 := wk2_e hR' hb u6
  rw [← u10] at e2
  have nc4 : NC I I4 := nc_trans nc3 u8
  have fm4 : FRM J K4 := by rw [u10]; exact frm_trans (frm_trans fm3 (frm_nm u9)) (frm_6 (by omega) (by omega) (by omega))
  rcases stage hR hR' u11 u13 (lo := 1) (hi := 9) (q := 108) (k := 6 + nw) (by omega) (by omega) (by omega) with ⟨v, v0, b1, b2, bJ, bF⟩ | ⟨pc, I5, J5, K5, p5, a5, t5, w1, w2, w3, w4, w5, w6', w7, w8, w9, w10, w11, w12, w13, w14⟩
  · have b1 : f_X6_isNumber shA 42 (1 : Int32) (9 : Int32) (I4, L, R) = some (0, (rfC v I4, L, R)) := b1
    left
    obtain ⟨J', k1, k2, k3⟩ := wk4F hR' hb (K := xu (rfM v K4) 108 (6 + nw) (nI 1)) bJ
    refine ⟨rfC v I4, J', ?_, by rw [hYk, e1, e2, wk3_e hR' hb b2]; exact k1, bF J' k3, frc_rf (frc_nc nc4), frm_trans (frm_trans (frm_rf fm4) (frm_6 (by omega) (by omega) (by omega))) k2⟩
    unfold f_X6_readWalker
    simp only [hg42, hg40, Option.bind_some, gI_of (sp_0 hD), if_pos e6, on_of sA_40, q1, gI_of sA_40, on_of (sp_0 hD), enm, hnm, on_of sA_42, x3, one_ne, if_false, ↓reduceIte, r1, cT2, s5, s4, s7, u5, u4, u7, b1]
  have w5 : f_X6_isNumber shA 42 (1 : Int32) (9 : Int32) (I4, L, R) = some (1, (I4, L, R)) := w5
  have e3 := wk3_e hR' hb w6'
  rw [← w10] at e3
  have nc5 : NC I I5 := nc_trans nc4 w8
  have fm5 : FRM J K5 := by rw [w10]; exact frm_trans (frm_trans fm4 (frm_nm w9)) (frm_6 (by omega) (by omega) (by omega))
  rcases e_num hR hR' w11 w13 (lo := 0) (hi := 99) (by omega) (by omega) with ⟨v, v0, b1, b2⟩ | ⟨mi, y1, y2, y3, y4, y5, y6, y7⟩
  · have b1 : f_X6_isNumber shA 42 (0 : Int32) (99 : Int32) (I5, L, R) = some (0, (rfC v I5, L, R)) := b1
    have bJ : xu (rfM v K5) 109 (6 + nw) (nI 0) 99 26 ≠ 0 := by rw [xu_cell (by omega), rfM_26]; exact v0
    have bF : ∀ J' : Nat → Nat → Int32, J' 99 = xu (rfM v K5) 109 (6 + nw) (nI 0) 99 → FT (rfC v I5) J' := fun J' e => by
      unfold FT
      rw [e, xu_cell (by omega), xu_cell (by omega)]
      exact ft_of v0 (tk_cp w11) (tk_mp w11)
    left
    obtain ⟨J', k1, k2, k3⟩ := wk5F hR' (K := xu (rfM v K5) 109 (6 + nw) (nI 0)) bJ
    refine ⟨rfC v I5, J', ?_, by rw [hYk, e1, e2, e3, wk4_e hR' hb b2]; exact k1, bF J' k3, frc_rf (frc_nc nc5), frm_trans (frm_trans (frm_rf fm5) (frm_6 (by omega) (by omega) (by omega))) k2⟩
    unfold f_X6_readWalker
    simp only [hg42, hg40, Option.bind_some, gI_of (sp_0 hD), if_pos e6, on_of sA_40, q1, gI_of sA_40, on_of (sp_0 hD), enm, hnm, on_of sA_42, x3, one_ne, if_false, ↓reduceIte, r1, cT2, s5, s4, s7, u5, u4, u7, w5, w4, w7, b1]
  right
  have y6 : f_X6_isNumber shA 42 (0 : Int32) (99 : Int32) (I5, L, R) = some (1, (I5, L, R)) := y6
  have cW5 : I5 D 9 = nI nw := by rw [nc5.1 D (by omega)]; exact pr_cW hP
  have had := c_addWalker hR hD cW5 hb nmv (nI s) (nI dn) (nI pc) (nI mi)
  generalize hA : xu (xu (xu (xu (xu (xu I5 (D + 5) nw nmv) (D + 6) nw (nI s)) (D + 7) nw (nI dn)) (D + 8) nw (nI pc)) (D + 9) nw (nI mi)) D 9 (nI (nw + 1)) = A at had
  have aR : ∀ q, q ≠ D → (q < D + 5 ∨ D + 10 ≤ q) → A q = I5 q := fun q hq0 hq => by rw [← hA, xu_off (by omega), xu_off (by omega), xu_off (by omega), xu_off (by omega), xu_off (by omega), xu_off (by omega)]
  obtain ⟨I6, J6, p6, a6', t6, z1, z2, z3, z4, z5, z6⟩ := adv0 hR hR' w11 (show t5 ≠ 36 by omega) (I1 := A) (J1 := K5) (fun j _ => by rw [aR 40 (by omega) (by omega)]) (aR 1 (by omega) (by omega)) (aR 41 (by omega) (by omega)) (fun _ _ _ => rfl) rfl
  rw [z2, Option.bind_some] at y7
  have e4 := wk4_e hR' hb y7
  rw [wk5_e hR'] at e4
  -- the reference's rows
  have mK : ∀ q, q ≠ 99 → q ≠ 105 → q ≠ 106 → q ≠ 107 → q ≠ 108 → K5 q = J q := fun q c1 c2 c3 c4 c5 => by rw [w10, xu_off c5, w9.1 q c1, u10, xu_off c4, u9.1 q c1, s10, xu_off c3, s9.1 q c1, kR q c1 c2]
  have j610 : xu J6 109 (6 + nw) (nI mi) 101 10 + 1 = nI (nw + 1) := by rw [xu_cell (by omega), z4.1 101 (by omega), mK 101 (by omega) (by omega) (by omega) (by omega) (by omega), show J 101 10 = nI nw from pr_mW hP, nI_1]
  rw [j610] at e4
  generalize hZ : xu (xu J6 109 (6 + nw) (nI mi)) 101 10 (nI (nw + 1)) = Z at e4
  have z99 : ∀ j, Z 99 j = J6 99 j := fun j => by rw [← hZ, xu_cell (by omega), xu_cell (by omega)]
  have cI : ∀ q, q ≠ 40 → q ≠ D → (q < D + 5 ∨ D + 10 ≤ q) → I6 q = I q := fun q c1 c2 c3 => by rw [z3.1 q c1, aR q c2 c3, nc5.1 q c1]
  have zR : ∀ q, q ≠ 99 → q ≠ 101 → (q < 105 ∨ 109 < q) → Z q = J q := fun q c1 c2 c3 => by rw [← hZ, xu_off c2, xu_off (by omega), z4.1 q c1, mK q c1 (by omega) (by omega) (by omega) (by omega)]
  have ch : ∀ j, (j < 22 ∨ 25 < j) → Z 99 j = J1 99 j := fun j c1 => by rw [z99, z4.2 j c1, w14, w9.2 j c1, u14, u9.2 j c1, s14, s9.2 j c1, k99, r4.2 j c1]
  have c99 : ∀ j, (j < 22 ∨ 25 < j) → j ≠ 19 → Z 99 j = J 99 j := fun j c1 c2 => by rw [ch j c1, q4.2 j c1, xu_at2 c2]
  have c19 : Z 99 19 = J 99 19 ||| ((1 : Int32) <<< (nI 2 &&& 31)) := by rw [ch 19 (by omega), q4.2 19 (by omega), xu_at]
  have i40 : ∀ j, j = 3 ∨ j = 4 → I6 40 j = I 40 j := fun j c => by rw [z3.2 j (by omega) (by omega) (by omega) (by omega), aR 40 (by omega) (by omega), nc5.2 j (by omega) (by omega) (by omega) (by omega)]
  have hP2 : PR D 1 (nw + 1) nb nr tp I6 Z := by
    refine pr_walker (s := s) (c := pc) (nm := nmv) (dn := nI dn) (mi := nI mi) hP hb s2 w1 w2 ?_ (by rw [← hZ, xu_at]) ?_ ?_ ?_ ?_ ?_ ?_ ?_ ?_ ?_ ?_ ?_ ?_ ?_ ?_ ?_ ?_ ?_ ?_ ?_ ?_ ?_ (fun j j1 j2 j3 => cI _ (by omega) (by omega) (by omega)) ?_ (fun q c1 c2 c3 => zR q (by omega) (by omega) c3)
    · rw [z3.1 D (by omega), ← hA, xu_at]
    · rw [z3.1 (D + 5) (by omega), ← hA, xu_cell (by omega), xu_cell (by omega), xu_cell (by omega), xu_cell (by omega), xu_cell (by omega), xu_at]
    · intro i hi; rw [z3.1 (D + 5) (by omega), ← hA, xu_cell (by omega), xu_cell (by omega), xu_cell (by omega), xu_cell (by omega), xu_cell (by omega), xu_at2 hi, nc5.1 (D + 5) (by omega)]
    · rw [← hZ, xu_cell (by omega), xu_cell (by omega), z4.1 105 (by omega), w10, xu_cell (by omega), w9.1 105 (by omega), u10, xu_cell (by omega), u9.1 105 (by omega), s10, xu_cell (by omega), s9.1 105 (by omega), ← hK, xu_at]
    · intro i hi; rw [← hZ, xu_cell (by omega), xu_cell (by omega), z4.1 105 (by omega), w10, xu_cell (by omega), w9.1 105 (by omega), u10, xu_cell (by omega), u9.1 105 (by omega), s10, xu_cell (by omega), s9.1 105 (by omega), ← hK, xu_at2 hi, r4.1 105 (by omega), jR 105 (by omega)]
    · rw [z3.1 (D + 6) (by omega), ← hA, xu_cell (by omega), xu_cell (by omega), xu_cell (by omega), xu_cell (by omega), xu_at]
    · intro i hi; rw [z3.1 (D + 6) (by omega), ← hA, xu_cell (by omega), xu_cell (by omega), xu_cell (by omega), xu_cell (by omega), xu_at2 hi, xu_cell (by omega), nc5.1 (D + 6) (by omega)]
    · rw [← hZ, xu_cell (by omega), xu_cell (by omega), z4.1 106 (by omega), w10, xu_cell (by omega), w9.1 106 (by omega), u10, xu_cell (by omega), u9.1 106 (by omega), s10, xu_at]
    · intro i hi; rw [← hZ, xu_cell (by omega), xu_cell (by omega), z4.1 106 (by omega), w10, xu_cell (by omega), w9.1 106 (by omega), u10, xu_cell (by omega), u9.1 106 (by omega), s10, xu_at2 hi, s9.1 106 (by omega), kR 106 (by omega) (by omega)]
    · rw [z3.1 (D + 7) (by omega), ← hA, xu_cell (by omega), xu_cell (by omega), xu_cell (by omega), xu_at]
    · intro i hi; rw [z3.1 (D + 7) (by omega), ← hA, xu_cell (by omega), xu_cell (by omega), xu_cell (by omega), xu_at2 hi, xu_cell (by omega), xu_cell (by omega), nc5.1 (D + 7) (by omega)]
    · rw [← hZ, xu_cell (by omega), xu_cell (by omega), z4.1 107 (by omega), w10, xu_cell (by omega), w9.1 107 (by omega), u10, xu_at]
    · intro i hi; rw [← hZ, xu_cell (by omega), xu_cell (by omega), z4.1 107 (by omega), w10, xu_cell (by omega), w9.1 107 (by omega), u10, xu_at2 hi, u9.1 107 (by omega), s10, xu_cell (by omega), s9.1 107 (by omega), kR 107 (by omega) (by omega)]
    · rw [z3.1 (D + 8) (by omega), ← hA, xu_cell (by omega), xu_cell (by omega), xu_at]
    · intro i hi; rw [z3.1 (D + 8) (by omega), ← hA, xu_cell (by omega), xu_cell (by omega), xu_at2 hi, xu_cell (by omega), xu_cell (by omega), xu_cell (by omega), nc5.1 (D + 8) (by omega)]
    · rw [← hZ, xu_cell (by omega), xu_cell (by omega), z4.1 108 (by omega), w10, xu_at]
    · intro i hi; rw [← hZ, xu_cell (by omega), xu_cell (by omega), z4.1 108 (by omega), w10, xu_at2 hi, w9.1 108 (by omega), u10, xu_cell (by omega), u9.1 108 (by omega), s10, xu_cell (by omega), s9.1 108 (by omega), kR 108 (by omega) (by omega)]
    · rw [z3.1 (D + 9) (by omega), ← hA, xu_cell (by omega), xu_at]
    · intro i hi; rw [z3.1 (D + 9) (by omega), ← hA, xu_cell (by omega), xu_at2 hi, xu_cell (by omega), xu_cell (by omega), xu_cell (by omega), xu_cell (by omega), nc5.1 (D + 9) (by omega)]
    · rw [← hZ, xu_cell (by omega), xu_at]
    · intro i hi; rw [← hZ, xu_cell (by omega), xu_at2 hi, z4.1 109 (by omega), mK 109 (by omega) (by omega) (by omega) (by omega) (by omega)]
    · intro k hk; rw [z3.1 D (by omega), ← hA, xu_at2 hk, xu_cell (by omega), xu_cell (by omega), xu_cell (by omega), xu_cell (by omega), xu_cell (by omega), nc5.1 D (by omega)]
    · intro k hk; rw [← hZ, xu_at2 hk, xu_cell (by omega), z4.1 101 (by omega), mK 101 (by omega) (by omega) (by omega) (by omega) (by omega)]
  have fcA : FRC D I A := by
    rw [← hA]
    exact frc_trans (frc_nc nc5) (frc_trans (frc_trans (frc_trans (frc_trans (frc_trans (frc_xu (by omega)) (frc_xu (by omega))) (frc_xu (by omega))) (frc_xu (by omega))) (frc_xu (by omega))) (frc_xu (by omega)))
  refine ⟨nw + 1, nb, nr, tp, p6, a6', t6, I6, Z, ?_, by rw [hYk, e1, e2, e3, e4], ⟨tk_congr z5 (fun _ _ => rfl) rfl rfl (fun j _ _ => z99 j) (by rw [← hZ, xu_off (by omega), xu_off (by omega)]), hP2, ?_, ?_, ?_, ?_, ?_, ?_, ?_, ?_, ?_, ?_⟩, by omega, frc_trans fcA (frc_nc z3), ?_⟩
  · unfold f_X6_readWalker
    simp only [hg42, hg40, Option.bind_some, gI_of (sp_0 hD), if_pos e6, on_of sA_40, q1, gI_of sA_40, on_of (sp_0 hD), enm, hnm, on_of sA_42, x3, one_ne, if_false, ↓reduceIte, r1, cT2, s5, s4, s7, u5, u4, u7, w5, w4, w7, y6, y4, had, z1]
  · rw [c99 26 (by omega) (by omega)]; exact ln_f0 h
  · rw [c99 27 (by omega) (by omega)]; exact ln_f1 h
  · rw [i40 3 (by omega)]; exact ln_g0 h
  · rw [i40 4 (by omega)]; exact ln_g1 h
  · rw [c99 20 (by omega) (by omega)]; exact ln_li h
  · rw [c99 30 (by omega) (by omega)]; exact ln_op h
  · rw [c99 31 (by omega) (by omega), cI (D + 13) (by omega) (by omega) (by omega)]; exact ln_mk h
  · rw [cI 42 (by omega) (by omega) (by omega), c19]; exact told_or (by omega) (ln_tn h)
  · intro k hk
    rw [cI 42 (by omega) (by omega) (by omega), c19, cI (D + 13) (by omega) (by omega) (by omega), told_or2 (by omega) hk]; exact ln_tl h k hk
  · intro k hk hb'
    rw [cI (D + 13) (by omega) (by omega) (by omega)] at hb' ⊢
    rw [zR 114 (by omega) (by omega) (by omega)]; exact ln_tb h k hk hb'
  · rw [← hZ]; exact frm_trans (frm_trans fm5 (frm_nm z4)) (frm_trans (frm_6 (by omega) (by omega) (by omega)) (frm_101 (by omega)))

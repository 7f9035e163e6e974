/-! LEVEL 2: text. Lines: laws -/
theorem post_congr {so va so' va' : Nat → Int32} : ∀ n i h, (∀ j, i ≤ j → j < i + n → so' j = so j ∧ va' j = va j) → post so va i n h → post so' va' i n h := by
  intro n
  induction n with
  | zero => intro i h _ z; exact z
  | succ n ih =>
    intro i h e z
    obtain ⟨e1, e2⟩ := e i (by omega) (by omega)
    have e' : ∀ j, i + 1 ≤ j → j < i + 1 + n → so' j = so j ∧ va' j = va j := fun j j1 j2 => e j (by omega) (by omega)
    unfold post at z ⊢
    rw [e1, e2]
    by_cases c : so i = 2
    · rw [if_pos c] at z ⊢
      by_cases c2 : va i = 260
      · rw [if_pos c2] at z ⊢; exact ⟨z.1, ih _ _ e' z.2⟩
      · rw [if_neg c2] at z ⊢; exact ⟨z.1, ih _ _ e' z.2⟩
    · rw [if_neg c] at z ⊢; exact ih _ _ e' z
theorem pr_law {D nw nb nr tp a y q : Nat} {I J I' J' : Nat → Nat → Int32} (h : PR D 1 nw nb nr tp I J) (hq : q < 3) (ha : I (D + 13) 1 = nI a) (hy : a < y) (hy2 : y ≤ 64) (tb : ∀ k, k < 3 → bt (I (D + 13) 4) k = true → ∃ b z, I (D + 13) 1 = nI z ∧ b ≤ z ∧ z ≤ 64 ∧ J 114 (3 + k) = nI b) (e0 : I' (D + 13) 0 = nI y) (e1 : I' (D + 13) 1 = nI y) (e4 : I' (D + 13) 4 = I (D + 13) 4 ||| ((1 : Int32) <<< (nI q &&& 31))) (i16 : I' (D + 16) q = nI a) (i16o : ∀ i, i ≠ q → I' (D + 16) i = I (D + 16) i) (i17 : I' (D + 17) q = nI y) (i17o : ∀ i, i ≠ q → I' (D + 17) i = I (D + 17) i) (n15 : J' 101 15 = nI y) (j113 : J' 113 (3 + q) = nI a) (j113o : ∀ i, i ≠ 3 + q → J' 113 i = J 113 i) (j114 : J' 114 (3 + q) = nI y) (j114o : ∀ i, i ≠ 3 + q → J' 114 i = J 114 i) (r14 : ∀ i, i < a → I' (D + 14) i = I (D + 14) i ∧ I' (D + 15) i = I (D + 15) i) (r115 : ∀ i, i < a → J' 115 (64 + i) = J 115 (64 + i) ∧ J' 116 (64 + i) = J 116 (64 + i)) (km : ∀ i, a ≤ i → i < y → KM D I' J' i) (hgg : HG J' a (y - a) 0 1) (cD : ∀ k, I' D k = I D k) (cR : ∀ j, 1 ≤ j → j < 13 → I' (D + j) = I (D + j)) (mN : ∀ k, k ≠ 15 → J' 101 k = J 101 k) (mR : ∀ q, 102 ≤ q → q ≤ 112 → J' q = J q) : PR D 1 nw nb nr tp I' J' := by
  refine ⟨pr_pl h, pr_w6 h, pr_b8 h, pr_r12 h, pr_t2 h, pr_t60 h, (by apply cD <;> omega : I' D 0 = I D 0).trans (pr_cT h), (by apply cD <;> omega : I' D 4 = I D 4).trans (pr_cB h), (by apply cD <;> omega : I' D 9 = I D 9).trans (pr_cW h), (by apply cD <;> omega : I' D 15 = I D 15).trans (pr_cR h), (by apply mN <;> omega : J' 101 8 = J 101 8).trans (pr_mT h), (by apply mN <;> omega : J' 101 9 = J 101 9).trans (pr_mB h), (by apply mN <;> omega : J' 101 10 = J 101 10).trans (pr_mW h), (by apply mN <;> omega : J' 101 11 = J 101 11).trans (pr_mR h), (by obtain ⟨x, x1, x2, x3⟩ := pr_pi h; exact ⟨x, x1, (by apply mN <;> omega : J' 101 12 = J 101 12).trans x2, (by apply cD <;> omega : I' D 1 = I D 1).trans x3⟩), (by obtain ⟨x, x1, x2, x3⟩ := pr_ca h; exact ⟨x, x1, (by apply mN <;> omega : J' 101 13 = J 101 13).trans x2, (by apply cD <;> omega : I' D 2 = I D 2).trans x3⟩), (by obtain ⟨x, x1, x2, x3⟩ := pr_se h; exact ⟨x, x1, (by apply mN <;> omega : J' 101 14 = J 101 14).trans x2, (by apply cD <;> omega : I' D 3 = I D 3).trans x3⟩), ?_, (by rw [(by apply cR <;> omega : I' (D + 1) = I (D + 1)), (by apply mR <;> omega : J' 102 = J 102)]; exact pr_bn h), (by rw [(by apply cR <;> omega : I' (D + 2) = I (D + 2)), (by apply mR <;> omega : J' 103 = J 103)]; exact pr_bs h), (by rw [(by apply mR <;> omega : J' 103 = J 103)]; exact pr_br h), (by rw [(by apply mR <;> omega : J' 103 = J 103)]; exact pr_bd h), (by rw [(by apply cR <;> omega : I' (D + 3) = I (D + 3)), (by apply mR <;> omega : J' 104 = J 104)]; exact pr_bc h), (by rw [(by apply cR <;> omega : I' (D + 4) = I (D + 4)), (by apply mR <;> omega : J' 103 = J 103)]; exact pr_ba h), (by rw [(by apply cR <;> omega : I' (D + 5) = I (D + 5)), (by apply mR <;> omega : J' 105 = J 105)]; exact pr_wn h), (by rw [(by apply cR <;> omega : I' (D + 6) = I (D + 6)), (by apply mR <;> omega : J' 106 = J 106)]; exact pr_ws h), (by rw [(by apply cR <;> omega : I' (D + 7) = I (D + 7)), (by apply mR <;> omega : J' 107 = J 107)]; exact pr_wd h), (by rw [(by apply cR <;> omega : I' (D + 8) = I (D + 8)), (by apply mR <;> omega : J' 108 = J 108)]; exact pr_wp h), (by rw [(by apply cR <;> omega : I' (D + 9) = I (D + 9)), (by apply mR <;> omega : J' 109 = J 109)]; exact pr_wm h), (by rw [(by apply cR <;> omega : I' (D + 10) = I (D + 10)), (by apply mR <;> omega : J' 110 = J 110), (by apply cR <;> omega : I' (D + 11) = I (D + 11)), (by apply mR <;> omega : J' 111 = J 111), (by apply cR <;> omega : I' (D + 12) = I (D + 12)), (by apply mR <;> omega : J' 112 = J 112)]; exact pr_rr h), (by rw [(by apply mR <;> omega : J' 112 = J 112)]; exact pr_rm h), ?_⟩
  · exact ⟨y, hy2, n15, e0, e1⟩
  · intro k hk
    have hb : bt (I' (D + 13) 4) k = (bt (I (D + 13) 4) k || decide (k = q)) := by rw [e4, b_or1 _ (by omega) (by omega)]
    by_cases c : k = q
    · subst c
      rw [decide_eq_true rfl, Bool.or_true] at hb
      exact Or.inr ⟨hb, a, y, hy, hy2, i16, i17, j113, j114, fun i i1 i2 => km i i1 i2, hg_post (y - a) a 0 hgg⟩
    · rw [decide_eq_false c, Bool.or_false] at hb
      rcases pr_lw h k hk with ⟨z1, z2⟩ | ⟨z1, x, b, z2, z3, z4, z5, z6, z7, z8, z9⟩
      · refine Or.inl ⟨hb.trans z1, ?_⟩
        rw [j113o (3 * 1 + k) (by omega), j114o (3 * 1 + k) (by omega)]; exact z2
      · obtain ⟨b', z, y1, y2, y3, y4⟩ := tb k hk z1
        have hba : b ≤ a := by
          have w1 : z = a := (nI_eq (by omega) (by omega)).mp (y1.symm.trans ha)
          have w2 : b = b' := (nI_eq (by omega) (by omega)).mp (z7.symm.trans y4)
          omega
        refine Or.inr ⟨hb.trans z1, x, b, z2, z3, (i16o k c).trans z4, (i17o k c).trans z5, ?_, ?_, fun i i1 i2 => ?_, ?_⟩
        · rw [j113o (3 * 1 + k) (by omega)]; exact z6
        · rw [j114o (3 * 1 + k) (by omega)]; exact z7
        · have w := z8 i i1 i2
          obtain ⟨v1, v2⟩ := r14 i (by omega)
          obtain ⟨v3, v4⟩ := r115 i (by omega)
          have v3 : J' 115 (64 * 1 + i) = J 115 (64 * 1 + i) := v3
          have v4 : J' 116 (64 * 1 + i) = J 116 (64 * 1 + i) := v4
          rw [v1, v2, v3, v4]; exact w
        · exact post_congr (b - x) x 0 (fun j j1 j2 => r115 j (by omega)) z9
theorem rl_law {P P' : Nat} {L L' : Nat → Nat → Int64} {R R' : Nat → Nat → Option Nat} (hR : ∀ I, RefOK (I, L, R) P) (hR' : ∀ I, RefOK (I, L', R') P') {n : Nat} {B : Nat → Nat} {D li nw nb nr tp p a t : Nat} {I J : Nat → Nat → Int32} (hD : isPl D) (hRD : R 42 2 = some D) (h : LN D n B li nw nb nr tp p a t I J) (ht : t = 7) : RES L R L' R' n B D li p I J (f_X6_readLaw shA 42 (I, L, R)) (k_X10_line_85 shA 99 (nI 7) (J, L', R')) := by
  have hpr := isPl_le hD
  have hP := ln_pr h
  have hg42 : ∀ X : Nat → Nat → Int32, xgR 6 shA (X, L, R) 42 2 = some D := fun X => gR_of sA_42 hRD
  have hg40 : ∀ X : Nat → Nat → Int32, xgR 6 shA (X, L, R) 42 0 = some 40 := fun X => gR_of sA_42 (rf_42_0 (hR X))
  have hg43 : ∀ X : Nat → Nat → Int32, xgR 6 shA (X, L, R) 42 1 = some 43 := fun X => gR_of sA_42 (rf_42_1 (hR X))
  have hgD : ∀ X : Nat → Nat → Int32, xgR 3 shA (X, L, R) D 19 = some (D + 13) := fun X => gR_of (sp_0 hD) (rp_19 (hR X) hD)
  have p42 : ∀ (d : xD) (v : Int32), xpI 6 shA d 42 3 v = some (xu d.1 42 3 v, d.2.1, d.2.2) := fun d v => pI_of sA_42 rfl
  obtain ⟨I1, J1, p1, a1, t1, q1, q2, q3, q4, q5, q6⟩ := adv0 hR hR' (ln_tk h) (show t ≠ 36 by omega) (I1 := I) (J1 := xu J 99 19 (J 99 19 ||| ((1 : Int32) <<< (nI 7 &&& 31)))) (fun _ _ => rfl) rfl rfl (fun j j1 j2 => xu_at2 (by omega)) (xu_off (by omega))
  have f0 : J1 99 26 = 0 := (q4.2 26 (by omega)).trans ((xu_at2 (by omega)).trans (ln_f0 h))
  have fm1 : FRM J J1 := frm_trans (frm_99 (by omega)) (frm_nm q4)
  have jR : ∀ q, q ≠ 99 → J1 q = J q := fun q hq => by rw [q4.1 q hq, xu_off hq]
  have t37 := tk_t37 q5; have tt1 := tk_tt q5
  have hY : k_X10_line_85 shA 99 (nI 7) (J, L', R') = (f_X10_lawLine shA 99 (J1, L', R')).bind fun d87 => k_X10_line_521 shA 99 d87 := by
    unfold k_X10_line_85
    rw [gI_of sA_99, Option.bind_some]
    dsimp only
    rw [if_pos (ln_f0 h), gI_of sA_99, Option.bind_some, pM_19, Option.bind_some, on_of sA_99]
    dsimp only
    rw [q2, Option.bind_some, if_neg (show ¬ nI 7 = (0 : Int32) by decide), if_neg (show ¬ nI 7 = (1 : Int32) by decide), if_neg (show ¬ nI 7 = (2 : Int32) by decide), if_neg (show ¬ nI 7 = (3 : Int32) by decide), if_neg (show ¬ nI 7 = (4 : Int32) by decide), if_neg (show ¬ nI 7 = (5 : Int32) by decide), if_neg (show ¬ nI 7 = (6 : Int32) by decide), on_of sA_99]
  have k65F : ∀ (K : Nat → Nat → Int32) (x : Int32), K 99 26 ≠ 0 → k_X10_lawLine_65 shA 99 x (K, L', R') = some (K, L', R') := fun K x hK => by
    unfold k_X10_lawLine_65
    simp only [gI_of sA_99, Option.bind_some, if_neg hK]
  have r1n : rfM 1 J1 99 26 ≠ 0 := by rw [rfM_26]; decide
  have r3n : rfM 3 J1 99 26 ≠ 0 := by rw [rfM_26]; decide
  have k25 : k_X10_lawLine_25 shA 99 (J1, L', R') = some (rfM 1 J1, L', R') := by
    unfold k_X10_lawLine_25 k_X10_lawLine_30
    simp only [on_of sA_99, m_wrong _ f0, Option.bind_some, gI_of sA_99, if_neg r1n, k65F _ _ r1n]
  by_cases cr : 8 ≤ t1 ∧ t1 ≤ 10
  · obtain ⟨q, rfl⟩ : ∃ q, t1 = 8 + q := ⟨t1 - 8, by omega⟩
    have hq : q < 3 := by omega
    obtain ⟨so1, va1⟩ := (t_word tt1 (w := 8 + q) (by omega)).mpr rfl
    have n8 : ¬ nI (8 + q) < (8 : Int32) := nI_nlt (b := 8) (by omega) (by omega)
    have n10 : nI (8 + q) ≤ (10 : Int32) := nI_le (b := 10) (by omega) (by omega)
    have sub8 : nI (8 + q) - (8 : Int32) = nI q := by rw [show nI (8 + q) - (8 : Int32) = nI (8 + q - 8) from pk_sub (b := 8) (by omega), Nat.add_sub_cancel_left]
    have a16 : (16 : Int32) + nI q = nI (16 + q) := nI_add 16 q
    have tl1 : bt (J1 99 19) (16 + q) = bt (I 42 3) (8 + q) := by rw [q4.2 19 (by omega), xu_at, told_or2 (by omega) hq]; exact (ln_tl h q hq).1.symm
    have hL : f_X10_lawLine shA 99 (J1, L', R') = if bt (I 42 3) (8 + q) = true then some (rfM 3 J1, L', R') else k_X10_lawLine_65 shA 99 (nI q) (J1, L', R') := by
      unfold f_X10_lawLine k_X10_lawLine_30
      simp only [gI_of sA_99, Option.bind_some, so1, va1, ↓reduceIte, if_neg n8, if_pos n10, sub8, a16, bi1 _ (show 16 + q < 32 by omega), on_of sA_99, m_wrong _ f0, k65F _ _ r3n, f0, tl1]
      by_cases c : bt (I 42 3) (8 + q) = true
      · rw [if_pos c, if_pos rfl, if_pos c]
      · rw [if_neg c, if_neg (by decide), if_neg c]
    have i42 : I1 42 3 = I 42 3 := by rw [q3.1 42 (by omega)]
    have hFT : f_X6_isFirstTime shA 42 (nI (8 + q)) (I1, L, R) = if bt (I 42 3) (8 + q) = true then some (0, (rfC 3 I1, L, R)) else some (1, (xu I1 42 3 (I 42 3 ||| ((1 : Int32) <<< (nI (8 + q) &&& 31))), L, R)) := by
      unfold f_X6_isFirstTime
      simp only [gI_of sA_42, Option.bind_some, i42, bi1 _ (show 8 + q < 32 by omega), hg40, on_of sA_40, c_refuse, p42]
      by_cases c : bt (I 42 3) (8 + q) = true
      · rw [if_pos c, if_pos rfl, if_pos c]; rfl
      · rw [if_neg c, if_neg (by decide), if_neg c]
    by_cases cT : bt (I 42 3) (8 + q) = true
    · left
      rw [if_pos cT] at hL hFT
      refine ⟨rfC 3 I1, rfM 3 J1, ?_, by rw [hY, hL, Option.bind_some, h521F r3n], ft_of (by decide) (tk_cp q5) (tk_mp q5), frc_rf (frc_nc q3), frm_rf fm1⟩
      unfold f_X6_readLaw
      simp only [hg40, Option.bind_some, on_of sA_40, q1, gI_of sA_40, tk_ct q5, if_neg n8, if_pos n10, on_of sA_42, hFT, ↓reduceIte]
    rw [if_neg cT] at hL hFT
    generalize hI2a : xu I1 42 3 (I 42 3 ||| ((1 : Int32) <<< (nI (8 + q) &&& 31))) = I2a at hFT
    generalize hJ1a : xu J1 99 19 (J1 99 19 ||| ((1 : Int32) <<< (nI (16 + q) &&& 31))) = J1a
    have o2a : ∀ x, x ≠ 42 → I2a x = I1 x := fun x hx => by rw [← hI2a, xu_off hx]
    obtain ⟨I2, J2, p2, a2, t2, r1, r2, r3, r4, r5, r6⟩ := adv0 hR hR' q5 (show 8 + q ≠ 36 by omega) (I1 := I2a) (J1 := J1a) (fun _ _ => by rw [o2a 40 (by omega)]) (o2a 1 (by omega)) (o2a 41 (by omega)) (fun j j1 j2 => by rw [← hJ1a, xu_at2 (by omega)]) (by rw [← hJ1a, xu_off (by omega)])
    obtain ⟨a0, ha64, mKn, cK0, cK1⟩ := pr_kn hP
    have mKn : J 101 15 = nI a0 := mKn
    have iR : ∀ x, x ≠ 40 → x ≠ 42 → I2 x = I x := fun x c1 c2 => by rw [r3.1 x c1, o2a x c2, q3.1 x c1]
    have jR2 : ∀ x, x ≠ 99 → J2 x = J x := fun x c1 => by rw [r4.1 x c1, ← hJ1a, xu_off c1, jR x c1]
    have j99 : ∀ j, (j < 22 ∨ 25 < j) → j ≠ 19 → J2 99 j = J 99 j := fun j c1 c2 => by rw [r4.2 j c1, ← hJ1a, xu_at2 c2, q4.2 j c1, xu_at2 c2]
    have j19 : J2 99 19 = (J 99 19 ||| ((1 : Int32) <<< (nI 7 &&& 31))) ||| ((1 : Int32) <<< (nI (16 + q) &&& 31)) := by rw [r4.2 19 (by omega), ← hJ1a, xu_at, q4.2 19 (by omega), xu_at]
    have i40 : ∀ j, j = 3 ∨ j = 4 → I2 40 j = I 40 j := fun j c => by rw [r3.2 j (by omega) (by omega) (by omega) (by omega), o2a 40 (by omega), q3.2 j (by omega) (by omega) (by omega) (by omega)]
    -- both sides stand before the expression
    generalize hI3 : xu I2 (D + 16) q (nI a0) = I3
    generalize hI4 : xu (xu (xu (xu I3 43 2 0) 43 3 0) 43 4 1) 43 5 1 = I4
    generalize hJ3 : xu J2 113 (3 + q) (nI a0) = J3
    have i4R : ∀ x, x ≠ 43 → x ≠ D + 16 → I4 x = I2 x := fun x c1 c2 => by rw [← hI4, xu_off c1, xu_off c1, xu_off c1, xu_off c1, ← hI3, xu_off c2]
    have j3R : ∀ x, x ≠ 113 → J3 x = J2 x := fun x c1 => by rw [← hJ3, xu_off c1]
    have hO : OKS n B D 0 a0 a0 0 0 0 a0 (fun _ => 0) p2 t2 I4 J3 := by
      refine ⟨a2, tk_congr r5 (fun j _ => by rw [i4R 40 (by omega) (by omega)]) (i4R 1 (by omega) (by omega)) (i4R 41 (by omega) (by omega)) (fun j _ _ => by rw [j3R 99 (by omega)]) (j3R 100 (by omega)), ⟨?_, ?_, ?_, ?_, ha64, ?_, ?_, ?_, ?_, ?_, ?_, ?_, by omega, by omega, by omega, fun i hi => by omega, fun i i1 i2 => by omega, fun j hj => by omega⟩, rfl, by omega⟩
      · rw [j3R 99 (by omega), j99 26 (by omega) (by omega)]; exact ln_f0 h
      · rw [j3R 99 (by omega), j99 27 (by omega) (by omega)]; exact ln_f1 h
      · rw [i4R 40 (by omega) (by omega), i40 3 (by omega)]; exact ln_g0 h
      · rw [i4R 40 (by omega) (by omega), i40 4 (by omega)]; exact ln_g1 h
      · rw [i4R (D + 13) (by omega) (by omega), iR (D + 13) (by omega) (by omega)]; exact cK0
      · rw [j3R 99 (by omega), j99 31 (by omega) (by omega), ln_mk h]; exact cK0
      · rw [i4R (D + 13) (by omega) (by omega), iR (D + 13) (by omega) (by omega)]; exact cK1
      · rw [j3R 101 (by omega), jR2 101 (by omega)]; exact mKn
      · rw [← hI4, xu_at2 (by omega), xu_at2 (by omega), xu_at2 (by omega), xu_at]; rfl
      · rw [← hI4, xu_at2 (by omega), xu_at2 (by omega), xu_at]; rfl
      · rw [j3R 99 (by omega), j99 30 (by omega) (by omega), ln_op h]; rfl
    have h43 : I4 43 4 = 1 := by rw [← hI4, xu_at2 (by omega), xu_at]
    have h53 : I4 43 5 = 1 := by rw [← hI4, xu_at]
    have hrd : f_X0_read shA 43 (D + 13) (I3, L, R) = LRD L R D 0 I4 := by
      unfold f_X0_read LRD
      rw [pL_2, Option.bind_some, pL_3, Option.bind_some, pL_4 (Or.inr rfl), Option.bind_some, pL_5 (Or.inr rfl), Option.bind_some]
      dsimp only
      rw [hI4]
      rfl
    have hop : f_X1_open shA (D + 13) (nI q) (I2, L, R) = some (I3, L, R) := by
      unfold f_X1_open
      rw [gR_of (sp_13 hD) (rl_5 (hR _) hD), Option.bind_some, gI_of (sp_13 hD), Option.bind_some]
      dsimp only
      rw [iR (D + 13) (by omega) (by omega), cK1, sI_of (sp_16 hD) hq (by omega), Option.bind_some, hI3]
    have fr7 : ∀ K : Nat → Nat → Int32, f_X10_fresher shA 99 (7 : Int32) (K, L', R') = some (K 101 15, (K, L', R')) := fun K => m_fresher hR' (i := 7) (by omega)
    have a3 : (3 : Int32) + nI q = nI (3 + q) := nI_add 3 q
    have hL2 : k_X10_lawLine_65 shA 99 (nI q) (J1, L', R') = (f_X10_expression shA 99 (J3, L', R')).bind fun d8 => (xgR 10 shA d8 99 16).bind fun v9 => (xon 10 shA 99 (f_X10_fresher shA 99 (7 : Int32) d8)).bind fun z10 => (xsI .int shA z10.2 v9 ((3 : Int32) + nI q) z10.1).bind fun d11 => some d11 := by
      unfold k_X10_lawLine_65
      rw [gI_of sA_99, Option.bind_some]
      dsimp only
      rw [if_pos f0, gI_of sA_99, Option.bind_some, pM_19, Option.bind_some, on_of sA_99]
      dsimp only
      rw [a16, hJ1a, r2, Option.bind_some, gR_of sA_99 (rf_99_15 (hR' _)), Option.bind_some, on_of sA_99, fr7, Option.bind_some]
      dsimp only
      rw [a3, sI_of sA_113 (by omega) (by omega), Option.bind_some, on_of sA_99]
      dsimp only
      rw [jR2 101 (by omega), mKn, hJ3]
    have fc4 : FRC D I I4 := by
      have z1 : FRC D I I2 := by rw [← hI2a] at r3; exact frc_trans (frc_nc q3) (frc_trans (frc_xu (by omega)) (frc_nc r3))
      rw [← hI4, ← hI3]
      exact frc_trans z1 (frc_trans (frc_trans (frc_trans (frc_trans (frc_xu (by omega)) (frc_xu (by omega))) (frc_xu (by omega))) (frc_xu (by omega))) (frc_xu (by omega)))
    have fm3 : FRM J J3 := by
      have z1 : FRM J J2 := by rw [← hJ1a] at r4; exact frm_trans fm1 (frm_trans (frm_99 (by omega)) (frm_nm r4))
      rw [← hJ3]
      exact frm_trans z1 (frm_xu (by omega) (by omega) (Nat.le_trans (by decide : hfR 113 ≤ 3) (by omega)))
    have hXc : ∀ z : Int32 × xD, LRD L R D 0 I4 = some z → f_X6_readLaw shA 42 (I, L, R) = if z.1 = 0 then some (0, z.2) else ((xgR 6 shA z.2 42 2).bind fun v18 => (xgR 3 shA z.2 v18 19).bind fun v19 => (xon 1 shA v19 (f_X1_close shA v19 (nI q) z.2)).bind fun d20 => some ((1 : Int32), d20)) := fun z hz => by
      unfold f_X6_readLaw
      simp only [hg40, hg42, hg43, hgD, Option.bind_some, on_of sA_40, q1, gI_of sA_40, tk_ct q5, if_neg n8, if_pos n10, on_of sA_42, hFT, one_ne, if_false, r1, sub8, on_of (sp_13 hD), hop, on_of sA_43, hrd, hz]
    have f114 : ∀ (K : Nat → Nat → Int32) (v : Int32), FRM K (xu K 114 (3 + q) v) := fun K v => frm_xu (by omega) (by omega) (Nat.le_trans (by decide : hfR 114 ≤ 3) (by omega))
    have hL3 : ∀ K : Nat → Nat → Int32, f_X10_expression shA 99 (J3, L', R') = some (K, L', R') → k_X10_line_85 shA 99 (nI 7) (J, L', R') = k_X10_line_521 shA 99 (xu K 114 (3 + q) (K 101 15), L', R') := fun K hK => by
      rw [hY, hL, hL2, hK, Option.bind_some, gR_of sA_99 (rf_99_16 (hR' _)), Option.bind_some, on_of sA_99, fr7, Option.bind_some]
      dsimp only
      rw [a3, sI_of sA_114 (by omega) (by omega), Option.bind_some, Option.bind_some]
    rcases sp_expression (n := n) (B := B) hR hR' hD 0 a0 a0 0 0 a0 (fun _ => 0) p2 t2 I4 J3 hO h43 (fun _ => h53) (fun c => by omega) (fun c => by omega) (by omega) (Nat.le_refl _) with ⟨I5, J5, b1, b2, b3, b4, b5⟩ | ⟨i5, k5, z5, r5', S5, p5, t5, I5, J5, b1, b2, b3, b4, b5, b6, b7, b8, b9, b10, b11, b12, b13⟩
    · left
      refine ⟨I5, xu J5 114 (3 + q) (J5 101 15), ?_, ?_, ft_xu (by omega) b5, frc_trans fc4 (frc_lfc b3), frm_trans (frm_trans fm3 (frm_lfm b4)) (f114 _ _)⟩
      · rw [hXc _ b1]; rfl
      · rw [hL3 J5 b2, h521F (by rw [xu_cell (by omega)]; exact b5.2.2)]
    · by_cases c23 : t5 = 23
      · right
        obtain ⟨a5, c1, c2, c3, c4⟩ := b3
        have h7 := tb_n7 (tk_tb c1); have han := tk_an c1; have hpa := (tk_pa c1).1
        obtain ⟨I6, x1, x2, x3, x4, x5, x6⟩ := lk_rel hR hD c2 (lo := 1) (by omega) (fun j hj => (lk_pn c2 j hj).2.2) (fun w => by omega)
        have x1 : f_X0_release shA 43 (D + 13) (1 : Int32) (I5, L, R) = some (I6, L, R) := x1
        have hend := lp_end hR (D := D) (i := i5) (by omega) b4 (lk_co c2) (by rw [tk_ct c1, c23]; rfl) x1
        obtain ⟨y, hy⟩ : ∃ y, y = z5 + r5' := ⟨_, rfl⟩
        have hk5 : k5 = y := by omega
        rw [← hy] at x2
        have hya : a0 < y := by
          rcases Nat.lt_or_ge a0 y with w | w
          · exact w
          · exfalso
            have w2 := b13 0
            rw [show z5 + r5' - a0 = 0 by omega] at w2
            unfold HG hg at w2
            omega
        have hy64 := lk_k64 x2
        have lf : LFC D a0 I4 I6 := lfc_trans b11 (lfc_le x3 b10) (Nat.le_refl _)
        generalize hA : xu (xu I6 (D + 17) q (nI y)) (D + 13) 4 (I (D + 13) 4 ||| ((1 : Int32) <<< (nI q &&& 31))) = A
        generalize hZ : xu J5 114 (3 + q) (nI y) = Z
        have i64 : I6 (D + 13) 4 = I (D + 13) 4 := by rw [lf.2.1 4 (by omega) (by omega), i4R (D + 13) (by omega) (by omega), iR (D + 13) (by omega) (by omega)]
        have hcl : f_X1_close shA (D + 13) (nI q) (I6, L, R) = some (A, L, R) := by
          unfold f_X1_close
          rw [gR_of (sp_13 hD) (rl_6 (hR _) hD), Option.bind_some, gI_of (sp_13 hD), Option.bind_some]
          dsimp only
          rw [lk_cz x2, sI_of (sp_17 hD) hq (by omega), Option.bind_some, gI_of (sp_13 hD), Option.bind_some, show ∀ (d : xD) (v : Int32), xpI 1 shA d (D + 13) 4 v = some (xu d.1 (D + 13) 4 v, d.2.1, d.2.2) from fun d v => pI_of (sp_13 hD) rfl, Option.bind_some]
          dsimp only
          rw [xu_cell (by omega), i64, hA]
        have aR : ∀ x, x ≠ D + 13 → x ≠ D + 17 → A x = I6 x := fun x e1 e2 => by rw [← hA, xu_off e1, xu_off e2]
        have a13 : ∀ j, j ≠ 4 → A (D + 13) j = I6 (D + 13) j := fun j e => by rw [← hA, xu_at2 e, xu_cell (by omega)]
        have cI : ∀ x, x ≠ 40 → x ≠ 42 → x ≠ 43 → x ≠ 44 → x ≠ D + 13 → x ≠ D + 14 → x ≠ D + 15 → x ≠ D + 16 → x ≠ D + 17 → A x = I x := fun x e1 e2 e3 e4 e5 e6 e7 e8 e9 => by rw [aR x e5 e9, lf.1 x e1 e3 e4 e5 e6 e7, i4R x e3 e8, iR x e1 e2]
        have zRw : ∀ x, x ≠ 99 → x ≠ 101 → x ≠ 113 → x ≠ 114 → x ≠ 115 → x ≠ 116 → Z x = J x := fun x e1 e2 e3 e4 e5 e6 => by rw [← hZ, xu_off e4, b12.1 x e1 e2 e5 e6, j3R x e3, jR2 x e1]
        have z99 : ∀ j, Z 99 j = J5 99 j := fun j => by rw [← hZ, xu_cell (by omega)]
        have c99 : ∀ j, (j < 22 ∨ 31 < j) → j ≠ 19 → Z 99 j = J 99 j := fun j e1 e2 => by rw [z99, b12.2.1 j (by omega), j3R 99 (by omega), j99 j (by omega) e2]
        have c19 : Z 99 19 = (J 99 19 ||| ((1 : Int32) <<< (nI 7 &&& 31))) ||| ((1 : Int32) <<< (nI (16 + q) &&& 31)) := by rw [z99, b12.2.1 19 (by omega), j3R 99 (by omega), j19]
        have c42 : A 42 3 = I 42 3 ||| ((1 : Int32) <<< (nI (8 + q) &&& 31)) := by rw [aR 42 (by omega) (by omega), lf.1 42 (by omega) (by omega) (by omega) (by omega) (by omega) (by omega), i4R 42 (by omega) (by omega), r3.1 42 (by omega), ← hI2a, xu_at]
        have my5 : J5 101 15 = nI y := by rw [hy]; exact lk_my c2
        have hP2 : PR D 1 nw nb nr tp A Z := by
          refine pr_law (a := a0) (y := y) (q := q) hP hq cK1 hya (by omega) (ln_tb h) ?_ ?_ ?_ ?_ ?_ ?_ ?_ ?_ ?_ ?_ ?_ ?_ ?_ ?_ ?_ ?_ ?_ ?_ ?_ ?_
          · rw [a13 0 (by omega), lk_ck x2, hk5]
          · rw [a13 1 (by omega), lk_cz x2]
          · rw [← hA, xu_at]
          · rw [aR (D + 16) (by omega) (by omega), lf.1 (D + 16) (by omega) (by omega) (by omega) (by omega) (by omega) (by omega), ← hI4, xu_cell (by omega), xu_cell (by omega), xu_cell (by omega), xu_cell (by omega), ← hI3, xu_at]
          · intro i hi; rw [aR (D + 16) (by omega) (by omega), lf.1 (D + 16) (by omega) (by omega) (by omega) (by omega) (by omega) (by omega), ← hI4, xu_cell (by omega), xu_cell (by omega), xu_cell (by omega), xu_cell (by omega), ← hI3, xu_at2 hi, iR (D + 16) (by omega) (by omega)]
          · rw [← hA, xu_cell (by omega), xu_at]
          · intro i hi; rw [← hA, xu_cell (by omega), xu_at2 hi, lf.1 (D + 17) (by omega) (by omega) (by omega) (by omega) (by omega) (by omega), i4R (D + 17) (by omega) (by omega), iR (D + 17) (by omega) (by omega)]
          · rw [← hZ, xu_cell (by omega), my5]
          · rw [← hZ, xu_cell (by omega), b12.1 113 (by omega) (by omega) (by omega) (by omega), ← hJ3, xu_at]
          · intro i hi; rw [← hZ, xu_cell (by omega), b12.1 113 (by omega) (by omega) (by omega) (by omega), ← hJ3, xu_at2 hi, jR2 113 (by omega)]
          · rw [← hZ, xu_at]
          · intro i hi; rw [← hZ, xu_at2 hi, b12.1 114 (by omega) (by omega) (by omega) (by omega), j3R 114 (by omega), jR2 114 (by omega)]
          · intro i hi
            rw [aR (D + 14) (by omega) (by omega), aR (D + 15) (by omega) (by omega), (lf.2.2.1 i hi).1, (lf.2.2.1 i hi).2, i4R (D + 14) (by omega) (by omega), i4R (D + 15) (by omega) (by omega), iR (D + 14) (by omega) (by omega), iR (D + 15) (by omega) (by omega)]; exact ⟨rfl, rfl⟩
          · intro i hi
            rw [← hZ, xu_cell (by omega), xu_cell (by omega), (b12.2.2.2 (64 + i) (by omega)).1, (b12.2.2.2 (64 + i) (by omega)).2, j3R 115 (by omega), j3R 116 (by omega), jR2 115 (by omega), jR2 116 (by omega)]; exact ⟨rfl, rfl⟩
          · intro i i1 i2
            have w := lk_km x2 i i1 i2
            unfold KM at w ⊢
            rw [aR (D + 14) (by omega) (by omega), aR (D + 15) (by omega) (by omega), ← hZ, xu_cell (by omega), xu_cell (by omega)]; exact w
          · have w := b13 0
            rw [← hy] at w
            refine hg_congr (y - a0) a0 0 (fun j _ _ => ?_) w
            rw [← hZ, xu_cell (by omega), xu_cell (by omega)]; exact ⟨rfl, rfl⟩
          · intro k; rw [cI D (by omega) (by omega) (by omega) (by omega) (by omega) (by omega) (by omega) (by omega) (by omega)]
          · intro j j1 j2; exact cI (D + j) (by omega) (by omega) (by omega) (by omega) (by omega) (by omega) (by omega) (by omega) (by omega)
          · intro k hk; rw [← hZ, xu_cell (by omega), b12.2.2.1 k hk, j3R 101 (by omega), jR2 101 (by omega)]
          · intro x e1 e2; exact zRw x (by omega) (by omega) (by omega) (by omega) (by omega) (by omega)
        refine ⟨nw, nb, nr, tp, p5, a5, t5, A, Z, ?_, ?_, ⟨tk_congr c1 (fun j _ => by rw [aR 40 (by omega) (by omega), x4]) ?_ ?_ (fun j _ _ => z99 j) (by rw [← hZ, xu_off (by omega)]), hP2, ?_, ?_, ?_, ?_, ?_, ?_, ?_, ?_, ?_, ?_⟩, by omega, ?_, ?_⟩
        · rw [hXc _ (b1.trans hend)]
          dsimp only
          rw [if_neg (show ¬ (1 : Int32) = 0 by decide), hg42, Option.bind_some, hgD, Option.bind_some, on_of (sp_13 hD), hcl, Option.bind_some]
        · rw [hL3 J5 b2, my5, hZ]
        · rw [aR 1 (by omega) (by omega), x6 1 (by omega) (by omega) (by omega) (by omega)]
        · rw [aR 41 (by omega) (by omega), x6 41 (by omega) (by omega) (by omega) (by omega)]
        · rw [z99]; exact lk_f0 c2
        · rw [z99]; exact lk_f1 c2
        · rw [aR 40 (by omega) (by omega)]; exact lk_g0 x2
        · rw [aR 40 (by omega) (by omega)]; exact lk_g1 x2
        · rw [c99 20 (by omega) (by omega)]; exact ln_li h
        · rw [z99]; exact lk_mo c2
        · rw [z99, a13 0 (by omega), lk_ck x2]; exact lk_mk c2
        · intro w w1 w2
          rw [c42, c19, b_or1 _ (by omega) (by omega), b_or1 _ (by omega) (by omega), b_or1 _ (by omega) (by omega), decide_eq_false (show ¬ w = 8 + q by omega), decide_eq_false (show ¬ w = 16 + q by omega), decide_eq_false (show ¬ w = 7 by omega), Bool.or_false, Bool.or_false, Bool.or_false]
          exact ln_tn h w w1 w2
        · intro k hk
          have w := ln_tl h k hk
          rw [c42, c19, b_or1 _ (by omega) (by omega), b_or1 _ (by omega) (by omega), b_or1 _ (by omega) (by omega), decide_eq_false (show ¬ 16 + k = 7 by omega), Bool.or_false, ← hA, xu_at, b_or1 _ (by omega) (by omega), w.1, w.2, w.1, show decide (8 + k = 8 + q) = decide (k = q) from decide_eq_decide.mpr (by omega), show decide (16 + k = 16 + q) = decide (k = q) from decide_eq_decide.mpr (by omega)]
          exact ⟨rfl, rfl⟩
        · intro k hk hb
          rw [a13 1 (by omega), lk_cz x2]
          by_cases ck : k = q
          · subst ck
            exact ⟨y, y, rfl, Nat.le_refl _, by omega, by rw [← hZ, xu_at]⟩
          · rw [← hA, xu_at, b_or1 _ (by omega) (by omega), decide_eq_false ck, Bool.or_false] at hb
            obtain ⟨b, z, w1, w2, w3, w4⟩ := ln_tb h k hk hb
            have w5 : z = a0 := (nI_eq (by omega) (by omega)).mp (w1.symm.trans cK1)
            refine ⟨b, y, rfl, by omega, by omega, ?_⟩
            rw [← hZ, xu_at2 (by omega), b12.1 114 (by omega) (by omega) (by omega) (by omega), j3R 114 (by omega), jR2 114 (by omega)]; exact w4
        · rw [← hA]; exact frc_trans (frc_trans fc4 (frc_lfc lf)) (frc_trans (frc_xu (by omega)) (frc_xu (by omega)))
        · rw [← hZ]; exact frm_trans (frm_trans fm3 (frm_lfm b12)) (f114 _ _)
      · left
        have tt5 := oks_tt b3; have f05 := oks_f0 b3
        obtain ⟨I6, d1, d2, d3⟩ := st_bad hR hD b3 b4 (by omega) (fun _ => rfl) (nx_bad b7)
        generalize hZ : xu J5 114 (3 + q) (J5 101 15) = Z
        have z99 : Z 99 = J5 99 := by rw [← hZ, xu_off (by omega)]
        have fZ : Z 99 26 = 0 := by rw [z99]; exact f05
        have ttZ : TT t5 (I5 40 2) (Z 99 24) (Z 99 25) := by rw [z99]; exact tt5
        refine ⟨I6, xu (rfM 1 Z) 99 20 (rfM 1 Z 99 20 + 1), ?_, ?_, ?_, frc_trans (frc_trans fc4 (frc_lfc b11)) (frc_lfc d2), ?_⟩
        · rw [hXc _ (b1.trans d1)]; rfl
        · rw [hL3 J5 b2, hZ]
          unfold k_X10_line_521 k_X10_line_550
          rw [gI_of sA_99, Option.bind_some]
          dsimp only
          rw [if_pos fZ, on_of sA_99, m_isS ttZ fZ (s := 23) (by omega) (by omega) (x := 59) rfl, Option.bind_some, if_neg c23]
          dsimp only
          rw [if_pos rfl, on_of sA_99, m_wrong _ fZ, Option.bind_some, gI_of sA_99, Option.bind_some, pM_20, Option.bind_some]
        · have d4 : FT I6 (rfM 1 Z) := by
            unfold FT rfM at d3 ⊢
            rw [xu_at2 (show 26 ≠ 27 by omega), xu_at, xu_at] at d3 ⊢
            rw [z99]; exact d3
          unfold FT at d4 ⊢
          rw [xu_at2 (show 26 ≠ 20 by omega), xu_at2 (show 27 ≠ 20 by omega)]; exact d4
        · exact frm_trans (frm_rf (by rw [← hZ]; exact frm_trans (frm_trans fm3 (frm_lfm b12)) (f114 _ _))) (frm_99 (by omega))
  · left
    have hL : f_X10_lawLine shA 99 (J1, L', R') = some (rfM 1 J1, L', R') := by
      unfold f_X10_lawLine
      simp only [gI_of sA_99, Option.bind_some, k25]
      by_cases c0 : J1 99 24 = 0
      · rw [if_pos c0]
        have z : t1 < 21 ∧ J1 99 25 = nI t1 := by
          unfold TT at tt1
          rcases tt1 with ⟨z1, z2, z3⟩ | ⟨z1, z2, z3⟩ | ⟨z1, z2, z3⟩ | ⟨z1, z2, z3, z4⟩ | ⟨z1, z2⟩ | ⟨z1, z2⟩
          · exact ⟨z1, z3⟩
          · rw [c0] at z2; exact absurd z2 (by decide)
          · rw [c0] at z2; exact absurd z2 (by decide)
          · rw [c0] at z3; exact absurd z3 (by decide)
          · rw [c0] at z2; exact absurd z2 (by decide)
          · rw [c0] at z2; exact absurd z2 (by decide)
        rw [z.2]
        by_cases c8 : t1 < 8
        · rw [if_pos (show nI t1 < (8 : Int32) from nI_lt (b := 8) c8 (by omega))]
        · rw [if_neg (show ¬ nI t1 < (8 : Int32) from nI_nlt (b := 8) (by omega) (by omega)), if_neg (show ¬ nI t1 ≤ (10 : Int32) from nI_ge (a := 10) (by omega) (by omega))]
      · rw [if_neg c0]
    refine ⟨rfC 1 I1, rfM 1 J1, ?_, by rw [hY, hL, Option.bind_some, h521F r1n], ft_of (by decide) (tk_cp q5) (tk_mp q5), frc_rf (frc_nc q3), frm_rf fm1⟩
    unfold f_X6_readLaw k_X6_readLaw_27
    simp only [hg40, Option.bind_some, on_of sA_40, q1, gI_of sA_40, tk_ct q5, c_refuse, xz_0]
    by_cases c8 : t1 < 8
    · rw [if_pos (show nI t1 < (8 : Int32) from nI_lt (b := 8) c8 (by omega))]
    · rw [if_neg (show ¬ nI t1 < (8 : Int32) from nI_nlt (b := 8) (by omega) (by omega)), if_neg (show ¬ nI t1 ≤ (10 : Int32) from nI_ge (a := 10) (by omega) (by omega))]

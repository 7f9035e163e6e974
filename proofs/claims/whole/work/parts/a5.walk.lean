/-! LEVEL 2: text. Lines: walkers -/
theorem pr_walker {D nw nb nr tp s c : Nat} {nm dn mi : Int32} {I J I' J' : Nat → Nat → Int32} (h : PR D 1 nw nb nr tp I J) (hb : nw < 6) (s2 : s ≤ tp) (c1 : 1 ≤ c) (c2 : c ≤ 9) (eD : I' D 9 = nI (nw + 1)) (eN : J' 101 10 = nI (nw + 1)) (i5 : I' (D + 5) nw = nm) (i5o : ∀ i, i ≠ nw → I' (D + 5) i = I (D + 5) i) (j5 : J' 105 (6 + nw) = nm) (j5o : ∀ i, i ≠ 6 + nw → J' 105 i = J 105 i) (i6 : I' (D + 6) nw = nI s) (i6o : ∀ i, i ≠ nw → I' (D + 6) i = I (D + 6) i) (j6 : J' 106 (6 + nw) = nI s) (j6o : ∀ i, i ≠ 6 + nw → J' 106 i = J 106 i) (i7 : I' (D + 7) nw = dn) (i7o : ∀ i, i ≠ nw → I' (D + 7) i = I (D + 7) i) (j7 : J' 107 (6 + nw) = dn) (j7o : ∀ i, i ≠ 6 + nw → J' 107 i = J 107 i) (i8 : I' (D + 8) nw = nI c) (i8o : ∀ i, i ≠ nw → I' (D + 8) i = I (D + 8) i) (j8 : J' 108 (6 + nw) = nI c) (j8o : ∀ i, i ≠ 6 + nw → J' 108 i = J 108 i) (i9 : I' (D + 9) nw = mi) (i9o : ∀ i, i ≠ nw → I' (D + 9) i = I (D + 9) i) (j9 : J' 109 (6 + nw) = mi) (j9o : ∀ i, i ≠ 6 + nw → J' 109 i = J 109 i) (cD : ∀ k, k ≠ 9 → I' D k = I D k) (cR : ∀ j, 1 ≤ j → j < 18 → (j < 5 ∨ 9 < j) → I' (D + j) = I (D + j)) (mN : ∀ k, k ≠ 10 → J' 101 k = J 101 k) (mR : ∀ q, 102 ≤ q → q ≤ 116 → (q < 105 ∨ 109 < q) → J' q = J q) : PR D 1 (nw + 1) nb nr tp I' J' := by
  refine ⟨pr_pl h, ?_, pr_b8 h, pr_r12 h, pr_t2 h, pr_t60 h, (by apply cD <;> omega : I' D 0 = I D 0).trans (pr_cT h), (by apply cD <;> omega : I' D 4 = I D 4).trans (pr_cB h), ?_, (by apply cD <;> omega : I' D 15 = I D 15).trans (pr_cR h), (by apply mN <;> omega : J' 101 8 = J 101 8).trans (pr_mT h), (by apply mN <;> omega : J' 101 9 = J 101 9).trans (pr_mB h), ?_, (by apply mN <;> omega : J' 101 11 = J 101 11).trans (pr_mR h), (by obtain ⟨x, x1, x2, x3⟩ := pr_pi h; exact ⟨x, x1, (by apply mN <;> omega : J' 101 12 = J 101 12).trans x2, (by apply cD <;> omega : I' D 1 = I D 1).trans x3⟩), (by obtain ⟨x, x1, x2, x3⟩ := pr_ca h; exact ⟨x, x1, (by apply mN <;> omega : J' 101 13 = J 101 13).trans x2, (by apply cD <;> omega : I' D 2 = I D 2).trans x3⟩), (by obtain ⟨x, x1, x2, x3⟩ := pr_se h; exact ⟨x, x1, (by apply mN <;> omega : J' 101 14 = J 101 14).trans x2, (by apply cD <;> omega : I' D 3 = I D 3).trans x3⟩), (by obtain ⟨x, x1, x2, x3, x4⟩ := pr_kn h; have e13 := (by apply cR <;> omega : I' (D + 13) = I (D + 13)); exact ⟨x, x1, (by apply mN <;> omega : J' 101 15 = J 101 15).trans x2, by rw [e13]; exact x3, by rw [e13]; exact x4⟩), (by rw [(by apply cR <;> omega : I' (D + 1) = I (D + 1)), (by apply mR <;> omega : J' 102 = J 102)]; exact pr_bn h), (by rw [(by apply cR <;> omega : I' (D + 2) = I (D + 2)), (by apply mR <;> omega : J' 103 = J 103)]; exact pr_bs h), (by rw [(by apply mR <;> omega : J' 103 = J 103)]; exact pr_br h), (by rw [(by apply mR <;> omega : J' 103 = J 103)]; exact pr_bd h), (by rw [(by apply cR <;> omega : I' (D + 3) = I (D + 3)), (by apply mR <;> omega : J' 104 = J 104)]; exact pr_bc h), (by rw [(by apply cR <;> omega : I' (D + 4) = I (D + 4)), (by apply mR <;> omega : J' 103 = J 103)]; exact pr_ba h), ?_, ?_, ?_, ?_, ?_, (by rw [(by apply cR <;> omega : I' (D + 10) = I (D + 10)), (by apply mR <;> omega : J' 110 = J 110), (by apply cR <;> omega : I' (D + 11) = I (D + 11)), (by apply mR <;> omega : J' 111 = J 111), (by apply cR <;> omega : I' (D + 12) = I (D + 12)), (by apply mR <;> omega : J' 112 = J 112)]; exact pr_rr h), (by rw [(by apply mR <;> omega : J' 112 = J 112)]; exact pr_rm h), (fun k hk => by rw [lw_congr2 (by rw [(by apply cR <;> omega : I' (D + 13) = I (D + 13))]) (by apply cR <;> omega : I' (D + 14) = I (D + 14)) (by apply cR <;> omega : I' (D + 15) = I (D + 15)) (by apply cR <;> omega : I' (D + 16) = I (D + 16)) (by apply cR <;> omega : I' (D + 17) = I (D + 17)) (by apply mR <;> omega : J' 113 = J 113) (by apply mR <;> omega : J' 114 = J 114) (by apply mR <;> omega : J' 115 = J 115) (by apply mR <;> omega : J' 116 = J 116)]; exact pr_lw h k hk)⟩
  · omega
  · exact eD
  · exact eN
  · intro i hi
    by_cases q : i = nw
    · subst q; exact i5.trans j5.symm
    · rw [i5o i q, j5o (6 * 1 + i) (by omega)]; exact pr_wn h i (by omega)
  · intro i hi
    by_cases q : i = nw
    · subst q; exact ⟨s, s2, i6, j6⟩
    · rw [i6o i q, j6o (6 * 1 + i) (by omega)]; exact pr_ws h i (by omega)
  · intro i hi
    by_cases q : i = nw
    · subst q; exact i7.trans j7.symm
    · rw [i7o i q, j7o (6 * 1 + i) (by omega)]; exact pr_wd h i (by omega)
  · intro i hi
    by_cases q : i = nw
    · subst q; exact ⟨c, c1, c2, i8, j8⟩
    · rw [i8o i q, j8o (6 * 1 + i) (by omega)]; exact pr_wp h i (by omega)
  · intro i hi
    by_cases q : i = nw
    · subst q; exact i9.trans j9.symm
    · rw [i9o i q, j9o (6 * 1 + i) (by omega)]; exact pr_wm h i (by omega)
theorem c_addWalker {P : Nat} {L : Nat → Nat → Int64} {R : Nat → Nat → Option Nat} (hR : ∀ I, RefOK (I, L, R) P) {D nw : Nat} (hD : isPl D) {I : Nat → Nat → Int32} (e : I D 9 = nI nw) (hb : nw < 6) (v1 v2 v3 v4 v5 : Int32) : f_X3_addWalker shA D v1 v2 v3 v4 v5 (I, L, R) = some (xu (xu (xu (xu (xu (xu I (D + 5) nw v1) (D + 6) nw v2) (D + 7) nw v3) (D + 8) nw v4) (D + 9) nw v5) D 9 (nI (nw + 1)), L, R) := by
  unfold f_X3_addWalker
  rw [gI_of (sp_0 hD), Option.bind_some]
  simp only [e]
  rw [if_pos (show nI nw < (6 : Int32) from nI_lt (b := 6) hb (by omega))]
  simp (disch := omega) only [gR_of (sp_0 hD) (rp_10 (hR _) hD), gR_of (sp_0 hD) (rp_11 (hR _) hD), gR_of (sp_0 hD) (rp_12 (hR _) hD), gR_of (sp_0 hD) (rp_13 (hR _) hD), gR_of (sp_0 hD) (rp_14 (hR _) hD), gI_of (sp_0 hD), Option.bind_some, e, sI_of (sp_5 hD) (show nw < 6 by omega), sI_of (sp_6 hD) (show nw < 6 by omega), sI_of (sp_7 hD) (show nw < 6 by omega), sI_of (sp_8 hD) (show nw < 6 by omega), sI_of (sp_9 hD) (show nw < 6 by omega), xu_cell, nI_1, pD_f hD]
def wk5 (d57 : xD) : Option xD := (xon 10 shA 99 (f_X10_fresher shA 99 (2 : Int32) d57)).bind fun z58 => (xon 10 shA 99 (f_X10_reads shA 99 (2 : Int32) (z58.1 + (1 : Int32)) z58.2)).bind fun d59 => k_X10_line_521 shA 99 d59
def wk4 (ix : Int32) (d54 : xD) : Option xD := (xgR 10 shA d54 99 11).bind fun v55 => (xon 10 shA 99 (f_X10_numeral shA 99 (0 : Int32) (99 : Int32) d54)).bind fun z56 => (xsI .int shA z56.2 v55 ix z56.1).bind fun d57 => wk5 d57
def wk3 (ix : Int32) (d51 : xD) : Option xD := (xgR 10 shA d51 99 10).bind fun v52 => (xon 10 shA 99 (f_X10_numeral shA 99 (1 : Int32) (9 : Int32) d51)).bind fun z53 => (xsI .int shA z53.2 v52 ix z53.1).bind fun d54 => wk4 ix d54
def wk2 (ix : Int32) (d48 : xD) : Option xD := (xgR 10 shA d48 99 9).bind fun v49 => (xon 10 shA 99 (f_X10_numeral shA 99 (0 : Int32) (1 : Int32) d48)).bind fun z50 => (xsI .int shA z50.2 v49 ix z50.1).bind fun d51 => wk3 ix d51
def wk1 (ix : Int32) (d44 : xD) : Option xD := (xgR 10 shA d44 99 8).bind fun v45 => (xon 10 shA 99 (f_X10_fresher shA 99 (0 : Int32) d44)).bind fun z46 => (xon 10 shA 99 (f_X10_numeral shA 99 (0 : Int32) z46.1 z46.2)).bind fun z47 => (xsI .int shA z47.2 v45 ix z47.1).bind fun d48 => wk2 ix d48
theorem wk5_e {P : Nat} {L' : Nat → Nat → Int64} {R' : Nat → Nat → Option Nat} (hR' : ∀ I, RefOK (I, L', R') P) {K : Nat → Nat → Int32} : wk5 (K, L', R') = k_X10_line_521 shA 99 (xu K 101 10 (K 101 10 + 1), L', R') := by
  have fr : f_X10_fresher shA 99 (2 : Int32) (K, L', R') = some (K 101 10, (K, L', R')) := m_fresher hR' (i := 2) (by omega)
  have rd : ∀ v : Int32, f_X10_reads shA 99 (2 : Int32) v (K, L', R') = some (xu K 101 10 v, L', R') := fun v => m_reads hR' (i := 2) (by omega) v
  unfold wk5
  simp only [on_of sA_99, fr, Option.bind_some, rd]
theorem wk4_e {P : Nat} {L' : Nat → Nat → Int64} {R' : Nat → Nat → Option Nat} (hR' : ∀ I, RefOK (I, L', R') P) {K K2 : Nat → Nat → Int32} {nw : Nat} {v : Int32} (hb : nw < 6) (e : f_X10_numeral shA 99 (nI 0) (nI 99) (K, L', R') = some (v, (K2, L', R'))) : wk4 (nI (6 + nw)) (K, L', R') = wk5 (xu K2 109 (6 + nw) v, L', R') := by
  have e : f_X10_numeral shA 99 (0 : Int32) (99 : Int32) (K, L', R') = some (v, (K2, L', R')) := e
  unfold wk4
  simp only [gR_of sA_99 (rf_99_11 (hR' _)), Option.bind_some, on_of sA_99, e, sI_of sA_109 (show 6 + nw < 12 by omega) (show 12 < 2 ^ 31 by omega)]
theorem wk3_e {P : Nat} {L' : Nat → Nat → Int64} {R' : Nat → Nat → Option Nat} (hR' : ∀ I, RefOK (I, L', R') P) {K K2 : Nat → Nat → Int32} {nw : Nat} {v : Int32} (hb : nw < 6) (e : f_X10_numeral shA 99 (nI 1) (nI 9) (K, L', R') = some (v, (K2, L', R'))) : wk3 (nI (6 + nw)) (K, L', R') = wk4 (nI (6 + nw)) (xu K2 108 (6 + nw) v, L', R') := by
  have e : f_X10_numeral shA 99 (1 : Int32) (9 : Int32) (K, L', R') = some (v, (K2, L', R')) := e
  unfold wk3
  simp only [gR_of sA_99 (rf_99_10 (hR' _)), Option.bind_some, on_of sA_99, e, sI_of sA_108 (show 6 + nw < 12 by omega) (show 12 < 2 ^ 31 by omega)]
theorem wk2_e {P : Nat} {L' : Nat → Nat → Int64} {R' : Nat → Nat → Option Nat} (hR' : ∀ I, RefOK (I, L', R') P) {K K2 : Nat → Nat → Int32} {nw : Nat} {v : Int32} (hb : nw < 6) (e : f_X10_numeral shA 99 (nI 0) (nI 1) (K, L', R') = some (v, (K2, L', R'))) : wk2 (nI (6 + nw)) (K, L', R') = wk3 (nI (6 + nw)) (xu K2 107 (6 + nw) v, L', R') := by
  have e : f_X10_numeral shA 99 (0 : Int32) (1 : Int32) (K, L', R') = some (v, (K2, L', R')) := e
  unfold wk2
  simp only [gR_of sA_99 (rf_99_9 (hR' _)), Option.bind_some, on_of sA_99, e, sI_of sA_107 (show 6 + nw < 12 by omega) (show 12 < 2 ^ 31 by omega)]
theorem wk1_e {P : Nat} {L' : Nat → Nat → Int64} {R' : Nat → Nat → Option Nat} (hR' : ∀ I, RefOK (I, L', R') P) {K K2 : Nat → Nat → Int32} {nw tp : Nat} {v : Int32} (hb : nw < 6) (eT : K 101 8 = nI tp) (e : f_X10_numeral shA 99 (nI 0) (nI tp) (K, L', R') = some (v, (K2, L', R'))) : wk1 (nI (6 + nw)) (K, L', R') = wk2 (nI (6 + nw)) (xu K2 106 (6 + nw) v, L', R') := by
  have fr : f_X10_fresher shA 99 (0 : Int32) (K, L', R') = some (nI tp, (K, L', R')) := by rw [← eT]; exact m_fresher hR' (i := 0) (by omega)
  have e : f_X10_numeral shA 99 (0 : Int32) (nI tp) (K, L', R') = some (v, (K2, L', R')) := e
  unfold wk1
  simp only [gR_of sA_99 (rf_99_8 (hR' _)), Option.bind_some, on_of sA_99, fr, e, sI_of sA_106 (show 6 + nw < 12 by omega) (show 12 < 2 ^ 31 by omega)]
/-- with a fault the rest of the line writes, and changes no fault -/
theorem wk5F {P : Nat} {L' : Nat → Nat → Int64} {R' : Nat → Nat → Option Nat} (hR' : ∀ I, RefOK (I, L', R') P) {K : Nat → Nat → Int32} (hK : K 99 26 ≠ 0) : ∃ J', wk5 (K, L', R') = some (J', L', R') ∧ FRM K J' ∧ J' 99 = K 99 := by
  refine ⟨_, by rw [wk5_e hR', h521F (by rw [xu_cell (by omega)]; exact hK)], frm_101 (by omega), xu_off (by omega)⟩
theorem frm_6 {q k : Nat} {v : Int32} {K : Nat → Nat → Int32} (h1 : 105 ≤ q) (h2 : q ≤ 109) (h3 : 6 ≤ k) : FRM K (xu K q k v) := frm_xu (by omega) (by omega) (by unfold hfR; rw [if_neg (by omega), if_pos h2]; exact h3)
theorem wk4F {P : Nat} {L' : Nat → Nat → Int64} {R' : Nat → Nat → Option Nat} (hR' : ∀ I, RefOK (I, L', R') P) {K : Nat → Nat → Int32} {nw : Nat} (hb : nw < 6) (hK : K 99 26 ≠ 0) : ∃ J', wk4 (nI (6 + nw)) (K, L', R') = some (J', L', R') ∧ FRM K J' ∧ J' 99 = K 99 := by
  obtain ⟨J', e1, e2, e3⟩ := wk5F hR' (K := xu K 109 (6 + nw) (nI 0)) (by rw [xu_cell (by omega)]; exact hK)
  exact ⟨J', by rw [wk4_e hR' hb (numF hK _ _)]; exact e1, frm_trans (frm_6 (by omega) (by omega) (by omega)) e2, e3.trans (xu_off (by omega))⟩
theorem wk3F {P : Nat} {L' : Nat → Nat → Int64} {R' : Nat → Nat → Option Nat} (hR' : ∀ I, RefOK (I, L', R') P) {K : Nat → Nat → Int32} {nw : Nat} (hb : nw < 6) (hK : K 99 26 ≠ 0) : ∃ J', wk3 (nI (6 + nw)) (K, L', R') = some (J', L', R') ∧ FRM K J' ∧ J' 99 = K 99 := by
  obtain ⟨J', e1, e2, e3⟩ := wk4F hR' hb (K := xu K 108 (6 + nw) (nI 1)) (by rw [xu_cell (by omega)]; exact hK)
  exact ⟨J', by rw [wk3_e hR' hb (numF hK _ _)]; exact e1, frm_trans (frm_6 (by omega) (by omega) (by omega)) e2, e3.trans (xu_off (by omega))⟩
theorem wk2F {P : Nat} {L' : Nat → Nat → Int64} {R' : Nat → Nat → Option Nat} (hR' : ∀ I, RefOK (I, L', R') P) {K : Nat → Nat → Int32} {nw : Nat} (hb : nw < 6) (hK : K 99 26 ≠ 0) : ∃ J', wk2 (nI (6 + nw)) (K, L', R') = some (J', L', R') ∧ FRM K J' ∧ J' 99 = K 99 := by
  obtain ⟨J', e1, e2, e3⟩ := wk3F hR' hb (K := xu K 107 (6 + nw) (nI 0)) (by rw [xu_cell (by omega)]; exact hK)
  exact ⟨J', by rw [wk2_e hR' hb (numF hK _ _)]; exact e1, frm_trans (frm_6 (by omega) (by omega) (by omega)) e2, e3.trans (xu_off (by omega))⟩
theorem wk1F {P : Nat} {L' : Nat → Nat → Int64} {R' : Nat → Nat → Option Nat} (hR' : ∀ I, RefOK (I, L', R') P) {K : Nat → Nat → Int32} {nw tp : Nat} (hb : nw < 6) (eT : K 101 8 = nI tp) (hK : K 99 26 ≠ 0) : ∃ J', wk1 (nI (6 + nw)) (K, L', R') = some (J', L', R') ∧ FRM K J' ∧ J' 99 = K 99 := by
  obtain ⟨J', e1, e2, e3⟩ := wk2F hR' hb (K := xu K 106 (6 + nw) (nI 0)) (by rw [xu_cell (by omega)]; exact hK)
  exact ⟨J', by rw [wk1_e hR' hb eT (numF hK _ _)]; exact e1, frm_trans (frm_6 (by omega) (by omega) (by omega)) e2, e3.trans (xu_off (by omega))⟩
/-- one number of a line: both sides -/
theorem stage {P P' : Nat} {L L' : Nat → Nat → Int64} {R R' : Nat → Nat → Option Nat} (hR : ∀ I, RefOK (I, L, R) P) (hR' : ∀ I, RefOK (I, L', R') P') {n : Nat} {B : Nat → Nat} {p a t : Nat} {I J : Nat → Nat → Int32} (hk : TK n B p a t I J) (f0 : J 99 26 = 0) {lo hi q k : Nat} (h2 : hi ≤ 99999) (h1 : lo ≤ 99999) (hq : 101 ≤ q) : (∃ v : Int32, v ≠ 0 ∧ f_X6_isNumber shA 42 (nI lo) (nI hi) (I, L, R) = some (0, (rfC v I, L, R)) ∧ f_X10_numeral shA 99 (nI lo) (nI hi) (J, L', R') = some (nI lo, (rfM v J, L', R')) ∧ xu (rfM v J) q k (nI lo) 99 26 ≠ 0 ∧ (∀ J' : Nat → Nat → Int32, J' 99 = xu (rfM v J) q k (nI lo) 99 → FT (rfC v I) J')) ∨ (∃ x I2 J2 K p2 a2 t2, lo ≤ x ∧ x ≤ hi ∧ t ≠ 36 ∧ I 40 2 = nI x ∧ f_X6_isNumber shA 42 (nI lo) (nI hi) (I, L, R) = some (1, (I, L, R)) ∧ f_X10_numeral shA 99 (nI lo) (nI hi) (J, L', R') = some (nI x, (J2, L', R')) ∧ f_X7_next shA 40 (I, L, R) = some (I2, L, R) ∧ NC I I2 ∧ NM J J2 ∧ K = xu J2 q k (nI x) ∧ TK n B p2 a2 t2 I2 K ∧ p < p2 ∧ K 99 26 = 0 ∧ K 99 = J2 99) := by
  rcases e_num hR hR' hk f0 (lo := lo) (hi := hi) h2 h1 with ⟨v, v0, b1, b2⟩ | ⟨x, y1, y2, y3, y4, y5, y6, y7⟩
  · left
    refine ⟨v, v0, b1, b2, by rw [xu_cell (by omega), rfM_26]; exact v0, fun J' e => ?_⟩
    unfold FT
    rw [e, xu_cell (by omega), xu_cell (by omega)]
    exact ft_of v0 (tk_cp hk) (tk_mp hk)
  · right
    obtain ⟨I2, J2, p2, a2, t2, r1, r2, r3, r4, r5, r6⟩ := adv0 hR hR' hk (show t ≠ 36 by omega) (I1 := I) (J1 := J) (fun _ _ => rfl) rfl rfl (fun _ _ _ => rfl) rfl
    rw [r2, Option.bind_some] at y7
    have k99 : xu J2 q k (nI x) 99 = J2 99 := xu_off (by omega)
    exact ⟨x, I2, J2, _, p2, a2, t2, y1, y2, by omega, y4, y6, y7, r1, r3, r4, rfl, tk_congr r5 (fun _ _ => rfl) rfl rfl (fun j _ _ => by rw [k99]) (xu_off (by omega)), r6, by rw [k99, r4.2 26 (by omega)]; exact f0, k99⟩

/-! LEVEL 2: text. Lines: benches -/
theorem findI_snoc (f : Nat → Int32) (v : Int32) : ∀ n i, i + n < 2 ^ 31 → findI f v i (n + 1) = if findI f v i n = -1 then (if f (i + n) = v then nI (i + n) else -1) else findI f v i n := by
  intro n
  induction n with
  | zero => intro i _; unfold findI findI; rw [if_pos rfl]; rfl
  | succ n ih =>
    intro i hi
    unfold findI
    by_cases c : f i = v
    · rw [if_pos c, if_pos c, if_neg (nI_ne_m1 (by omega))]
    · rw [if_neg c, if_neg c, ih (i + 1) (by omega), show i + 1 + n = i + (n + 1) by omega]
theorem pr_bench {D nw nb nr tp s c : Nat} {nm : Int32} {I J I' J' : Nat → Nat → Int32} (h : PR D 1 nw nb nr tp I J) (hb : nb < 8) (s1 : 1 ≤ s) (s2 : s < tp) (hn : findI (fun i => J 103 (8 + i)) (nI s) 0 nb = -1) (c1 : 1 ≤ c) (c2 : c ≤ 3) (eD : I' D 4 = nI (nb + 1)) (eN : J' 101 9 = nI (nb + 1)) (i1 : I' (D + 1) nb = nm) (i1o : ∀ i, i ≠ nb → I' (D + 1) i = I (D + 1) i) (j2 : J' 102 (8 + nb) = nm) (j2o : ∀ i, i ≠ 8 + nb → J' 102 i = J 102 i) (i2 : I' (D + 2) nb = nI s) (i2o : ∀ i, i ≠ nb → I' (D + 2) i = I (D + 2) i) (j3 : J' 103 (8 + nb) = nI s) (j3o : ∀ i, i ≠ 8 + nb → J' 103 i = J 103 i) (i3 : I' (D + 3) nb = nI c) (i3o : ∀ i, i ≠ nb → I' (D + 3) i = I (D + 3) i) (j4 : J' 104 (8 + nb) = nI c) (j4o : ∀ i, i ≠ 8 + nb → J' 104 i = J 104 i) (i4 : I' (D + 4) s = nI nb) (i4o : ∀ i, i ≠ s → I' (D + 4) i = I (D + 4) i) (cD : ∀ k, k ≠ 4 → I' D k = I D k) (cR : ∀ j, 5 ≤ j → j < 18 → I' (D + j) = I (D + j)) (mN : ∀ k, k ≠ 9 → J' 101 k = J 101 k) (mR : ∀ q, 105 ≤ q → q ≤ 116 → J' q = J q) : PR D 1 nw (nb + 1) nr tp I' J' := by
  have t60 := pr_t60 h
  have nf : ∀ j, j < nb → ¬ J 103 (8 + j) = nI s := by
    rcases findI_spec (fun i => J 103 (8 + i)) (nI s) nb 0 with ⟨_, q⟩ | ⟨j, _, q2, q3, _⟩
    · exact fun j hj => q j (by omega) (by omega)
    · rw [hn] at q3; exact absurd q3.symm (nI_ne_m1 (by omega))
  refine ⟨pr_pl h, pr_w6 h, ?_, pr_r12 h, pr_t2 h, pr_t60 h, (by apply cD <;> omega : I' D 0 = I D 0).trans (pr_cT h), ?_, (by apply cD <;> omega : I' D 9 = I D 9).trans (pr_cW h), (by apply cD <;> omega : I' D 15 = I D 15).trans (pr_cR h), (by apply mN <;> omega : J' 101 8 = J 101 8).trans (pr_mT h), ?_, (by apply mN <;> omega : J' 101 10 = J 101 10).trans (pr_mW h), (by apply mN <;> omega : J' 101 11 = J 101 11).trans (pr_mR h), (by obtain ⟨x, x1, x2, x3⟩ := pr_pi h; exact ⟨x, x1, (by apply mN <;> omega : J' 101 12 = J 101 12).trans x2, (by apply cD <;> omega : I' D 1 = I D 1).trans x3⟩), (by obtain ⟨x, x1, x2, x3⟩ := pr_ca h; exact ⟨x, x1, (by apply mN <;> omega : J' 101 13 = J 101 13).trans x2, (by apply cD <;> omega : I' D 2 = I D 2).trans x3⟩), (by obtain ⟨x, x1, x2, x3⟩ := pr_se h; exact ⟨x, x1, (by apply mN <;> omega : J' 101 14 = J 101 14).trans x2, (by apply cD <;> omega : I' D 3 = I D 3).trans x3⟩), (by obtain ⟨x, x1, x2, x3, x4⟩ := pr_kn h; have e13 := (by apply cR <;> omega : I' (D + 13) = I (D + 13)); exact ⟨x, x1, (by apply mN <;> omega : J' 101 15 = J 101 15).trans x2, by rw [e13]; exact x3, by rw [e13]; exact x4⟩), ?_, ?_, ?_, ?_, ?_, ?_, (by rw [(by apply cR <;> omega : I' (D + 5) = I (D + 5)), (by apply mR <;> omega : J' 105 = J 105)]; exact pr_wn h), (by rw [(by apply cR <;> omega : I' (D + 6) = I (D + 6)), (by apply mR <;> omega : J' 106 = J 106)]; exact pr_ws h), (by rw [(by apply cR <;> omega : I' (D + 7) = I (D + 7)), (by apply mR <;> omega : J' 107 = J 107)]; exact pr_wd h), (by rw [(by apply cR <;> omega : I' (D + 8) = I (D + 8)), (by apply mR <;> omega : J' 108 = J 108)]; exact pr_wp h), (by rw [(by apply cR <;> omega : I' (D + 9) = I (D + 9)), (by apply mR <;> omega : J' 109 = J 109)]; exact pr_wm h), (by rw [(by apply cR <;> omega : I' (D + 10) = I (D + 10)), (by apply mR <;> omega : J' 110 = J 110), (by apply cR <;> omega : I' (D + 11) = I (D + 11)), (by apply mR <;> omega : J' 111 = J 111), (by apply cR <;> omega : I' (D + 12) = I (D + 12)), (by apply mR <;> omega : J' 112 = J 112)]; exact pr_rr h), (by rw [(by apply mR <;> omega : J' 112 = J 112)]; exact pr_rm h), (fun k hk => by rw [lw_congr2 (by rw [(by apply cR <;> omega : I' (D + 13) = I (D + 13))]) (by apply cR <;> omega : I' (D + 14) = I (D + 14)) (by apply cR <;> omega : I' (D + 15) = I (D + 15)) (by apply cR <;> omega : I' (D + 16) = I (D + 16)) (by apply cR <;> omega : I' (D + 17) = I (D + 17)) (by apply mR <;> omega : J' 113 = J 113) (by apply mR <;> omega : J' 114 = J 114) (by apply mR <;> omega : J' 115 = J 115) (by apply mR <;> omega : J' 116 = J 116)]; exact pr_lw h k hk)⟩
  · omega
  · exact eD
  · exact eN
  · intro i hi
    by_cases q : i = nb
    · subst q; exact i1.trans j2.symm
    · rw [i1o i q, j2o (8 * 1 + i) (by omega)]; exact pr_bn h i (by omega)
  · intro i hi
    by_cases q : i = nb
    · subst q; exact i2.trans j3.symm
    · rw [i2o i q, j3o (8 * 1 + i) (by omega)]; exact pr_bs h i (by omega)
  · intro i hi
    by_cases q : i = nb
    · subst q; exact ⟨s, s1, s2, j3⟩
    · rw [j3o (8 * 1 + i) (by omega)]; exact pr_br h i (by omega)
  · intro i j hi hj e
    by_cases q : i = nb
    · by_cases q2 : j = nb
      · omega
      · exfalso
        rw [show 8 * 1 + i = 8 + nb by omega, j3, j3o (8 * 1 + j) (by omega)] at e
        exact nf j (by omega) e.symm
    · by_cases q2 : j = nb
      · exfalso
        rw [show 8 * 1 + j = 8 + nb by omega, j3, j3o (8 * 1 + i) (by omega)] at e
        exact nf i (by omega) e
      · rw [j3o (8 * 1 + i) (by omega), j3o (8 * 1 + j) (by omega)] at e
        exact pr_bd h i j (by omega) (by omega) e
  · intro i hi
    by_cases q : i = nb
    · subst q; exact ⟨c, c1, c2, i3, j4⟩
    · rw [i3o i q, j4o (8 * 1 + i) (by omega)]; exact pr_bc h i (by omega)
  · intro k hk
    have e0 : findI (fun i => J' 103 (8 * 1 + i)) (nI k) 0 nb = findI (fun i => J 103 (8 * 1 + i)) (nI k) 0 nb := findI_congr nb 0 (fun j _ q => j3o _ (by omega))
    rw [findI_snoc _ _ _ _ (by omega), e0, ← pr_ba h k hk, Nat.zero_add]
    by_cases q : k = s
    · subst q
      have e1 : I (D + 4) k = -1 := (pr_ba h k hk).trans hn
      rw [i4, e1, if_pos rfl, if_pos (show J' 103 (8 * 1 + nb) = nI k from j3)]
    · rw [i4o k q, if_neg (show ¬ J' 103 (8 * 1 + nb) = nI k from fun z => q ((nI_eq (by omega) (by omega)).mp (j3.symm.trans z)).symm)]
      by_cases c : I (D + 4) k = -1
      · rw [if_pos c, c]
      · rw [if_neg c]
theorem c_addBench {P : Nat} {L : Nat → Nat → Int64} {R : Nat → Nat → Option Nat} (hR : ∀ I, RefOK (I, L, R) P) {D nb s : Nat} (hD : isPl D) {I : Nat → Nat → Int32} (e : I D 4 = nI nb) (hb : nb < 8) (hs : s ≤ 60) (nm c : Int32) : f_X3_addBench shA D nm (nI s) c (I, L, R) = some (xu (xu (xu (xu (xu I (D + 1) nb nm) (D + 2) nb (nI s)) (D + 3) nb c) (D + 4) s (nI nb)) D 4 (nI (nb + 1)), L, R) := by
  unfold f_X3_addBench k_X3_addBench_19
  rw [gI_of (sp_0 hD), Option.bind_some]
  simp only [e]
  rw [if_neg (show ¬ (8 : Int32) ≤ nI nb from nI_ge (b := 8) hb (by omega)), if_neg (nI_pos (by omega)), if_pos (show nI s ≤ (60 : Int32) from nI_le (b := 60) hs (by omega))]
  simp (disch := omega) only [gR_of (sp_0 hD) (rp_5 (hR _) hD), gR_of (sp_0 hD) (rp_6 (hR _) hD), gR_of (sp_0 hD) (rp_7 (hR _) hD), gR_of (sp_0 hD) (rp_8 (hR _) hD), gI_of (sp_0 hD), Option.bind_some, e, sI_of (sp_1 hD) (show nb < 8 by omega), sI_of (sp_2 hD) (show nb < 8 by omega), sI_of (sp_3 hD) (show nb < 8 by omega), sI_of (sp_4 hD) (show s < 61 by omega), xu_cell, nI_1, pD_f hD]
theorem isNum_ok {P : Nat} {L : Nat → Nat → Int64} {R : Nat → Nat → Option Nat} (hR : ∀ I, RefOK (I, L, R) P) {n : Nat} {B : Nat → Nat} {I J : Nat → Nat → Int32} {p a t : Nat} (hk : TK n B p a t I J) (ht : t = 22) {lo hi x : Nat} (h1 : lo ≤ x) (h2 : x ≤ hi) (h3 : hi ≤ 99999) (e : I 40 2 = nI x) : f_X6_isNumber shA 42 (nI lo) (nI hi) (I, L, R) = some (1, (I, L, R)) := by
  unfold f_X6_isNumber k_X6_isNumber_54 k_X6_isNumber_59
  simp only [gR_of sA_42 (rf_42_0 (hR _)), Option.bind_some, gI_of sA_40, tk_ct hk, e, ht]
  rw [if_pos (show nI 22 = (22 : Int32) from rfl), if_neg (nI_nlt h1 (by omega)), if_pos (nI_le h2 (by omega))]
  rfl
theorem k239F {P : Nat} {L' : Nat → Nat → Int64} {R' : Nat → Nat → Option Nat} (hR' : ∀ I, RefOK (I, L', R') P) {J : Nat → Nat → Int32} {nb : Nat} (hb : nb < 8) (hJ : J 99 26 ≠ 0) : ∃ J', k_X10_line_239 shA 99 (nI (8 + nb)) (J, L', R') = some (J', L', R') ∧ FRM J J' ∧ J' 99 = J 99 := by
  have hJ2 : xu J 103 (8 + nb) 1 99 26 ≠ 0 := by rw [xu_cell (by omega)]; exact hJ
  have hJ4 : ∀ v, xu (xu (xu J 103 (8 + nb) 1) 104 (8 + nb) 1) 101 (8 + 1) v 99 26 ≠ 0 := fun v => by rw [xu_cell (by omega), xu_cell (by omega), xu_cell (by omega)]; exact hJ
  have fr0 : ∀ K : Nat → Nat → Int32, f_X10_fresher shA 99 (0 : Int32) (K, L', R') = some (K 101 (8 + 0), (K, L', R')) := fun K => m_fresher hR' (i := 0) (by omega)
  have fr1 : ∀ K : Nat → Nat → Int32, f_X10_fresher shA 99 (1 : Int32) (K, L', R') = some (K 101 (8 + 1), (K, L', R')) := fun K => m_fresher hR' (i := 1) (by omega)
  have rd1 : ∀ (K : Nat → Nat → Int32) (v : Int32), f_X10_reads shA 99 (1 : Int32) v (K, L', R') = some (xu K 101 (8 + 1) v, L', R') := fun K v => m_reads hR' (i := 1) (by omega) v
  refine ⟨xu (xu (xu J 103 (8 + nb) 1) 104 (8 + nb) 1) 101 (8 + 1) (J 101 (8 + 1) + 1), ?_, frm_trans (frm_trans (frm_xu (by omega) (by omega) (Nat.le_trans (by decide : hfR 103 ≤ 8) (by omega))) (frm_xu (by omega) (by omega) (Nat.le_trans (by decide : hfR 104 ≤ 8) (by omega)))) (frm_101 (by omega)), by rw [xu_off (by omega), xu_off (by omega), xu_off (by omega)]⟩
  unfold k_X10_line_239
  simp only [gR_of sA_99 (rf_99_5 (hR' _)), Option.bind_some, on_of sA_99, fr0, numF hJ, sI_of sA_103 (show 8 + nb < 16 by omega) (show 16 < 2 ^ 31 by omega), gR_of sA_99 (rf_99_6 (hR' _)), numF hJ2, sI_of sA_104 (show 8 + nb < 16 by omega) (show 16 < 2 ^ 31 by omega), fr1, rd1]
  rw [xu_cell (by omega), xu_cell (by omega), h521F (hJ4 _)]

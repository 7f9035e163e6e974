/-! LEVEL 2: what both sides read alike -/
theorem p0_mT {P nw nb nr tp : Nat} {I J : Nat → Nat → Int32} (hh : PR P 0 nw nb nr tp I J) : J 101 0 = nI tp := by have z := pr_mT hh; simp only [Nat.mul_zero, Nat.zero_add] at z; exact z
theorem p0_mB {P nw nb nr tp : Nat} {I J : Nat → Nat → Int32} (hh : PR P 0 nw nb nr tp I J) : J 101 1 = nI nb := by have z := pr_mB hh; simp only [Nat.mul_zero, Nat.zero_add] at z; exact z
theorem p0_mW {P nw nb nr tp : Nat} {I J : Nat → Nat → Int32} (hh : PR P 0 nw nb nr tp I J) : J 101 2 = nI nw := by have z := pr_mW hh; simp only [Nat.mul_zero, Nat.zero_add] at z; exact z
theorem p0_mR {P nw nb nr tp : Nat} {I J : Nat → Nat → Int32} (hh : PR P 0 nw nb nr tp I J) : J 101 3 = nI nr := by have z := pr_mR hh; simp only [Nat.mul_zero, Nat.zero_add] at z; exact z
theorem p0_pi {P nw nb nr tp : Nat} {I J : Nat → Nat → Int32} (hh : PR P 0 nw nb nr tp I J) : ∃ a, a < tp ∧ J 101 4 = nI a ∧ I P 1 = (if a = 0 then -2 else nI a) := by have z := pr_pi hh; simp only [Nat.mul_zero, Nat.zero_add] at z; exact z
theorem p0_ca {P nw nb nr tp : Nat} {I J : Nat → Nat → Int32} (hh : PR P 0 nw nb nr tp I J) : ∃ a, a ≤ 100 ∧ J 101 5 = nI a ∧ I P 2 = nI a := by have z := pr_ca hh; simp only [Nat.mul_zero, Nat.zero_add] at z; exact z
theorem p0_se {P nw nb nr tp : Nat} {I J : Nat → Nat → Int32} (hh : PR P 0 nw nb nr tp I J) : ∃ a, a ≤ 99999 ∧ J 101 6 = nI a ∧ I P 3 = nI a := by have z := pr_se hh; simp only [Nat.mul_zero, Nat.zero_add] at z; exact z
theorem p0_kn {P nw nb nr tp : Nat} {I J : Nat → Nat → Int32} (hh : PR P 0 nw nb nr tp I J) : ∃ a, a ≤ 64 ∧ J 101 7 = nI a ∧ I (P + 13) 0 = nI a ∧ I (P + 13) 1 = nI a := by have z := pr_kn hh; simp only [Nat.mul_zero, Nat.zero_add] at z; exact z
theorem p0_bn {P nw nb nr tp : Nat} {I J : Nat → Nat → Int32} (hh : PR P 0 nw nb nr tp I J) : ∀ i, i < nb → I (P + 1) i = J 102 i := by have z := pr_bn hh; simp only [Nat.mul_zero, Nat.zero_add] at z; exact z
theorem p0_bs {P nw nb nr tp : Nat} {I J : Nat → Nat → Int32} (hh : PR P 0 nw nb nr tp I J) : ∀ i, i < nb → I (P + 2) i = J 103 i := by have z := pr_bs hh; simp only [Nat.mul_zero, Nat.zero_add] at z; exact z
theorem p0_br {P nw nb nr tp : Nat} {I J : Nat → Nat → Int32} (hh : PR P 0 nw nb nr tp I J) : ∀ i, i < nb → ∃ a, 1 ≤ a ∧ a < tp ∧ J 103 i = nI a := by have z := pr_br hh; simp only [Nat.mul_zero, Nat.zero_add] at z; exact z
theorem p0_bd {P nw nb nr tp : Nat} {I J : Nat → Nat → Int32} (hh : PR P 0 nw nb nr tp I J) : ∀ i j, i < nb → j < nb → J 103 i = J 103 j → i = j := by have z := pr_bd hh; simp only [Nat.mul_zero, Nat.zero_add] at z; exact z
theorem p0_bc {P nw nb nr tp : Nat} {I J : Nat → Nat → Int32} (hh : PR P 0 nw nb nr tp I J) : ∀ i, i < nb → ∃ a, 1 ≤ a ∧ a ≤ 3 ∧ I (P + 3) i = nI a ∧ J 104 i = nI a := by have z := pr_bc hh; simp only [Nat.mul_zero, Nat.zero_add] at z; exact z
theorem p0_ba {P nw nb nr tp : Nat} {I J : Nat → Nat → Int32} (hh : PR P 0 nw nb nr tp I J) : ∀ k, k ≤ 60 → I (P + 4) k = findI (J 103) (nI k) 0 nb := by have z := pr_ba hh; simp only [Nat.mul_zero, Nat.zero_add] at z; exact z
theorem p0_wn {P nw nb nr tp : Nat} {I J : Nat → Nat → Int32} (hh : PR P 0 nw nb nr tp I J) : ∀ i, i < nw → I (P + 5) i = J 105 i := by have z := pr_wn hh; simp only [Nat.mul_zero, Nat.zero_add] at z; exact z
theorem p0_ws {P nw nb nr tp : Nat} {I J : Nat → Nat → Int32} (hh : PR P 0 nw nb nr tp I J) : ∀ i, i < nw → ∃ a, a ≤ tp ∧ I (P + 6) i = nI a ∧ J 106 i = nI a := by have z := pr_ws hh; simp only [Nat.mul_zero, Nat.zero_add] at z; exact z
theorem p0_wd {P nw nb nr tp : Nat} {I J : Nat → Nat → Int32} (hh : PR P 0 nw nb nr tp I J) : ∀ i, i < nw → I (P + 7) i = J 107 i := by have z := pr_wd hh; simp only [Nat.mul_zero, Nat.zero_add] at z; exact z
theorem p0_wp {P nw nb nr tp : Nat} {I J : Nat → Nat → Int32} (hh : PR P 0 nw nb nr tp I J) : ∀ i, i < nw → ∃ a, 1 ≤ a ∧ a ≤ 9 ∧ I (P + 8) i = nI a ∧ J 108 i = nI a := by have z := pr_wp hh; simp only [Nat.mul_zero, Nat.zero_add] at z; exact z
theorem p0_wm {P nw nb nr tp : Nat} {I J : Nat → Nat → Int32} (hh : PR P 0 nw nb nr tp I J) : ∀ i, i < nw → I (P + 9) i = J 109 i := by have z := pr_wm hh; simp only [Nat.mul_zero, Nat.zero_add] at z; exact z
theorem p0_rr {P nw nb nr tp : Nat} {I J : Nat → Nat → Int32} (hh : PR P 0 nw nb nr tp I J) : ∀ i, i < nr → I (P + 10) i = J 110 i ∧ I (P + 11) i = J 111 i ∧ I (P + 12) i = J 112 i := by have z := pr_rr hh; simp only [Nat.mul_zero, Nat.zero_add] at z; exact z
theorem p0_rm {P nw nb nr tp : Nat} {I J : Nat → Nat → Int32} (hh : PR P 0 nw nb nr tp I J) : ∀ i, i < nr → ∃ a, 1 ≤ a ∧ a ≤ 30 ∧ J 112 i = nI a := by have z := pr_rm hh; simp only [Nat.mul_zero, Nat.zero_add] at z; exact z
theorem xz_0 : xz 0 = some 0 := rfl
theorem xz_1 : xz 1 = some 1 := rfl
theorem findI_spec (f : Nat → Int32) (v : Int32) : ∀ n i, (findI f v i n = -1 ∧ ∀ j, i ≤ j → j < i + n → f j ≠ v) ∨ (∃ j, i ≤ j ∧ j < i + n ∧ findI f v i n = nI j ∧ f j = v) := by
  intro n
  induction n with
  | zero => intro i; exact Or.inl ⟨rfl, fun j h1 h2 => by omega⟩
  | succ n ih =>
    intro i
    unfold findI
    by_cases hc : f i = v
    · rw [if_pos hc]; exact Or.inr ⟨i, by omega, by omega, rfl, hc⟩
    · rw [if_neg hc]
      rcases ih (i + 1) with ⟨h1, h2⟩ | ⟨j, h1, h2, h3, h4⟩
      · refine Or.inl ⟨h1, fun j h3 h4 => ?_⟩
        by_cases e : j = i
        · subst e; exact hc
        · exact h2 j (by omega) (by omega)
      · exact Or.inr ⟨j, by omega, by omega, h3, h4⟩
theorem findI_congr {f g : Nat → Int32} {v : Int32} : ∀ n i, (∀ j, i ≤ j → j < i + n → f j = g j) → findI f v i n = findI g v i n := by
  intro n
  induction n with
  | zero => intro i _; rfl
  | succ n ih =>
    intro i hh
    unfold findI
    rw [hh i (by omega) (by omega), ih (i + 1) (fun j h1 h2 => hh j (by omega) (by omega))]
theorem nI_ne_m1 {a : Nat} (h : a < 2 ^ 31) : ¬ nI a = -1 := by
  intro e
  have h1 := congrArg Int32.toInt e
  rw [nI_toInt h, show (-1 : Int32).toInt = -1 by decide] at h1
  omega
theorem nI_ne_m2 {a : Nat} (h : a < 2 ^ 31) : ¬ nI a = -2 := by
  intro e
  have h1 := congrArg Int32.toInt e
  rw [nI_toInt h, show (-2 : Int32).toInt = -2 by decide] at h1
  omega
theorem e_benchOn {P q s nw nb nr tp : Nat} {c0 m0 c m : xD} (h : WF P q s nw nb nr tp c0 m0 c m) (x : Int32) : f_X3_benchOn shA P x c = some (findI (m0.1 103) x 0 nb, c) := by
  have hRc := wf_rc h; have hRm := wf_rm h; have hq := wf_sq h; have hp := pr_pl (wf_pr h); have hs23 := wf_s23 h; have hqr := isSc_ge hq; have hpr := isPl_le hp; have hw6 := pr_w6 (wf_pr h); have hb8 := pr_b8 (wf_pr h); have hr12 := pr_r12 (wf_pr h); have ht2 := pr_t2 (wf_pr h); have ht60 := pr_t60 (wf_pr h)
  have key : ∀ y : Int32, (y < 0 ∨ ¬ y ≤ 60) → findI (m0.1 103) y 0 nb = -1 := by
    intro y hy
    rcases findI_spec (m0.1 103) y nb 0 with ⟨h1, _⟩ | ⟨j, h1, h2, h3, h4⟩
    · exact h1
    · exfalso
      obtain ⟨a, ha1, ha2, ha3⟩ := p0_br (wf_pr h) j (by omega)
      rw [ha3] at h4
      subst h4
      rcases hy with hy | hy
      · exact nI_pos (by omega) hy
      · exact hy (nI_le (b := 60) (by omega) (by omega))
  unfold f_X3_benchOn k_X3_benchOn_10 k_X3_benchOn_20
  by_cases h1 : x < 0
  · rw [if_pos h1, key x (Or.inl h1)]
  · rw [if_neg h1]
    by_cases h2 : x ≤ 60
    · rw [if_pos h2]
      obtain ⟨k, hk, rfl⟩ := nI_of2 (n := 60) (by decide) h1 h2
      simp (disch := omega) only [xgI, xgL, xgR, xpL, xon, Option.bind_some, ↓reduceIte, nI_1, nI_add, m6_, m8_, xz_0, xz_1, ss_0 hq, rs_5 hRc hq, rs_6 hRc hq, rs_7 hRc hq, rs_8 hRc hq, rs_9 hRc hq, rs_10 hRc hq, rs_11 hRc hq, rs_12 hRc hq, rs_13 hRc hq, rs_15 hRc hq, rs_16 hRc hq, rs_17 hRc hq, rs_18 hRc hq, sp_0 hp, rp_5 hRc hp, rp_6 hRc hp, rp_7 hRc hp, rp_8 hRc hp, rp_10 hRc hp, rp_11 hRc hp, rp_12 hRc hp, rp_13 hRc hp, rp_14 hRc hp, rp_16 hRc hp, rp_17 hRc hp, rp_18 hRc hp, rp_19 hRc hp, sp_13 hp, rl_2 hRc hp, rl_3 hRc hp, rl_5 hRc hp, rl_6 hRc hp, rl_7 hRc hp, aI_of (sp_1 hp), aI_of (sp_2 hp), aI_of (sp_3 hp), aI_of (sp_4 hp), aI_of (sp_5 hp), aI_of (sp_6 hp), aI_of (sp_7 hp), aI_of (sp_8 hp), aI_of (sp_9 hp), aI_of (sp_10 hp), aI_of (sp_11 hp), aI_of (sp_12 hp), aI_of (sp_14 hp), aI_of (sp_15 hp), aI_of (sp_16 hp), aI_of (sp_17 hp), wf_oc h P (Or.inl (by omega)), wf_oc h (P + 1) (Or.inl (by omega)), wf_oc h (P + 2) (Or.inl (by omega)), wf_oc h (P + 3) (Or.inl (by omega)), wf_oc h (P + 4) (Or.inl (by omega)), wf_oc h (P + 5) (Or.inl (by omega)), wf_oc h (P + 6) (Or.inl (by omega)), wf_oc h (P + 7) (Or.inl (by omega)), wf_oc h (P + 8) (Or.inl (by omega)), wf_oc h (P + 9) (Or.inl (by omega)), wf_oc h (P + 10) (Or.inl (by omega)), wf_oc h (P + 11) (Or.inl (by omega)), wf_oc h (P + 12) (Or.inl (by omega)), wf_oc h (P + 13) (Or.inl (by omega)), wf_oc h (P + 14) (Or.inl (by omega)), wf_oc h (P + 15) (Or.inl (by omega)), wf_oc h (P + 16) (Or.inl (by omega)), wf_oc h (P + 17) (Or.inl (by omega))]
      rw [p0_ba (wf_pr h) k hk]
    · rw [if_neg h2, key x (Or.inr h2)]
theorem e_benchAt {P q s nw nb nr tp : Nat} {c0 m0 c m : xD} (h : WF P q s nw nb nr tp c0 m0 c m) (x : Int32) : f_X10_benchAt shA 99 x m = some (findI (m0.1 103) x 0 nb, m) := by
  have hRc := wf_rc h; have hRm := wf_rm h; have hq := wf_sq h; have hp := pr_pl (wf_pr h); have hs23 := wf_s23 h; have hqr := isSc_ge hq; have hpr := isPl_le hp; have hw6 := pr_w6 (wf_pr h); have hb8 := pr_b8 (wf_pr h); have hr12 := pr_r12 (wf_pr h); have ht2 := pr_t2 (wf_pr h); have ht60 := pr_t60 (wf_pr h)
  unfold f_X10_benchAt
  simp (disch := omega) only [xgI, xgL, xgR, xpL, xon, Option.bind_some, ↓reduceIte, nI_1, nI_add, m6_, m8_, xz_0, xz_1, sA_99, rf_99_1 hRm, rf_99_3 hRm, rf_99_4 hRm, rf_99_5 hRm, rf_99_6 hRm, rf_99_7 hRm, rf_99_8 hRm, rf_99_9 hRm, rf_99_10 hRm, rf_99_11 hRm, rf_99_12 hRm, rf_99_13 hRm, rf_99_14 hRm, rf_99_15 hRm, rf_99_16 hRm, rf_99_17 hRm, rf_99_18 hRm, rf_99_32 hRm, rf_99_33 hRm, rf_99_35 hRm, rf_99_36 hRm, rf_99_37 hRm, rf_99_38 hRm, rf_99_39 hRm, rf_99_40 hRm, rf_99_41 hRm, rf_99_42 hRm, rf_99_43 hRm, rf_99_44 hRm, rf_99_45 hRm, rf_99_46 hRm, rf_99_47 hRm, rf_99_56 hRm, rf_99_59 hRm, rf_99_60 hRm, rf_99_61 hRm, rf_99_62 hRm, rf_99_63 hRm, rf_99_64 hRm, aI_of sA_101, aI_of sA_102, aI_of sA_103, aI_of sA_104, aI_of sA_105, aI_of sA_106, aI_of sA_107, aI_of sA_108, aI_of sA_109, aI_of sA_110, aI_of sA_111, aI_of sA_112, aI_of sA_113, aI_of sA_114, aI_of sA_115, aI_of sA_116, aI_of sA_119, aI_of sA_120, aI_of sA_121, aI_of sA_122, aI_of sA_123, aI_of sA_124, aI_of sA_125, aI_of sA_126, aI_of sA_127, aI_of sA_128, aI_of sA_129, aI_of sA_130, aI_of sA_131, aI_of sA_132, aI_of sA_133, aI_of sA_134, aI_of sA_135, aI_of sA_137, sI_of sA_101, sI_of sA_102, sI_of sA_103, sI_of sA_104, sI_of sA_105, sI_of sA_106, sI_of sA_107, sI_of sA_108, sI_of sA_109, sI_of sA_110, sI_of sA_111, sI_of sA_112, sI_of sA_113, sI_of sA_114, sI_of sA_115, sI_of sA_116, sI_of sA_119, sI_of sA_120, sI_of sA_121, sI_of sA_122, sI_of sA_123, sI_of sA_124, sI_of sA_125, sI_of sA_126, sI_of sA_127, sI_of sA_128, sI_of sA_129, sI_of sA_130, sI_of sA_131, sI_of sA_132, sI_of sA_133, sI_of sA_134, sI_of sA_135, sI_of sA_137, aN_0, aN_1, aN_2, aN_3, aN_4, aN_5, aN_6, aN_7, pM_34, pM_53, wf_om h 101 (Or.inl (by omega)) (by omega), wf_om h 102 (Or.inl (by omega)) (by omega), wf_om h 103 (Or.inl (by omega)) (by omega), wf_om h 104 (Or.inl (by omega)) (by omega), wf_om h 105 (Or.inl (by omega)) (by omega), wf_om h 106 (Or.inl (by omega)) (by omega), wf_om h 107 (Or.inl (by omega)) (by omega), wf_om h 108 (Or.inl (by omega)) (by omega), wf_om h 109 (Or.inl (by omega)) (by omega), wf_om h 110 (Or.inl (by omega)) (by omega), wf_om h 111 (Or.inl (by omega)) (by omega), wf_om h 112 (Or.inl (by omega)) (by omega), wf_om h 113 (Or.inl (by omega)) (by omega), wf_om h 114 (Or.inl (by omega)) (by omega), wf_om h 115 (Or.inl (by omega)) (by omega), wf_om h 116 (Or.inl (by omega)) (by omega), wf_o9 h 50 (by omega) (by omega), wf_o9 h 51 (by omega) (by omega), wf_o9 h 52 (by omega) (by omega), wf_o9 h 54 (by omega) (by omega), wf_o9 h 55 (by omega) (by omega)]
  rw [p0_mB (wf_pr h)]
  have e1 := X10_found (d := m) (v := x) (o := 0) (n := nb) sA_103 (by omega) (by omega) (xF_big (by omega))
  rw [show (0 : Int32) = nI 0 from rfl, e1]
  simp only [Option.bind_some, Nat.zero_add, wf_om h 101 (Or.inl (by omega)) (by omega), wf_om h 102 (Or.inl (by omega)) (by omega), wf_om h 103 (Or.inl (by omega)) (by omega), wf_om h 104 (Or.inl (by omega)) (by omega), wf_om h 105 (Or.inl (by omega)) (by omega), wf_om h 106 (Or.inl (by omega)) (by omega), wf_om h 107 (Or.inl (by omega)) (by omega), wf_om h 108 (Or.inl (by omega)) (by omega), wf_om h 109 (Or.inl (by omega)) (by omega), wf_om h 110 (Or.inl (by omega)) (by omega), wf_om h 111 (Or.inl (by omega)) (by omega), wf_om h 112 (Or.inl (by omega)) (by omega), wf_om h 113 (Or.inl (by omega)) (by omega), wf_om h 114 (Or.inl (by omega)) (by omega), wf_om h 115 (Or.inl (by omega)) (by omega), wf_om h 116 (Or.inl (by omega)) (by omega), wf_o9 h 50 (by omega) (by omega), wf_o9 h 51 (by omega) (by omega), wf_o9 h 52 (by omega) (by omega), wf_o9 h 54 (by omega) (by omega), wf_o9 h 55 (by omega) (by omega)]
theorem e_found {P q s nw nb nr tp : Nat} {c0 m0 c m : xD} (h : WF P q s nw nb nr tp c0 m0 c m) {x : Int32} (hx : ¬ findI (m0.1 103) x 0 nb = -1) : ∃ b, b < nb ∧ findI (m0.1 103) x 0 nb = nI b ∧ m0.1 103 b = x := by
  rcases findI_spec (m0.1 103) x nb 0 with ⟨h1, _⟩ | ⟨j, h1, h2, h3, h4⟩
  · exact absurd h1 hx
  · exact ⟨j, by omega, h3, h4⟩
theorem e_foundAt {P q s nw nb nr tp : Nat} {c0 m0 c m : xD} (h : WF P q s nw nb nr tp c0 m0 c m) {b : Nat} (hb : b < nb) : findI (m0.1 103) (m0.1 103 b) 0 nb = nI b := by
  rcases findI_spec (m0.1 103) (m0.1 103 b) nb 0 with ⟨_, h2⟩ | ⟨j, h1, h2, h3, h4⟩
  · exact absurd rfl (h2 b (by omega) (by omega))
  · rw [h3, p0_bd (wf_pr h) j b (by omega) hb h4]
theorem sitB_congr {f g f' g' : Nat → Int32} {w w' : Int32} : ∀ n i acc, (∀ j, i ≤ j → j < i + n → ((f j = 2 ∧ g j = w) ↔ (f' j = 2 ∧ g' j = w'))) → sitB f g w i n acc = sitB f' g' w' i n acc := by
  intro n
  induction n with
  | zero => intro i acc _; rfl
  | succ n ih =>
    intro i acc hh
    unfold sitB
    rw [ih (i + 1) _ (fun j h1 h2 => hh j (by omega) (by omega))]
    by_cases hc : f i = 2 ∧ g i = w
    · rw [if_pos hc, if_pos ((hh i (by omega) (by omega)).mp hc)]
    · rw [if_neg hc, if_neg (fun z => hc ((hh i (by omega) (by omega)).mpr z))]
theorem sitB_bt {f g : Nat → Int32} {w : Int32} {k : Nat} (hk : k < 32) : ∀ n i acc, i + n ≤ 32 → bt (sitB f g w i n acc) k = (bt acc k || decide (i ≤ k ∧ k < i + n ∧ f k = 2 ∧ g k = w)) := by
  intro n
  induction n with
  | zero => intro i acc _; unfold sitB; rw [decide_eq_false (by omega), Bool.or_false]
  | succ n ih =>
    intro i acc hh
    unfold sitB
    rw [ih (i + 1) _ (by omega)]
    by_cases hc : f i = 2 ∧ g i = w
    · rw [if_pos hc, b_or1 _ (by omega) hk]
      by_cases e : k = i
      · subst e
        rw [decide_eq_true rfl, decide_eq_true (show k ≤ k ∧ k < k + (n + 1) ∧ f k = 2 ∧ g k = w from ⟨by omega, by omega, hc.1, hc.2⟩)]
        simp
      · rw [decide_eq_false e, Bool.or_false]
        congr 1
        apply decide_eq_decide.mpr
        constructor
        · rintro ⟨a1, a2, a3⟩; exact ⟨by omega, by omega, a3⟩
        · rintro ⟨a1, a2, a3⟩; exact ⟨by omega, by omega, a3⟩
    · rw [if_neg hc]
      congr 1
      apply decide_eq_decide.mpr
      constructor
      · rintro ⟨a1, a2, a3⟩; exact ⟨by omega, by omega, a3⟩
      · rintro ⟨a1, a2, a3⟩
        have : k ≠ i := fun e => hc (e ▸ a3)
        exact ⟨by omega, by omega, a3⟩
theorem small6 {x : Int32} {w : Nat} (hw : w ≤ 31) (h : ∀ k, w ≤ k → k < 32 → bt x k = false) : ∃ n, n < 2 ^ w ∧ x = nI n := by
  refine ⟨x.toBitVec.toNat, ?_, ?_⟩
  · apply Nat.lt_pow_two_of_testBit
    intro i hi
    by_cases h2 : i < 32
    · have := h i hi h2
      unfold bt at this
      rw [BitVec.testBit_toNat]
      exact this
    · rw [BitVec.testBit_toNat]
      exact BitVec.getLsbD_of_ge _ _ (by omega)
  · apply Int32.toBitVec_inj.mp
    show x.toBitVec = BitVec.ofNat 32 x.toBitVec.toNat
    rw [BitVec.ofNat_toNat, BitVec.setWidth_eq]
/-- the reference's count of bits -/
def bo (x : Int32) : Nat → Nat → Int32 → Int32
  | _, 0, acc => acc
  | k, n + 1, acc => bo x (k + 1) n (acc + ((x >>> (nI k &&& 31)) &&& (1 : Int32)))
theorem bitsOf_loop {x : Int32} {d : xD} : ∀ n k F acc, k + n = 12 → n < F → xloop (fun _ _ _ _ => none) (b_X10_bitsOf_4 shA) F x acc (nI k) d = some (bo x k n acc, d) := by
  intro n
  induction n with
  | zero =>
    intro k F acc h1 h2
    obtain ⟨F, rfl⟩ : ∃ G, F = G + 1 := ⟨F - 1, by omega⟩
    rw [loop_s, b_X10_bitsOf_4, if_pos (show (12 : Int32) ≤ nI k from nI_le (a := 12) (by omega) (by omega))]
    rfl
  | succ n ih =>
    intro k F acc h1 h2
    obtain ⟨F, rfl⟩ : ∃ G, F = G + 1 := ⟨F - 1, by omega⟩
    rw [loop_s, b_X10_bitsOf_4, if_neg (show ¬ (12 : Int32) ≤ nI k from nI_ge (b := 12) (by omega) (by omega)), nI_1]
    exact ih (k + 1) F _ (by omega) (by omega)
theorem e_bitsOf (x : Int32) (d : xD) : f_X10_bitsOf shA x d = some (bo x 0 12 0, d) := bitsOf_loop 12 0 xF 0 rfl (xF_big (by omega))
theorem bc_dec : ∀ n : Fin 256, (f_J6_bitCount_0f7a4 shA (nI n.val) xZD).map Prod.fst = some (bo (nI n.val) 0 12 0) := by decide +kernel
theorem bo_dec : ∀ n : Fin 256, ∃ k : Fin 9, bo (nI n.val) 0 12 0 = nI k.val := by decide +kernel
theorem e_bitCount {n : Nat} (hn : n < 256) (d : xD) : f_J6_bitCount_0f7a4 shA (nI n) d = some (bo (nI n) 0 12 0, d) := by
  have h1 := bc_dec ⟨n, hn⟩
  have h2 : f_J6_bitCount_0f7a4 shA (nI n) d = (f_J6_bitCount_0f7a4 shA (nI n) xZD).map (fun z => (z.1, d)) := rfl
  rw [h2]
  cases h3 : f_J6_bitCount_0f7a4 shA (nI n) xZD with
  | none => rw [h3] at h1; simp at h1
  | some z => rw [h3] at h1; simp only [Option.map_some, Option.some.injEq] at h1 ⊢; rw [h1]
/-- who sits on bench b, by the slot -/
def sit (Y : Nat → Nat → Int32) (nw b : Nat) : Int32 := sitB (Y 5) (Y 8) (nI b) 0 nw 0
theorem sit_bt {Y : Nat → Nat → Int32} {nw b k : Nat} (hw : nw ≤ 6) (hk : k < 32) : bt (sit Y nw b) k = decide (k < nw ∧ Y 5 k = 2 ∧ Y 8 k = nI b) := by
  unfold sit
  rw [sitB_bt hk nw 0 0 (by omega), b_0, Bool.false_or]
  apply decide_eq_decide.mpr
  constructor
  · rintro ⟨_, a2, a3⟩; exact ⟨by omega, a3⟩
  · rintro ⟨a2, a3⟩; exact ⟨by omega, by omega, a3⟩
theorem sit_small {Y : Nat → Nat → Int32} {nw b : Nat} (hw : nw ≤ 6) : ∃ n, n < 64 ∧ sit Y nw b = nI n :=
  small6 (w := 6) (by omega) (fun k h1 h2 => by rw [sit_bt hw h2]; exact decide_eq_false (by omega))
theorem e_cnt {Y : Nat → Nat → Int32} {nw b : Nat} (hw : nw ≤ 6) (d : xD) : f_J6_bitCount_0f7a4 shA (sit Y nw b) d = some (bo (sit Y nw b) 0 12 0, d) ∧ ∃ k, k ≤ 8 ∧ bo (sit Y nw b) 0 12 0 = nI k := by
  obtain ⟨n, hn, e⟩ := sit_small (Y := Y) (b := b) hw
  rw [e]
  obtain ⟨k, hk⟩ := bo_dec ⟨n, by omega⟩
  exact ⟨e_bitCount (by omega) d, k.val, by omega, hk⟩
theorem sitting_loop {P q s nw nb nr tp : Nat} {c0 m0 c m : xD} (h : WF P q s nw nb nr tp c0 m0 c m) {b : Nat} : ∀ n i F acc, i + n = nw → n < F → xloop (fun _ _ _ _ _ _ => none) (b_X10_sitting_5 shA) F 99 (nI s) (nI b) acc (nI i) m = some (sitB (vM s m.1 5) (vM s m.1 8) (nI b) i n acc, m) := by
  have hRc := wf_rc h; have hRm := wf_rm h; have hq := wf_sq h; have hp := pr_pl (wf_pr h); have hs23 := wf_s23 h; have hqr := isSc_ge hq; have hpr := isPl_le hp; have hw6 := pr_w6 (wf_pr h); have hb8 := pr_b8 (wf_pr h); have hr12 := pr_r12 (wf_pr h); have ht2 := pr_t2 (wf_pr h); have ht60 := pr_t60 (wf_pr h)
  intro n
  induction n with
  | zero =>
    intro i F acc h1 h2
    obtain ⟨F, rfl⟩ : ∃ G, F = G + 1 := ⟨F - 1, by omega⟩
    rw [loop_s, b_X10_sitting_5]
    simp (disch := omega) only [xgI, xgL, xgR, xpL, xon, Option.bind_some, ↓reduceIte, nI_1, nI_add, m6_, m8_, xz_0, xz_1, sA_99, rf_99_1 hRm, rf_99_3 hRm, rf_99_4 hRm, rf_99_5 hRm, rf_99_6 hRm, rf_99_7 hRm, rf_99_8 hRm, rf_99_9 hRm, rf_99_10 hRm, rf_99_11 hRm, rf_99_12 hRm, rf_99_13 hRm, rf_99_14 hRm, rf_99_15 hRm, rf_99_16 hRm, rf_99_17 hRm, rf_99_18 hRm, rf_99_32 hRm, rf_99_33 hRm, rf_99_35 hRm, rf_99_36 hRm, rf_99_37 hRm, rf_99_38 hRm, rf_99_39 hRm, rf_99_40 hRm, rf_99_41 hRm, rf_99_42 hRm, rf_99_43 hRm, rf_99_44 hRm, rf_99_45 hRm, rf_99_46 hRm, rf_99_47 hRm, rf_99_56 hRm, rf_99_59 hRm, rf_99_60 hRm, rf_99_61 hRm, rf_99_62 hRm, rf_99_63 hRm, rf_99_64 hRm, aI_of sA_101, aI_of sA_102, aI_of sA_103, aI_of sA_104, aI_of sA_105, aI_of sA_106, aI_of sA_107, aI_of sA_108, aI_of sA_109, aI_of sA_110, aI_of sA_111, aI_of sA_112, aI_of sA_113, aI_of sA_114, aI_of sA_115, aI_of sA_116, aI_of sA_119, aI_of sA_120, aI_of sA_121, aI_of sA_122, aI_of sA_123, aI_of sA_124, aI_of sA_125, aI_of sA_126, aI_of sA_127, aI_of sA_128, aI_of sA_129, aI_of sA_130, aI_of sA_131, aI_of sA_132, aI_of sA_133, aI_of sA_134, aI_of sA_135, aI_of sA_137, sI_of sA_101, sI_of sA_102, sI_of sA_103, sI_of sA_104, sI_of sA_105, sI_of sA_106, sI_of sA_107, sI_of sA_108, sI_of sA_109, sI_of sA_110, sI_of sA_111, sI_of sA_112, sI_of sA_113, sI_of sA_114, sI_of sA_115, sI_of sA_116, sI_of sA_119, sI_of sA_120, sI_of sA_121, sI_of sA_122, sI_of sA_123, sI_of sA_124, sI_of sA_125, sI_of sA_126, sI_of sA_127, sI_of sA_128, sI_of sA_129, sI_of sA_130, sI_of sA_131, sI_of sA_132, sI_of sA_133, sI_of sA_134, sI_of sA_135, sI_of sA_137, aN_0, aN_1, aN_2, aN_3, aN_4, aN_5, aN_6, aN_7, pM_34, pM_53, wf_om h 101 (Or.inl (by omega)) (by omega), wf_om h 102 (Or.inl (by omega)) (by omega), wf_om h 103 (Or.inl (by omega)) (by omega), wf_om h 104 (Or.inl (by omega)) (by omega), wf_om h 105 (Or.inl (by omega)) (by omega), wf_om h 106 (Or.inl (by omega)) (by omega), wf_om h 107 (Or.inl (by omega)) (by omega), wf_om h 108 (Or.inl (by omega)) (by omega), wf_om h 109 (Or.inl (by omega)) (by omega), wf_om h 110 (Or.inl (by omega)) (by omega), wf_om h 111 (Or.inl (by omega)) (by omega), wf_om h 112 (Or.inl (by omega)) (by omega), wf_om h 113 (Or.inl (by omega)) (by omega), wf_om h 114 (Or.inl (by omega)) (by omega), wf_om h 115 (Or.inl (by omega)) (by omega), wf_om h 116 (Or.inl (by omega)) (by omega), wf_o9 h 50 (by omega) (by omega), wf_o9 h 51 (by omega) (by omega), wf_o9 h 52 (by omega) (by omega), wf_o9 h 54 (by omega) (by omega), wf_o9 h 55 (by omega) (by omega), p0_mW (wf_pr h)]
    rw [if_pos (nI_le (by omega) (by omega))]
    rfl
  | succ n ih =>
    intro i F acc h1 h2
    obtain ⟨F, rfl⟩ : ∃ G, F = G + 1 := ⟨F - 1, by omega⟩
    rw [loop_s, b_X10_sitting_5]
    simp (disch := omega) only [xgI, xgL, xgR, xpL, xon, Option.bind_some, ↓reduceIte, nI_1, nI_add, m6_, m8_, xz_0, xz_1, sA_99, rf_99_1 hRm, rf_99_3 hRm, rf_99_4 hRm, rf_99_5 hRm, rf_99_6 hRm, rf_99_7 hRm, rf_99_8 hRm, rf_99_9 hRm, rf_99_10 hRm, rf_99_11 hRm, rf_99_12 hRm, rf_99_13 hRm, rf_99_14 hRm, rf_99_15 hRm, rf_99_16 hRm, rf_99_17 hRm, rf_99_18 hRm, rf_99_32 hRm, rf_99_33 hRm, rf_99_35 hRm, rf_99_36 hRm, rf_99_37 hRm, rf_99_38 hRm, rf_99_39 hRm, rf_99_40 hRm, rf_99_41 hRm, rf_99_42 hRm, rf_99_43 hRm, rf_99_44 hRm, rf_99_45 hRm, rf_99_46 hRm, rf_99_47 hRm, rf_99_56 hRm, rf_99_59 hRm, rf_99_60 hRm, rf_99_61 hRm, rf_99_62 hRm, rf_99_63 hRm, rf_99_64 hRm, aI_of sA_101, aI_of sA_102, aI_of sA_103, aI_of sA_104, aI_of sA_105, aI_of sA_106, aI_of sA_107, aI_of sA_108, aI_of sA_109, aI_of sA_110, aI_of sA_111, aI_of sA_112, aI_of sA_113, aI_of sA_114, aI_of sA_115, aI_of sA_116, aI_of sA_119, aI_of sA_120, aI_of sA_121, aI_of sA_122, aI_of sA_123, aI_of sA_124, aI_of sA_125, aI_of sA_126, aI_of sA_127, aI_of sA_128, aI_of sA_129, aI_of sA_130, aI_of sA_131, aI_of sA_132, aI_of sA_133, aI_of sA_134, aI_of sA_135, aI_of sA_137, sI_of sA_101, sI_of sA_102, sI_of sA_103, sI_of sA_104, sI_of sA_105, sI_of sA_106, sI_of sA_107, sI_of sA_108, sI_of sA_109, sI_of sA_110, sI_of sA_111, sI_of sA_112, sI_of sA_113, sI_of sA_114, sI_of sA_115, sI_of sA_116, sI_of sA_119, sI_of sA_120, sI_of sA_121, sI_of sA_122, sI_of sA_123, sI_of sA_124, sI_of sA_125, sI_of sA_126, sI_of sA_127, sI_of sA_128, sI_of sA_129, sI_of sA_130, sI_of sA_131, sI_of sA_132, sI_of sA_133, sI_of sA_134, sI_of sA_135, sI_of sA_137, aN_0, aN_1, aN_2, aN_3, aN_4, aN_5, aN_6, aN_7, pM_34, pM_53, wf_om h 101 (Or.inl (by omega)) (by omega), wf_om h 102 (Or.inl (by omega)) (by omega), wf_om h 103 (Or.inl (by omega)) (by omega), wf_om h 104 (Or.inl (by omega)) (by omega), wf_om h 105 (Or.inl (by omega)) (by omega), wf_om h 106 (Or.inl (by omega)) (by omega), wf_om h 107 (Or.inl (by omega)) (by omega), wf_om h 108 (Or.inl (by omega)) (by omega), wf_om h 109 (Or.inl (by omega)) (by omega), wf_om h 110 (Or.inl (by omega)) (by omega), wf_om h 111 (Or.inl (by omega)) (by omega), wf_om h 112 (Or.inl (by omega)) (by omega), wf_om h 113 (Or.inl (by omega)) (by omega), wf_om h 114 (Or.inl (by omega)) (by omega), wf_om h 115 (Or.inl (by omega)) (by omega), wf_om h 116 (Or.inl (by omega)) (by omega), wf_o9 h 50 (by omega) (by omega), wf_o9 h 51 (by omega) (by omega), wf_o9 h 52 (by omega) (by omega), wf_o9 h 54 (by omega) (by omega), wf_o9 h 55 (by omega) (by omega), p0_mW (wf_pr h)]
    rw [if_neg (nI_ge (by omega) (by omega))]
    unfold sitB k_X10_sitting_56 k_X10_sitting_57
    simp only [rM_124, rM_127, nI_1]
    have z0 : ∀ a : Int32, a ||| 0 = a := fun a => by apply b_ext; intro i _; rw [b_or, b_0, Bool.or_false]
    rw [z0]
    by_cases hc : vM s m.1 5 i = 2
    · by_cases hd : vM s m.1 8 i = nI b
      · rw [if_pos hc, if_pos hd, if_pos ⟨hc, hd⟩]; exact ih (i + 1) F _ (by omega) (by omega)
      · rw [if_pos hc, if_neg hd, if_neg (fun z => hd z.2)]; exact ih (i + 1) F _ (by omega) (by omega)
    · rw [if_neg hc, if_neg (fun z => hc z.1)]; exact ih (i + 1) F _ (by omega) (by omega)
theorem e_sitM {P q s nw nb nr tp : Nat} {c0 m0 c m : xD} (h : WF P q s nw nb nr tp c0 m0 c m) (b : Nat) : f_X10_sitting shA 99 (nI s) (nI b) m = some (sit (vM s m.1) nw b, m) := by
  have hRc := wf_rc h; have hRm := wf_rm h; have hq := wf_sq h; have hp := pr_pl (wf_pr h); have hs23 := wf_s23 h; have hqr := isSc_ge hq; have hpr := isPl_le hp; have hw6 := pr_w6 (wf_pr h); have hb8 := pr_b8 (wf_pr h); have hr12 := pr_r12 (wf_pr h); have ht2 := pr_t2 (wf_pr h); have ht60 := pr_t60 (wf_pr h)
  exact sitting_loop h (b := b) nw 0 xF 0 (by omega) (xF_big (by omega))
theorem e_sitC {P q s nw nb nr tp : Nat} {c0 m0 c m : xD} (h : WF P q s nw nb nr tp c0 m0 c m) {e tl : Nat} {mt : Nat → Nat → Prop} {fl : Prop} (hs : SC nw nb nr e tp tl mt fl m0.1 (m.1 99 53) (vC q c.1) (c.2.1 q 3) (vM s m.1)) {b : Nat} (hb : b < nb) : f_X4_sittersOn shA q (m0.1 103 b) c = some (sit (vM s m.1) nw b, c) := by
  have hRc := wf_rc h; have hRm := wf_rm h; have hq := wf_sq h; have hp := pr_pl (wf_pr h); have hs23 := wf_s23 h; have hqr := isSc_ge hq; have hpr := isPl_le hp; have hw6 := pr_w6 (wf_pr h); have hb8 := pr_b8 (wf_pr h); have hr12 := pr_r12 (wf_pr h); have ht2 := pr_t2 (wf_pr h); have ht60 := pr_t60 (wf_pr h)
  rw [X4_sittersOn hRc hq (sc_cw hs) hw6]
  unfold sit
  congr 2
  apply sitB_congr
  intro j h1 h2
  have e1 : c.1 (q + 1) j = vM s m.1 5 j := sc_st hs j (by omega)
  obtain ⟨a, ha, e2, e3⟩ := sc_sp hs j (by omega)
  have e2' : c.1 (q + 2) j = nI a := e2
  rw [e1, e2']
  constructor
  · rintro ⟨z1, z2⟩
    refine ⟨z1, ?_⟩
    obtain ⟨b', hb', e4, e5⟩ := sc_so hs j (by omega) z1
    rw [e3, z2] at e5
    rw [e4, p0_bd (wf_pr h) b' b hb' hb e5]
  · rintro ⟨z1, z2⟩
    refine ⟨z1, ?_⟩
    obtain ⟨b', hb', e4, e5⟩ := sc_so hs j (by omega) z1
    rw [z2] at e4
    rw [e3] at e5
    rw [← e5, (nI_eq (by omega) (by omega)).mp e4]
theorem fr_dec : ∀ a : Fin 4, ∀ k : Fin 9, (0 < nI a.val - nI k.val ↔ ¬ nI a.val ≤ nI k.val) := by decide +kernel
theorem e_seats {P q s nw nb nr tp : Nat} {c0 m0 c m : xD} (h : WF P q s nw nb nr tp c0 m0 c m) {b : Nat} (hb : b < nb) : ∃ a, 1 ≤ a ∧ a ≤ 3 ∧ (if m0.1 99 50 = 5 then (3 : Int32) else m0.1 104 b) = nI a := by
  obtain ⟨a, ha1, ha2, _, ha4⟩ := p0_bc (wf_pr h) b hb
  by_cases h5 : m0.1 99 50 = 5
  · rw [if_pos h5]; exact ⟨3, by omega, by omega, rfl⟩
  · rw [if_neg h5]; exact ⟨a, ha1, ha2, ha4⟩
theorem e_freeC {P q s nw nb nr tp : Nat} {c0 m0 c m : xD} (h : WF P q s nw nb nr tp c0 m0 c m) {e tl : Nat} {mt : Nat → Nat → Prop} {fl : Prop} (hs : SC nw nb nr e tp tl mt fl m0.1 (m.1 99 53) (vC q c.1) (c.2.1 q 3) (vM s m.1)) {b a k : Nat} (hb : b < nb) (e1 : f_J6_bitCount_0f7a4 shA (sit (vM s m.1) nw b) c = some (nI k, c)) (e4 : (if m0.1 99 50 = 5 then (3 : Int32) else m0.1 104 b) = nI a) : f_X4_seatFree shA q (nI b) (m0.1 103 b) c = some (if decide (¬ nI a ≤ nI k) then 1 else 0, c) := by
  have hRc := wf_rc h; have hRm := wf_rm h; have hq := wf_sq h; have hp := pr_pl (wf_pr h); have hs23 := wf_s23 h; have hqr := isSc_ge hq; have hpr := isPl_le hp; have hw6 := pr_w6 (wf_pr h); have hb8 := pr_b8 (wf_pr h); have hr12 := pr_r12 (wf_pr h); have ht2 := pr_t2 (wf_pr h); have ht60 := pr_t60 (wf_pr h)
  have e3 : c.1 (q + 8) b = (if m0.1 99 50 = 5 then 3 else m0.1 104 b) := sc_se hs b hb
  rw [e4] at e3
  have e5 := e_sitC h hs hb
  unfold f_X4_seatFree
  rw [on_of (ss_0 hq), e5, Option.bind_some, e1, Option.bind_some, gR_of (ss_0 hq) (rs_12 hRc hq), Option.bind_some, aI_of (ss_8 hq) (by omega) (by omega), Option.bind_some, e3]
  unfold k_X4_seatFree_22
  by_cases hc : nI a ≤ nI k
  · simp only [if_pos hc, xz_0, Option.bind_some, decide_eq_false (not_not_intro hc)]; rfl
  · simp only [if_neg hc, xz_1, Option.bind_some, decide_eq_true hc, ↓reduceIte]
theorem e_freeM {P q s nw nb nr tp : Nat} {c0 m0 c m : xD} (h : WF P q s nw nb nr tp c0 m0 c m) {b a k : Nat} (hb : b < nb) (e1 : bo (sit (vM s m.1) nw b) 0 12 0 = nI k) (e4 : (if m0.1 99 50 = 5 then (3 : Int32) else m0.1 104 b) = nI a) : f_X10_freeOn shA 99 (nI s) (nI b) m = some (nI a - nI k, m) := by
  have hRc := wf_rc h; have hRm := wf_rm h; have hq := wf_sq h; have hp := pr_pl (wf_pr h); have hs23 := wf_s23 h; have hqr := isSc_ge hq; have hpr := isPl_le hp; have hw6 := pr_w6 (wf_pr h); have hb8 := pr_b8 (wf_pr h); have hr12 := pr_r12 (wf_pr h); have ht2 := pr_t2 (wf_pr h); have ht60 := pr_t60 (wf_pr h)
  unfold f_X10_freeOn k_X10_freeOn_18
  simp (disch := omega) only [xgI, xgL, xgR, xpL, xon, Option.bind_some, ↓reduceIte, nI_1, nI_add, m6_, m8_, xz_0, xz_1, sA_99, rf_99_1 hRm, rf_99_3 hRm, rf_99_4 hRm, rf_99_5 hRm, rf_99_6 hRm, rf_99_7 hRm, rf_99_8 hRm, rf_99_9 hRm, rf_99_10 hRm, rf_99_11 hRm, rf_99_12 hRm, rf_99_13 hRm, rf_99_14 hRm, rf_99_15 hRm, rf_99_16 hRm, rf_99_17 hRm, rf_99_18 hRm, rf_99_32 hRm, rf_99_33 hRm, rf_99_35 hRm, rf_99_36 hRm, rf_99_37 hRm, rf_99_38 hRm, rf_99_39 hRm, rf_99_40 hRm, rf_99_41 hRm, rf_99_42 hRm, rf_99_43 hRm, rf_99_44 hRm, rf_99_45 hRm, rf_99_46 hRm, rf_99_47 hRm, rf_99_56 hRm, rf_99_59 hRm, rf_99_60 hRm, rf_99_61 hRm, rf_99_62 hRm, rf_99_63 hRm, rf_99_64 hRm, aI_of sA_101, aI_of sA_102, aI_of sA_103, aI_of sA_104, aI_of sA_105, aI_of sA_106, aI_of sA_107, aI_of sA_108, aI_of sA_109, aI_of sA_110, aI_of sA_111, aI_of sA_112, aI_of sA_113, aI_of sA_114, aI_of sA_115, aI_of sA_116, aI_of sA_119, aI_of sA_120, aI_of sA_121, aI_of sA_122, aI_of sA_123, aI_of sA_124, aI_of sA_125, aI_of sA_126, aI_of sA_127, aI_of sA_128, aI_of sA_129, aI_of sA_130, aI_of sA_131, aI_of sA_132, aI_of sA_133, aI_of sA_134, aI_of sA_135, aI_of sA_137, sI_of sA_101, sI_of sA_102, sI_of sA_103, sI_of sA_104, sI_of sA_105, sI_of sA_106, sI_of sA_107, sI_of sA_108, sI_of sA_109, sI_of sA_110, sI_of sA_111, sI_of sA_112, sI_of sA_113, sI_of sA_114, sI_of sA_115, sI_of sA_116, sI_of sA_119, sI_of sA_120, sI_of sA_121, sI_of sA_122, sI_of sA_123, sI_of sA_124, sI_of sA_125, sI_of sA_126, sI_of sA_127, sI_of sA_128, sI_of sA_129, sI_of sA_130, sI_of sA_131, sI_of sA_132, sI_of sA_133, sI_of sA_134, sI_of sA_135, sI_of sA_137, aN_0, aN_1, aN_2, aN_3, aN_4, aN_5, aN_6, aN_7, pM_34, pM_53, wf_om h 101 (Or.inl (by omega)) (by omega), wf_om h 102 (Or.inl (by omega)) (by omega), wf_om h 103 (Or.inl (by omega)) (by omega), wf_om h 104 (Or.inl (by omega)) (by omega), wf_om h 105 (Or.inl (by omega)) (by omega), wf_om h 106 (Or.inl (by omega)) (by omega), wf_om h 107 (Or.inl (by omega)) (by omega), wf_om h 108 (Or.inl (by omega)) (by omega), wf_om h 109 (Or.inl (by omega)) (by omega), wf_om h 110 (Or.inl (by omega)) (by omega), wf_om h 111 (Or.inl (by omega)) (by omega), wf_om h 112 (Or.inl (by omega)) (by omega), wf_om h 113 (Or.inl (by omega)) (by omega), wf_om h 114 (Or.inl (by omega)) (by omega), wf_om h 115 (Or.inl (by omega)) (by omega), wf_om h 116 (Or.inl (by omega)) (by omega), wf_o9 h 50 (by omega) (by omega), wf_o9 h 51 (by omega) (by omega), wf_o9 h 52 (by omega) (by omega), wf_o9 h 54 (by omega) (by omega), wf_o9 h 55 (by omega) (by omega), e_sitM h, e_bitsOf, e1]
  by_cases h5 : m0.1 99 50 = 5
  · rw [if_pos h5] at e4 ⊢; rw [e4]
  · rw [if_neg h5] at e4 ⊢; rw [e4]
theorem e_free {P q s nw nb nr tp : Nat} {c0 m0 c m : xD} (h : WF P q s nw nb nr tp c0 m0 c m) {e tl : Nat} {mt : Nat → Nat → Prop} {fl : Prop} (hs : SC nw nb nr e tp tl mt fl m0.1 (m.1 99 53) (vC q c.1) (c.2.1 q 3) (vM s m.1)) {b : Nat} (hb : b < nb) : ∃ (fr : Bool) (v : Int32), f_X4_seatFree shA q (nI b) (m0.1 103 b) c = some (if fr then 1 else 0, c) ∧ f_X10_freeOn shA 99 (nI s) (nI b) m = some (v, m) ∧ (0 < v ↔ fr = true) := by
  have hRc := wf_rc h; have hRm := wf_rm h; have hq := wf_sq h; have hp := pr_pl (wf_pr h); have hs23 := wf_s23 h; have hqr := isSc_ge hq; have hpr := isPl_le hp; have hw6 := pr_w6 (wf_pr h); have hb8 := pr_b8 (wf_pr h); have hr12 := pr_r12 (wf_pr h); have ht2 := pr_t2 (wf_pr h); have ht60 := pr_t60 (wf_pr h)
  obtain ⟨e1, k, hk, e2⟩ := e_cnt (Y := vM s m.1) (b := b) hw6 c
  obtain ⟨a, ha1, ha2, e4⟩ := e_seats h hb
  rw [e2] at e1
  refine ⟨decide (¬ nI a ≤ nI k), nI a - nI k, e_freeC h hs hb e1 e4, e_freeM h hb e2 e4, ?_⟩
  rw [fr_dec ⟨a, by omega⟩ ⟨k, by omega⟩]; simp

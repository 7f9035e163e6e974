/-! LEVEL 2: text. A line, and all of them -/
theorem res_xz {L : Nat → Nat → Int64} {R : Nat → Nat → Option Nat} {L' : Nat → Nat → Int64} {R' : Nat → Nat → Option Nat} {n : Nat} {B : Nat → Nat} {D li p : Nat} {I J : Nat → Nat → Int32} {X : Option (Int32 × xD)} {Y : Option xD} (h : RES L R L' R' n B D li p I J X Y) : RES L R L' R' n B D li p I J (X.bind fun z => (xz z.1).bind fun v => some (v, z.2)) Y := by
  rcases h with ⟨I', J', e1, e2⟩ | ⟨nw, nb, nr, tp, p', a', t', I', J', e1, e2⟩
  · exact Or.inl ⟨I', J', by rw [e1]; rfl, e2⟩
  · exact Or.inr ⟨nw, nb, nr, tp, p', a', t', I', J', by rw [e1]; rfl, e2⟩
theorem m_isFull {P : Nat} {L' : Nat → Nat → Int64} {R' : Nat → Nat → Option Nat} (hR' : ∀ I, RefOK (I, L', R') P) {D nw nb nr tp : Nat} {I J : Nat → Nat → Int32} (hP : PR D 1 nw nb nr tp I J) {w : Nat} (hw : w < 8) : f_X10_isFull shA 99 (nI w) (J, L', R') = some (if (w = 1 ∧ nb = 8) ∨ (w = 2 ∧ nw = 6) ∨ (w = 3 ∧ nr = 12) then 1 else 0, (J, L', R')) := by
  have w6 := pr_w6 hP; have b8 := pr_b8 hP; have r12 := pr_r12 hP
  have f1 : f_X10_fresher shA 99 (1 : Int32) (J, L', R') = some (nI nb, (J, L', R')) := by rw [← show J 101 9 = nI nb from pr_mB hP]; exact m_fresher hR' (i := 1) (by omega)
  have f2 : f_X10_fresher shA 99 (2 : Int32) (J, L', R') = some (nI nw, (J, L', R')) := by rw [← show J 101 10 = nI nw from pr_mW hP]; exact m_fresher hR' (i := 2) (by omega)
  have f3 : f_X10_fresher shA 99 (3 : Int32) (J, L', R') = some (nI nr, (J, L', R')) := by rw [← show J 101 11 = nI nr from pr_mR hP]; exact m_fresher hR' (i := 3) (by omega)
  have e1 : nI w = (1 : Int32) ↔ w = 1 := nI_eq (b := 1) (by omega) (by omega)
  have e2 : nI w = (2 : Int32) ↔ w = 2 := nI_eq (b := 2) (by omega) (by omega)
  have e3 : nI w = (3 : Int32) ↔ w = 3 := nI_eq (b := 3) (by omega) (by omega)
  have g1 : nI nb = (8 : Int32) ↔ nb = 8 := nI_eq (b := 8) (by omega) (by omega)
  have g2 : nI nw = (6 : Int32) ↔ nw = 6 := nI_eq (b := 6) (by omega) (by omega)
  have g3 : nI nr = (12 : Int32) ↔ nr = 12 := nI_eq (b := 12) (by omega) (by omega)
  unfold f_X10_isFull k_X10_isFull_15 k_X10_isFull_30 k_X10_isFull_45 k_X10_isFull_49 k_X10_isFull_50
  simp only [on_of sA_99, f1, f2, f3, Option.bind_some, e1, e2, e3, g1, g2, g3, xz_0, xz_1]
  by_cases c1 : w = 1
  · rw [if_pos c1]
    by_cases c : nb = 8
    · rw [if_pos c, if_pos (by omega)]
    · rw [if_neg c, if_neg (by omega), if_neg (by omega), if_neg (by omega)]
  · rw [if_neg c1]
    by_cases c2 : w = 2
    · rw [if_pos c2]
      by_cases c : nw = 6
      · rw [if_pos c, if_pos (by omega)]
      · rw [if_neg c, if_neg (by omega), if_neg (by omega)]
    · rw [if_neg c2]
      by_cases c3 : w = 3
      · rw [if_pos c3]
        by_cases c : nr = 12
        · rw [if_pos c, if_pos (by omega)]
        · rw [if_neg c, if_neg (by omega)]
      · rw [if_neg c3, if_neg (by omega)]
theorem e_line {P P' : Nat} {L L' : Nat → Nat → Int64} {R R' : Nat → Nat → Option Nat} (hR : ∀ I, RefOK (I, L, R) P) (hR' : ∀ I, RefOK (I, L', R') P') {n : Nat} {B : Nat → Nat} {D li nw nb nr tp p a t : Nat} {I J : Nat → Nat → Int32} (hD : isPl D) (hRD : R 42 2 = some D) (h : LN D n B li nw nb nr tp p a t I J) (h36 : t ≠ 36) (hli : li ≤ 700) (h0 : li = 0 → nw = 0 ∧ nb = 0 ∧ nr = 0 ∧ J 101 12 = 0) : RES L R L' R' n B D li p I J (f_X6_readLine shA 42 (if li = 0 then 1 else 0) (I, L, R)) (f_X10_line shA 99 (J, L', R')) := by
  have hpr := isPl_le hD
  have hP := ln_pr h
  have hk := ln_tk h
  have tt := tk_tt hk; have t37 := tk_t37 hk; have f0 := ln_f0 h
  have hg40 : ∀ X : Nat → Nat → Int32, xgR 6 shA (X, L, R) 42 0 = some 40 := fun X => gR_of sA_42 (rf_42_0 (hR X))
  have bad : ∀ X, X = some (0, (rfC 1 I, L, R)) → ∀ Y, Y = some (rfM 1 J, L', R') → RES L R L' R' n B D li p I J X Y := fun X hX Y hY => Or.inl ⟨rfC 1 I, rfM 1 J, hX, hY, ft_of (by decide) (tk_cp hk) (tk_mp hk), frc_rf frc_refl, frm_rf frm_refl⟩
  have k30 : k_X10_line_30 shA 99 (J, L', R') = some (rfM 1 J, L', R') := by
    unfold k_X10_line_30
    rw [on_of sA_99, m_wrong _ f0, Option.bind_some]
  have hC : ∀ w, t = w → w < 38 → I 40 0 = nI w := fun w e _ => by rw [tk_ct hk, e]
  have hli0 : nI li ≤ 0 ↔ li = 0 := by
    constructor
    · intro z
      rcases Nat.eq_zero_or_pos li with q | q
      · exact q
      · exact absurd z (nI_nle q (by omega))
    · rintro rfl; decide
  by_cases c7 : t ≤ 7
  · obtain ⟨so, va⟩ := (t_word tt (w := t) (by omega)).mpr rfl
    have hM : f_X10_line shA 99 (J, L', R') = if t = 0 ∧ li ≠ 0 then some (rfM 1 J, L', R') else k_X10_line_36 shA 99 (J, L', R') := by
      have v7 : ¬ (7 : Int32) < nI t := nI_nlt (a := 7) c7 (by omega)
      have v0 : nI t = 0 ↔ t = 0 := nI_eq (b := 0) (by omega) (by omega)
      unfold f_X10_line
      simp only [gI_of sA_99, Option.bind_some, so, va, ↓reduceIte, if_neg v7, v0, ln_li h, hli0, k30]
      by_cases c0 : t = 0
      · rw [if_pos c0]
        by_cases c : li = 0
        · rw [if_pos c, if_neg (fun z => z.2 c)]
        · rw [if_neg c, if_pos ⟨c0, c⟩]
      · rw [if_neg c0, if_neg (fun z => c0 z.1)]
    have r2n : rfM 2 J 99 26 ≠ 0 := by rw [rfM_26]; decide
    have r3n : rfM 3 J 99 26 ≠ 0 := by rw [rfM_26]; decide
    have h36' : k_X10_line_36 shA 99 (J, L', R') = if (t = 1 ∧ nb = 8) ∨ (t = 2 ∧ nw = 6) ∨ (t = 3 ∧ nr = 12) then some (rfM 2 J, L', R') else (if 4 ≤ t ∧ t ≤ 6 ∧ bt (J 99 19) t = true then some (rfM 3 J, L', R') else k_X10_line_85 shA 99 (nI t) (J, L', R')) := by
      unfold k_X10_line_36
      rw [gI_of sA_99, Option.bind_some]
      simp only [va]
      rw [on_of sA_99, m_isFull hR' hP (by omega), Option.bind_some]
      by_cases c : (t = 1 ∧ nb = 8) ∨ (t = 2 ∧ nw = 6) ∨ (t = 3 ∧ nr = 12)
      · rw [if_pos c, if_pos c]
        dsimp only
        rw [if_neg (show ¬ (1 : Int32) = 0 by decide), on_of sA_99, m_wrong _ f0, Option.bind_some, h85F r2n]
      · rw [if_neg c, if_neg c]
        dsimp only
        rw [if_pos rfl]
        by_cases c4 : t < 4
        · rw [if_pos (show nI t < (4 : Int32) from nI_lt (b := 4) c4 (by omega)), if_neg (by omega)]
        · rw [if_neg (show ¬ nI t < (4 : Int32) from nI_nlt (b := 4) (by omega) (by omega))]
          by_cases c6 : 6 < t
          · rw [if_pos (show (6 : Int32) < nI t from nI_lt (a := 6) c6 (by omega)), if_neg (by omega)]
          · rw [if_neg (show ¬ (6 : Int32) < nI t from nI_nlt (a := 6) (by omega) (by omega)), gI_of sA_99, Option.bind_some, bi1 _ (by omega)]
            dsimp only
            by_cases cb : bt (J 99 19) t = true
            · rw [if_pos cb, if_pos rfl, on_of sA_99, m_wrong _ f0, Option.bind_some, h85F r3n, if_pos ⟨by omega, by omega, cb⟩]
            · rw [if_neg cb, if_neg (by decide), if_neg (fun z => cb z.2.2)]
    have hY0 : t ≠ 0 → f_X10_line shA 99 (J, L', R') = if (t = 1 ∧ nb = 8) ∨ (t = 2 ∧ nw = 6) ∨ (t = 3 ∧ nr = 12) then some (rfM 2 J, L', R') else (if 4 ≤ t ∧ t ≤ 6 ∧ bt (J 99 19) t = true then some (rfM 3 J, L', R') else k_X10_line_85 shA 99 (nI t) (J, L', R')) := fun c => by rw [hM, if_neg (show ¬ (t = 0 ∧ li ≠ 0) from fun z => c z.1), h36']
    rcases (show t = 0 ∨ t = 1 ∨ t = 2 ∨ t = 3 ∨ t = 4 ∨ t = 5 ∨ t = 6 ∨ t = 7 by omega) with c | c | c | c | c | c | c | c
    · by_cases c0 : li = 0
      · have hX : f_X6_readLine shA 42 (if li = 0 then 1 else 0) (I, L, R) = (f_X6_readStair shA 42 (I, L, R)).bind fun z => (xz z.1).bind fun v => some (v, z.2) := by
          rw [if_pos c0]
          unfold f_X6_readLine k_X6_readLine_71
          simp only [hg40, Option.bind_some, gI_of sA_40, hC 0 c (by omega)]
          rw [if_pos (show nI 0 = (0 : Int32) from rfl), if_neg (show ¬ (1 : Int32) = 0 by decide), on_of sA_42]
        have hY : f_X10_line shA 99 (J, L', R') = k_X10_line_85 shA 99 (nI 0) (J, L', R') := by
          rw [hM, if_neg (show ¬ (t = 0 ∧ li ≠ 0) from fun z => z.2 c0), h36', if_neg (show ¬ ((t = 1 ∧ nb = 8) ∨ (t = 2 ∧ nw = 6) ∨ (t = 3 ∧ nr = 12)) by omega), if_neg (show ¬ (4 ≤ t ∧ t ≤ 6 ∧ bt (J 99 19) t = true) from fun z => by omega), c]
        rw [hX, hY]
        exact res_xz (rl_stair hR hR' hD hRD h c (h0 c0))
      · refine bad _ ?_ _ (by rw [hM, if_pos ⟨c, c0⟩])
        rw [if_neg c0]
        unfold f_X6_readLine k_X6_readLine_71
        simp only [hg40, Option.bind_some, gI_of sA_40, hC 0 c (by omega)]
        rw [if_pos (show nI 0 = (0 : Int32) from rfl), if_pos trivial, on_of sA_40, c_refuse]
        rfl
    · have hX : f_X6_readLine shA 42 (if li = 0 then 1 else 0) (I, L, R) = (f_X6_readBench shA 42 (I, L, R)).bind fun z => (xz z.1).bind fun v => some (v, z.2) := by
        unfold f_X6_readLine k_X6_readLine_71
        simp only [hg40, Option.bind_some, gI_of sA_40, hC 1 c (by omega)]
        rw [if_neg (show ¬ nI 1 = (0 : Int32) by decide), if_pos (show nI 1 = (1 : Int32) from rfl), on_of sA_42]
      rw [hX, hY0 (by omega)]
      have z := res_xz (rl_bench hR hR' hD hRD h c)
      by_cases cc : nb = 8
      · rw [if_pos cc] at z; rw [if_pos (show (t = 1 ∧ nb = 8) ∨ (t = 2 ∧ nw = 6) ∨ (t = 3 ∧ nr = 12) by omega)]; exact z
      · rw [if_neg cc] at z; rw [if_neg (show ¬ ((t = 1 ∧ nb = 8) ∨ (t = 2 ∧ nw = 6) ∨ (t = 3 ∧ nr = 12)) by omega), if_neg (show ¬ (4 ≤ t ∧ t ≤ 6 ∧ bt (J 99 19) t = true) from fun z => by omega), c]; exact z
    · have hX : f_X6_readLine shA 42 (if li = 0 then 1 else 0) (I, L, R) = (f_X6_readWalker shA 42 (I, L, R)).bind fun z => (xz z.1).bind fun v => some (v, z.2) := by
        unfold f_X6_readLine k_X6_readLine_71
        simp only [hg40, Option.bind_some, gI_of sA_40, hC 2 c (by omega)]
        rw [if_neg (show ¬ nI 2 = (0 : Int32) by decide), if_neg (show ¬ nI 2 = (1 : Int32) by decide), if_pos (show nI 2 = (2 : Int32) from rfl), on_of sA_42]
      rw [hX, hY0 (by omega)]
      have z := res_xz (rl_walker hR hR' hD hRD h c)
      by_cases cc : nw = 6
      · rw [if_pos cc] at z; rw [if_pos (show (t = 1 ∧ nb = 8) ∨ (t = 2 ∧ nw = 6) ∨ (t = 3 ∧ nr = 12) by omega)]; exact z
      · rw [if_neg cc] at z; rw [if_neg (show ¬ ((t = 1 ∧ nb = 8) ∨ (t = 2 ∧ nw = 6) ∨ (t = 3 ∧ nr = 12)) by omega), if_neg (show ¬ (4 ≤ t ∧ t ≤ 6 ∧ bt (J 99 19) t = true) from fun z => by omega), c]; exact z
    · have hX : f_X6_readLine shA 42 (if li = 0 then 1 else 0) (I, L, R) = (f_X6_readRest shA 42 (I, L, R)).bind fun z => (xz z.1).bind fun v => some (v, z.2) := by
        unfold f_X6_readLine k_X6_readLine_71
        simp only [hg40, Option.bind_some, gI_of sA_40, hC 3 c (by omega)]
        rw [if_neg (show ¬ nI 3 = (0 : Int32) by decide), if_neg (show ¬ nI 3 = (1 : Int32) by decide), if_neg (show ¬ nI 3 = (2 : Int32) by decide), if_pos (show nI 3 = (3 : Int32) from rfl), on_of sA_42]
      rw [hX, hY0 (by omega)]
      have z := res_xz (rl_rest hR hR' hD hRD h c)
      by_cases cc : nr = 12
      · rw [if_pos cc] at z; rw [if_pos (show (t = 1 ∧ nb = 8) ∨ (t = 2 ∧ nw = 6) ∨ (t = 3 ∧ nr = 12) by omega)]; exact z
      · rw [if_neg cc] at z; rw [if_neg (show ¬ ((t = 1 ∧ nb = 8) ∨ (t = 2 ∧ nw = 6) ∨ (t = 3 ∧ nr = 12)) by omega), if_neg (show ¬ (4 ≤ t ∧ t ≤ 6 ∧ bt (J 99 19) t = true) from fun z => by omega), c]; exact z
    · have hX : f_X6_readLine shA 42 (if li = 0 then 1 else 0) (I, L, R) = (f_X6_readNumberLine shA 42 (nI 4) (I, L, R)).bind fun z => (xz z.1).bind fun v => some (v, z.2) := by
        unfold f_X6_readLine k_X6_readLine_71
        simp only [hg40, Option.bind_some, gI_of sA_40, hC 4 c (by omega)]
        rw [if_neg (show ¬ nI 4 = (0 : Int32) by decide), if_neg (show ¬ nI 4 = (1 : Int32) by decide), if_neg (show ¬ nI 4 = (2 : Int32) by decide), if_neg (show ¬ nI 4 = (3 : Int32) by decide), if_pos (show nI 4 = (4 : Int32) from rfl), on_of sA_42]
      rw [hX, hY0 (by omega), if_neg (show ¬ ((t = 1 ∧ nb = 8) ∨ (t = 2 ∧ nw = 6) ∨ (t = 3 ∧ nr = 12)) by omega)]
      have z := res_xz (rl_num hR hR' hD hRD h (lo := 1) (hi := tp - 1) c (Or.inl ⟨rfl, rfl, rfl⟩))
      by_cases cc : bt (J 99 19) 4 = true
      · rw [if_pos cc] at z; rw [if_pos (show 4 ≤ t ∧ t ≤ 6 ∧ bt (J 99 19) t = true from ⟨by omega, by omega, by rw [c]; exact cc⟩)]; exact z
      · rw [if_neg cc] at z; rw [if_neg (show ¬ (4 ≤ t ∧ t ≤ 6 ∧ bt (J 99 19) t = true) from fun y => cc (by rw [← c]; exact y.2.2)), c]; exact z
    · have hX : f_X6_readLine shA 42 (if li = 0 then 1 else 0) (I, L, R) = (f_X6_readNumberLine shA 42 (nI 5) (I, L, R)).bind fun z => (xz z.1).bind fun v => some (v, z.2) := by
        unfold f_X6_readLine k_X6_readLine_71
        simp only [hg40, Option.bind_some, gI_of sA_40, hC 5 c (by omega)]
        rw [if_neg (show ¬ nI 5 = (0 : Int32) by decide), if_neg (show ¬ nI 5 = (1 : Int32) by decide), if_neg (show ¬ nI 5 = (2 : Int32) by decide), if_neg (show ¬ nI 5 = (3 : Int32) by decide), if_neg (show ¬ nI 5 = (4 : Int32) by decide), if_pos (show nI 5 = (5 : Int32) from rfl), on_of sA_42]
      rw [hX, hY0 (by omega), if_neg (show ¬ ((t = 1 ∧ nb = 8) ∨ (t = 2 ∧ nw = 6) ∨ (t = 3 ∧ nr = 12)) by omega)]
      have z := res_xz (rl_num hR hR' hD hRD h (lo := 0) (hi := 100) c (Or.inr (Or.inl ⟨rfl, rfl, rfl⟩)))
      by_cases cc : bt (J 99 19) 5 = true
      · rw [if_pos cc] at z; rw [if_pos (show 4 ≤ t ∧ t ≤ 6 ∧ bt (J 99 19) t = true from ⟨by omega, by omega, by rw [c]; exact cc⟩)]; exact z
      · rw [if_neg cc] at z; rw [if_neg (show ¬ (4 ≤ t ∧ t ≤ 6 ∧ bt (J 99 19) t = true) from fun y => cc (by rw [← c]; exact y.2.2)), c]; exact z
    · have hX : f_X6_readLine shA 42 (if li = 0 then 1 else 0) (I, L, R) = (f_X6_readNumberLine shA 42 (nI 6) (I, L, R)).bind fun z => (xz z.1).bind fun v => some (v, z.2) := by
        unfold f_X6_readLine k_X6_readLine_71
        simp only [hg40, Option.bind_some, gI_of sA_40, hC 6 c (by omega)]
        rw [if_neg (show ¬ nI 6 = (0 : Int32) by decide), if_neg (show ¬ nI 6 = (1 : Int32) by decide), if_neg (show ¬ nI 6 = (2 : Int32) by decide), if_neg (show ¬ nI 6 = (3 : Int32) by decide), if_neg (show ¬ nI 6 = (4 : Int32) by decide), if_neg (show ¬ nI 6 = (5 : Int32) by decide), if_pos (show nI 6 = (6 : Int32) from rfl), on_of sA_42]
      rw [hX, hY0 (by omega), if_neg (show ¬ ((t = 1 ∧ nb = 8) ∨ (t = 2 ∧ nw = 6) ∨ (t = 3 ∧ nr = 12)) by omega)]
      have z := res_xz (rl_num hR hR' hD hRD h (lo := 0) (hi := 99999) c (Or.inr (Or.inr ⟨rfl, rfl, rfl⟩)))
      by_cases cc : bt (J 99 19) 6 = true
      · rw [if_pos cc] at z; rw [if_pos (show 4 ≤ t ∧ t ≤ 6 ∧ bt (J 99 19) t = true from ⟨by omega, by omega, by rw [c]; exact cc⟩)]; exact z
      · rw [if_neg cc] at z; rw [if_neg (show ¬ (4 ≤ t ∧ t ≤ 6 ∧ bt (J 99 19) t = true) from fun y => cc (by rw [← c]; exact y.2.2)), c]; exact z
    · have hX : f_X6_readLine shA 42 (if li = 0 then 1 else 0) (I, L, R) = (f_X6_readLaw shA 42 (I, L, R)).bind fun z => (xz z.1).bind fun v => some (v, z.2) := by
        unfold f_X6_readLine k_X6_readLine_71
        simp only [hg40, Option.bind_some, gI_of sA_40, hC 7 c (by omega)]
        rw [if_neg (show ¬ nI 7 = (0 : Int32) by decide), if_neg (show ¬ nI 7 = (1 : Int32) by decide), if_neg (show ¬ nI 7 = (2 : Int32) by decide), if_neg (show ¬ nI 7 = (3 : Int32) by decide), if_neg (show ¬ nI 7 = (4 : Int32) by decide), if_neg (show ¬ nI 7 = (5 : Int32) by decide), if_neg (show ¬ nI 7 = (6 : Int32) by decide), if_pos (show nI 7 = (7 : Int32) from rfl), on_of sA_42]
      rw [hX, hY0 (by omega), if_neg (show ¬ ((t = 1 ∧ nb = 8) ∨ (t = 2 ∧ nw = 6) ∨ (t = 3 ∧ nr = 12)) by omega), if_neg (show ¬ (4 ≤ t ∧ t ≤ 6 ∧ bt (J 99 19) t = true) from fun z => by omega), c]
      exact res_xz (rl_law hR hR' hD hRD h c)
  · have hM : f_X10_line shA 99 (J, L', R') = some (rfM 1 J, L', R') := by
      unfold f_X10_line
      simp only [gI_of sA_99, Option.bind_some, k30]
      by_cases c0 : J 99 24 = 0
      · rw [if_pos c0]
        have z : t < 21 ∧ J 99 25 = nI t := by
          unfold TT at tt
          rcases tt with ⟨z1, z2, z3⟩ | ⟨z1, z2, z3⟩ | ⟨z1, z2, z3⟩ | ⟨z1, z2, z3, z4⟩ | ⟨z1, z2⟩ | ⟨z1, z2⟩
          · exact ⟨z1, z3⟩
          · rw [c0] at z2; exact absurd z2 (by decide)
          · rw [c0] at z2; exact absurd z2 (by decide)
          · rw [c0] at z3; exact absurd z3 (by decide)
          · rw [c0] at z2; exact absurd z2 (by decide)
          · rw [c0] at z2; exact absurd z2 (by decide)
        rw [z.2, if_pos (show (7 : Int32) < nI t from nI_lt (a := 7) (by omega) (by omega))]
      · rw [if_neg c0]
    refine bad _ ?_ _ hM
    have ne : ∀ k, k < 8 → ¬ nI t = nI k := fun k hk' q => by have := (nI_eq (by omega) (by omega)).mp q; omega
    unfold f_X6_readLine
    rw [hg40, Option.bind_some, gI_of sA_40, Option.bind_some]
    simp only [tk_ct hk]
    rw [if_neg (show ¬ nI t = (0 : Int32) from ne 0 (by omega)), if_neg (show ¬ nI t = (1 : Int32) from ne 1 (by omega)), if_neg (show ¬ nI t = (2 : Int32) from ne 2 (by omega)), if_neg (show ¬ nI t = (3 : Int32) from ne 3 (by omega)), if_neg (show ¬ nI t = (4 : Int32) from ne 4 (by omega)), if_neg (show ¬ nI t = (5 : Int32) from ne 5 (by omega)), if_neg (show ¬ nI t = (6 : Int32) from ne 6 (by omega)), if_neg (show ¬ nI t = (7 : Int32) from ne 7 (by omega)), Option.bind_some, on_of sA_40, c_refuse, Option.bind_some]
    rfl

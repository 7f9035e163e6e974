/-! LEVEL 2: text. All lines -/
theorem t_end {t : Nat} {cv so va : Int32} (h : TT t cv so va) : so = 4 ↔ t = 36 := by
  unfold TT at h
  constructor
  · intro e1
    rcases h with ⟨z1, z2, z3⟩ | ⟨z1, z2, z3⟩ | ⟨z1, z2, z3⟩ | ⟨z1, z2, z3, z4⟩ | ⟨z1, z2⟩ | ⟨z1, z2⟩
    · rw [e1] at z2; exact absurd z2 (by decide)
    · rw [e1] at z2; exact absurd z2 (by decide)
    · rw [e1] at z2; exact absurd z2 (by decide)
    · rw [e1] at z3; exact absurd z3 (by decide)
    · exact z1
    · rw [e1] at z2; exact absurd z2 (by decide)
  · rintro rfl
    rcases h with ⟨z1, z2, z3⟩ | ⟨z1, z2, z3⟩ | ⟨z1, z2, z3⟩ | ⟨z1, z2, z3, z4⟩ | ⟨z1, z2⟩ | ⟨z1, z2⟩
    · omega
    · omega
    · omega
    · omega
    · exact z2
    · omega
theorem ft_20 {I J : Nat → Nat → Int32} {v : Int32} (h : FT I J) : FT I (xu J 99 20 v) := by
  unfold FT at h ⊢
  rw [xu_at2 (show 26 ≠ 20 by omega), xu_at2 (show 27 ≠ 20 by omega)]; exact h
theorem e_lines {P P' : Nat} {L L' : Nat → Nat → Int64} {R R' : Nat → Nat → Option Nat} (hR : ∀ I, RefOK (I, L, R) P) (hR' : ∀ I, RefOK (I, L', R') P') {n : Nat} {B : Nat → Nat} {D : Nat} (hD : isPl D) (hRD : R 42 2 = some D) : ∀ g li nw nb nr tp p a t I J G G', LN D n B li nw nb nr tp p a t I J → (li = 0 → nw = 0 ∧ nb = 0 ∧ nr = 0 ∧ J 101 12 = 0) → li ≤ p → n - p < g → g < G → g < G' → (∃ I' J', xloop (fun _ _ _ _ => none) (b_X6_read_20 shA) G 42 (nI n) (nI li) (I, L, R) = some (-1, (I', L, R)) ∧ xloop (fun _ _ => none) (b_X10_text_126 shA) G' 99 (J, L', R') = k_X10_text_148 shA 99 (J', L', R') ∧ FT I' J' ∧ FRC D I I' ∧ FRM J J') ∨ (∃ li' nw' nb' nr' tp' p' a' I' J', xloop (fun _ _ _ _ => none) (b_X6_read_20 shA) G 42 (nI n) (nI li) (I, L, R) = some (nI li', (I', L, R)) ∧ xloop (fun _ _ => none) (b_X10_text_126 shA) G' 99 (J, L', R') = k_X10_text_148 shA 99 (J', L', R') ∧ LN D n B li' nw' nb' nr' tp' p' a' 36 I' J' ∧ li' ≤ 700 ∧ FRC D I I' ∧ FRM J J') := by
  have hpr := isPl_le hD
  have hg40 : ∀ X : Nat → Nat → Int32, xgR 6 shA (X, L, R) 42 0 = some 40 := fun X => gR_of sA_42 (rf_42_0 (hR X))
  have stop : ∀ (K : Nat → Nat → Int32) G, K 99 26 ≠ 0 → xloop (fun _ _ => none) (b_X10_text_126 shA) (G + 1) 99 (K, L', R') = k_X10_text_148 shA 99 (K, L', R') := fun K G hK => by
    rw [loop_s]
    generalize xloop (fun _ _ => none) (b_X10_text_126 shA) G = rc
    unfold b_X10_text_126
    rw [gI_of sA_99, Option.bind_some]
    dsimp only
    rw [if_neg hK]
  intro g
  induction g with
  | zero => intro li nw nb nr tp p a t I J G G' _ _ _ hg _ _; omega
  | succ g ih =>
    intro li nw nb nr tp p a t I J G G' h h0 hlp hg hG hG'
    obtain ⟨G, rfl⟩ : ∃ x, G = x + 1 := ⟨G - 1, by omega⟩
    obtain ⟨G', rfl⟩ : ∃ x, G' = x + 2 := ⟨G' - 2, by omega⟩
    have hk := ln_tk h
    have tt := tk_tt hk; have t37 := tk_t37 hk; have f0 := ln_f0 h
    have h7 := tb_n7 (tk_tb hk); have han := tk_an hk; have hpa := (tk_pa hk).1
    have hC : xloop (fun _ _ _ _ => none) (b_X6_read_20 shA) (G + 1) 42 (nI n) (nI li) (I, L, R) = if t = 36 then some (nI li, (I, L, R)) else k_X6_read_49 shA (xloop (fun _ _ _ _ => none) (b_X6_read_20 shA) G) 42 (nI n) (nI li) 42 (if li = 0 then 1 else 0) (I, L, R) := by
      have e36 : nI t = (36 : Int32) ↔ t = 36 := nI_eq (b := 36) (by omega) (by omega)
      have e0 : nI li = (0 : Int32) ↔ li = 0 := nI_eq (b := 0) (by omega) (by omega)
      rw [loop_s]
      generalize xloop (fun _ _ _ _ => none) (b_X6_read_20 shA) G = rc
      unfold b_X6_read_20 k_X6_read_37
      rw [if_neg (nI_nlt (by omega) (by omega))]
      simp only [hg40, Option.bind_some, gI_of sA_40, tk_ct hk, e36, e0]
      by_cases c : li = 0
      · rw [if_pos c, if_pos c]
      · rw [if_neg c, if_neg c]
    have hM : xloop (fun _ _ => none) (b_X10_text_126 shA) (G' + 2) 99 (J, L', R') = if t = 36 then k_X10_text_148 shA 99 (J, L', R') else ((f_X10_line shA 99 (J, L', R')).bind fun d46 => xloop (fun _ _ => none) (b_X10_text_126 shA) (G' + 1) 99 d46) := by
      rw [loop_s]
      generalize xloop (fun _ _ => none) (b_X10_text_126 shA) (G' + 1) = rc
      unfold b_X10_text_126
      simp only [gI_of sA_99, Option.bind_some, t_end tt, on_of sA_99]
      rw [if_pos f0]
    rw [hC, hM]
    by_cases c36 : t = 36
    · right
      rw [if_pos c36, if_pos c36]
      exact ⟨li, nw, nb, nr, tp, p, a, I, J, rfl, rfl, by rw [← c36]; exact h, by omega, frc_refl, frm_refl⟩
    · rw [if_neg c36, if_neg c36]
      unfold k_X6_read_49 k_X6_read_55 k_X6_read_69
      rw [on_of sA_42]
      rcases e_line hR hR' hD hRD h c36 (by omega) h0 with ⟨I', J', e1, e2, e3, e4, e5⟩ | ⟨nw', nb', nr', tp', p', a', t', I', J', e1, e2, e3, e4, e5, e6⟩
      · left
        rw [e1, e2, Option.bind_some, Option.bind_some]
        dsimp only
        rw [if_pos rfl, stop J' G' e3.2.2]
        exact ⟨I', J', rfl, rfl, e3, e4, e5⟩
      · have hk' := ln_tk e3
        have tt' := tk_tt hk'; have t37' := tk_t37 hk'; have f0' := ln_f0 e3
        have e23 : nI t' = (23 : Int32) ↔ t' = 23 := nI_eq (b := 23) (by omega) (by omega)
        have hY : f_X10_line shA 99 (J, L', R') = if t' = 23 then ((f_X10_token shA 99 (J', L', R')).bind fun d6 => k_X10_line_550 shA 99 d6) else some (xu (rfM 1 J') 99 20 (rfM 1 J' 99 20 + 1), L', R') := by
          rw [e2]
          unfold k_X10_line_521
          rw [gI_of sA_99, Option.bind_some]
          dsimp only
          rw [if_pos f0', on_of sA_99, m_isS tt' f0' (s := 23) (by omega) (by omega) (x := 59) rfl, Option.bind_some]
          by_cases c : t' = 23
          · rw [if_pos c, if_pos c]
            dsimp only
            rw [if_neg (show ¬ (1 : Int32) = 0 by decide), on_of sA_99]
          · rw [if_neg c, if_neg c]
            dsimp only
            rw [if_pos rfl, on_of sA_99, m_wrong _ f0', Option.bind_some]
            unfold k_X10_line_550
            rw [gI_of sA_99, Option.bind_some, pM_20, Option.bind_some]
        rw [e1, Option.bind_some, hY]
        dsimp only
        rw [if_neg (show ¬ (1 : Int32) = 0 by decide), hg40, Option.bind_some, gI_of sA_40, Option.bind_some]
        simp only [tk_ct hk', e23]
        by_cases c23 : t' = 23
        · rw [if_pos c23, if_pos c23]
          obtain ⟨I2, J2, p2, a2, t2, r1, r2, r3, r4, r5, r6⟩ := adv0 hR hR' hk' (show t' ≠ 36 by omega) (I1 := I') (J1 := J') (fun _ _ => rfl) rfl rfl (fun _ _ _ => rfl) rfl
          have e550 : k_X10_line_550 shA 99 (J2, L', R') = some (xu J2 99 20 (nI (li + 1)), L', R') := by
            unfold k_X10_line_550
            rw [gI_of sA_99, Option.bind_some, pM_20, Option.bind_some]
            dsimp only
            rw [r4.2 20 (by omega), ln_li e3, nI_1]
          rw [Option.bind_some, on_of sA_40, r1, Option.bind_some, r2, Option.bind_some, e550, Option.bind_some, nI_1]
          have jq : ∀ q, q ≠ 99 → xu J2 99 20 (nI (li + 1)) q = J' q := fun q hq => by rw [xu_off hq, r4.1 q hq]
          have j9 : ∀ j, (j < 22 ∨ 25 < j) → j ≠ 20 → xu J2 99 20 (nI (li + 1)) 99 j = J' 99 j := fun j c1 c2 => by rw [xu_at2 c2, r4.2 j c1]
          have hLN : LN D n B (li + 1) nw' nb' nr' tp' p2 a2 t2 I2 (xu J2 99 20 (nI (li + 1))) := by
            refine ⟨tk_congr r5 (fun _ _ => rfl) rfl rfl (fun j _ _ => xu_at2 (by omega)) (xu_off (by omega)), pr_congr (ln_pr e3) (fun j hj => r3.1 _ (by omega)) (fun j j1 j2 => jq j (by omega)), ?_, ?_, ?_, ?_, xu_at, ?_, ?_, ?_, ?_, ?_⟩
            · rw [j9 26 (by omega) (by omega)]; exact ln_f0 e3
            · rw [j9 27 (by omega) (by omega)]; exact ln_f1 e3
            · rw [r3.2 3 (by omega) (by omega) (by omega) (by omega)]; exact ln_g0 e3
            · rw [r3.2 4 (by omega) (by omega) (by omega) (by omega)]; exact ln_g1 e3
            · rw [j9 30 (by omega) (by omega)]; exact ln_op e3
            · rw [j9 31 (by omega) (by omega), r3.1 (D + 13) (by omega)]; exact ln_mk e3
            · rw [r3.1 42 (by omega), j9 19 (by omega) (by omega)]; exact ln_tn e3
            · rw [r3.1 42 (by omega), j9 19 (by omega) (by omega), r3.1 (D + 13) (by omega)]; exact ln_tl e3
            · rw [r3.1 (D + 13) (by omega), jq 114 (by omega)]; exact ln_tb e3
          have fc : FRC D I I2 := frc_trans e5 (frc_nc r3)
          have fm : FRM J (xu J2 99 20 (nI (li + 1))) := frm_trans e6 (frm_trans (frm_nm r4) (frm_99 (by omega)))
          rcases ih (li + 1) nw' nb' nr' tp' p2 a2 t2 I2 _ G (G' + 1) hLN (fun z => by omega) (by omega) (by have := tk_an r5; have := (tk_pa r5).1; omega) (by omega) (by omega) with ⟨I3, J3, d1, d2, d3, d4, d5⟩ | ⟨l3, w3, b3, x3, t3, p3, a3, I3, J3, d1, d2, d3, d4, d5, d6⟩
          · left
            exact ⟨I3, J3, d1, d2, d3, frc_trans fc d4, frm_trans fm d5⟩
          · right
            exact ⟨l3, w3, b3, x3, t3, p3, a3, I3, J3, d1, d2, d3, d4, frc_trans fc d5, frm_trans fm d6⟩
        · left
          rw [if_neg c23, if_neg c23, Option.bind_some, on_of sA_40, c_refuse, Option.bind_some, Option.bind_some]
          have f3 : xu (rfM 1 J') 99 20 (rfM 1 J' 99 20 + 1) 99 26 ≠ 0 := by rw [xu_at2 (by omega), rfM_26]; decide
          rw [stop _ G' f3]
          exact ⟨rfC 1 I', _, rfl, rfl, ft_20 (ft_of (by decide) (tk_cp hk') (tk_mp hk')), frc_rf e5, frm_trans (frm_rf e6) (frm_99 (by omega))⟩

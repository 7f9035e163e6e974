/-! LEVEL 2: text. The reader of laws: signs and values -/
theorem lk_upd {D k z w o z0 w2 o2 : Nat} {S S2 : Nat → Nat} {I J I2 J2 : Nat → Nat → Int32} (h : LK D k z w o 0 z0 S I J) (e3 : I2 40 3 = I 40 3) (e4 : I2 40 4 = I 40 4) (eD : I2 (D + 13) = I (D + 13)) (e14 : I2 (D + 14) = I (D + 14)) (e15 : I2 (D + 15) = I (D + 15)) (m26 : J2 99 26 = J 99 26) (m27 : J2 99 27 = J 99 27) (m31 : J2 99 31 = J 99 31) (m101 : J2 101 = J 101) (m115 : J2 115 = J 115) (m116 : J2 116 = J 116) (cw : I2 43 2 = nI w2) (co : I2 43 3 = nI o2) (mo : J2 99 30 = nI o2) (o8 : o2 ≤ 8) (zw : z + w2 ≤ k + o2) (ow : o2 ≤ w2) (st : ∀ i, i < w2 → I2 44 i = nI (S2 i) ∧ S2 i ≤ 37) : LK D k z w2 o2 0 z0 S2 I2 J2 := by
  refine ⟨m26.trans (lk_f0 h), m27.trans (lk_f1 h), e3.trans (lk_g0 h), e4.trans (lk_g1 h), lk_k64 h, by rw [eD]; exact lk_ck h, m31.trans (lk_mk h), by rw [eD]; exact lk_cz h, by rw [m101]; exact lk_my h, cw, co, mo, o8, zw, by omega, st, fun i i1 i2 => ?_, fun j hj => by omega⟩
  have z := lk_km h i i1 i2
  unfold KM at z ⊢
  rw [e14, e15, m115, m116]
  exact z
theorem rk_t {t : Nat} (h : 1 ≤ rk t) : t ≠ 23 ∧ t ≠ 24 ∧ t ≠ 25 ∧ t ≠ 36 ∧ t ≠ 22 ∧ t < 36 := by
  unfold rk at h
  repeat' split at h
  all_goals omega
theorem c_119 {P : Nat} {L : Nat → Nat → Int64} {R : Nat → Nat → Option Nat} (hR : ∀ I, RefOK (I, L, R) P) {D k z w o r z0 : Nat} {S : Nat → Nat} {I J : Nat → Nat → Int32} (hD : isPl D) (h : LK D k z w o r z0 S I J) {t ρ : Nat} (ht : t ≤ 37) (h6 : ρ ≤ 6) (hp : ∀ j, j < r → ρ ≤ rk (S (w - 1 - j))) (hb : r < w → rk (S (w - r - 1)) < ρ) : (k = 64 → k_X0_readSign_119 shA 43 (D + 13) (nI t) (nI ρ) (I, L, R) = some (0, (rfC 2 I, L, R))) ∧ (k < 64 → ∃ I2, k_X0_readSign_119 shA 43 (D + 13) (nI t) (nI ρ) (I, L, R) = some (1, (I2, L, R)) ∧ LK D (k + 1) (z + r) (w - r + 1) o 0 z0 (fun j => if j = w - r then t else S j) I2 (xu J 99 31 (nI (k + 1))) ∧ I2 43 4 = 1 ∧ I2 43 5 = (if ρ < 3 then 1 else 0) ∧ LFC D z I I2 ∧ (∀ q, q ≠ 43 → q ≠ 44 → q ≠ D + 13 → q ≠ D + 14 → q ≠ D + 15 → I2 q = I q)) := by
  have hpr := isPl_le hD
  have a1 := lk_k64 h; have a2 := lk_o8 h; have a3 := lk_zw h; have a4 := lk_ow h
  constructor
  · intro hk
    unfold k_X0_readSign_119
    rw [on_of sA_43, c_knot hR hD (lk_ck h) a1, if_neg (by omega), Option.bind_some]
    dsimp only
    rw [if_pos rfl]
  · intro hk
    have ha : LK D (k + 1) z w o r z0 S (xu I (D + 13) 0 (nI (k + 1))) (xu J 99 31 (nI (k + 1))) := by
      refine ⟨(xu_at2 (by omega)).trans (lk_f0 h), (xu_at2 (by omega)).trans (lk_f1 h), (xu_cell (by omega)).trans (lk_g0 h), (xu_cell (by omega)).trans (lk_g1 h), by omega, xu_at, xu_at, (xu_at2 (by omega)).trans (lk_cz h), (xu_cell (by omega)).trans (lk_my h), (xu_cell (by omega)).trans (lk_cw h), (xu_cell (by omega)).trans (lk_co h), (xu_at2 (by omega)).trans (lk_mo h), a2, by omega, a4, fun i hi => ?_, fun i i1 i2 => ?_, fun j hj => ?_⟩
      · rw [xu_cell (by omega)]; exact lk_st h i hi
      · have q := lk_km h i i1 i2
        unfold KM at q ⊢
        rw [xu_cell (by omega), xu_cell (by omega), xu_cell (by omega), xu_cell (by omega)]; exact q
      · rw [xu_cell (by omega), xu_cell (by omega)]; exact lk_pn h j hj
    obtain ⟨I1, p1, p2, p3, p4, p5, p6⟩ := lk_rel hR hD ha (by omega) hp hb
    have q6 : ∀ q, q ≠ 43 → q ≠ D + 13 → q ≠ D + 14 → q ≠ D + 15 → I1 q = I q := fun q q1 q2 q3 q4 => (p6 q q1 q2 q3 q4).trans (xu_off q2)
    generalize hv : (if ρ < 3 then (1 : Int32) else 0) = v
    have hv2 : v = 0 ∨ v = 1 := by
      rw [← hv]
      by_cases c : ρ < 3
      · rw [if_pos c]; exact Or.inr rfl
      · rw [if_neg c]; exact Or.inl rfl
    have hr : k_X0_readSign_119 shA 43 (D + 13) (nI t) (nI ρ) (I, L, R) = k_X0_readSign_151 shA 43 (nI t) 43 v (xu I1 43 4 1, L, R) := by
      unfold k_X0_readSign_119
      rw [on_of sA_43, c_knot hR hD (lk_ck h) a1, if_pos hk, Option.bind_some]
      dsimp only
      rw [if_neg (show ¬ (1 : Int32) = 0 by decide), on_of sA_43, p1, Option.bind_some, pL_4 (Or.inr rfl), Option.bind_some]
      dsimp only
      by_cases c : ρ < 3
      · rw [if_neg (show ¬ (3 : Int32) ≤ nI ρ from nI_ge (b := 3) c (by omega))]
        rw [if_pos c] at hv; rw [hv]
      · rw [if_pos (show (3 : Int32) ≤ nI ρ from nI_le (a := 3) (by omega) (by omega))]
        rw [if_neg c] at hv; rw [hv]
    generalize hI2 : xu (xu (xu (xu I1 43 4 1) 43 5 v) 44 (w - r) (nI t)) 43 2 (nI (w - r + 1)) = I2
    have o43 : ∀ j, j ≠ 2 → j ≠ 4 → j ≠ 5 → I2 43 j = I1 43 j := fun j j1 j2 j3 => by rw [← hI2, xu_at2 j1, xu_cell (by omega), xu_at2 j3, xu_at2 j2]
    have oq : ∀ q, q ≠ 43 → q ≠ 44 → I2 q = I1 q := fun q q1 q2 => by rw [← hI2, xu_off q1, xu_off q2, xu_off q1, xu_off q1]
    refine ⟨I2, ?_, lk_upd p2 (by rw [oq 40 (by omega) (by omega)]) (by rw [oq 40 (by omega) (by omega)]) (oq _ (by omega) (by omega)) (oq _ (by omega) (by omega)) (oq _ (by omega) (by omega)) rfl rfl rfl rfl rfl rfl (by rw [← hI2, xu_at]) ((o43 3 (by omega) (by omega) (by omega)).trans (lk_co p2)) (lk_mo p2) a2 (by omega) (by omega) (fun i hi => ?_), ?_, ?_, ?_, fun q q1 q2 q3 q4 q5 => (oq q q1 q2).trans (q6 q q1 q3 q4 q5)⟩
    · rw [hr]
      unfold k_X0_readSign_151
      rw [pL_5 hv2, Option.bind_some, on_of sA_43]
      dsimp only
      rw [c_hold hR (w := w - r) (by rw [xu_at2 (by omega), xu_at2 (by omega)]; exact lk_cw p2) (by omega), Option.bind_some]
      dsimp only
      rw [xz_1, Option.bind_some, hI2]
    · rw [← hI2, xu_cell (by omega)]
      by_cases c : i = w - r
      · subst c
        rw [xu_at, if_pos rfl]
        exact ⟨rfl, ht⟩
      · rw [xu_at2 c, xu_cell (by omega), xu_cell (by omega), if_neg c]
        exact lk_st p2 i (by omega)
    · rw [← hI2, xu_at2 (by omega), xu_cell (by omega), xu_at2 (by omega), xu_at]
    · rw [← hI2, xu_at2 (by omega), xu_cell (by omega), xu_at]
    · obtain ⟨b1, b2, b3, b4⟩ := p3
      refine ⟨fun q q1 q2 q3 q4 q5 q6' => (oq q q2 q3).trans (q6 q q2 q4 q5 q6'), fun j j1 j2 => ?_, fun i hi => ?_, ?_⟩
      · rw [oq (D + 13) (by omega) (by omega), b2 j j1 j2, xu_at2 j1]
      · rw [oq (D + 14) (by omega) (by omega), oq (D + 15) (by omega) (by omega), (b3 i hi).1, (b3 i hi).2, xu_off (by omega), xu_off (by omega)]
        exact ⟨rfl, rfl⟩
      · rw [oq 40 (by omega) (by omega), b4, xu_off (by omega)]
theorem lfc_rf {D z : Nat} (hD : isPl D) {w : Int32} {I I' : Nat → Nat → Int32} (h : LFC D z I I') : LFC D z I (rfC w I') := by
  have hpr := isPl_le hD
  obtain ⟨b1, b2, b3, b4⟩ := h
  unfold rfC
  refine ⟨fun q q1 q2 q3 q4 q5 q6 => ?_, fun j j1 j2 => ?_, fun i hi => ?_, ?_⟩
  · rw [xu_off q1, xu_off q1]; exact b1 q q1 q2 q3 q4 q5 q6
  · rw [xu_off (by omega), xu_off (by omega)]; exact b2 j j1 j2
  · rw [xu_off (by omega), xu_off (by omega), xu_off (by omega), xu_off (by omega)]; exact b3 i hi
  · rw [xu_at2 (by omega), xu_at2 (by omega)]; exact b4
theorem lfm_rf {y : Nat} {w : Int32} {J J' : Nat → Nat → Int32} (h : LFM y J J') : LFM y J (rfM w J') := by
  obtain ⟨b1, b2, b3, b4⟩ := h
  unfold rfM
  refine ⟨fun q q1 q2 q3 q4 => ?_, fun j hj => ?_, fun j hj => ?_, fun i hi => ?_⟩
  · rw [xu_off q1, xu_off q1]; exact b1 q q1 q2 q3 q4
  · rw [xu_at2 (by omega), xu_at2 (by omega)]; exact b2 j hj
  · rw [xu_off (by omega), xu_off (by omega)]; exact b3 j hj
  · rw [xu_off (by omega), xu_off (by omega), xu_off (by omega), xu_off (by omega)]; exact b4 i hi
theorem st_op {P P' : Nat} {L L' : Nat → Nat → Int64} {R R' : Nat → Nat → Option Nat} (hR : ∀ I, RefOK (I, L, R) P) (hR' : ∀ I, RefOK (I, L', R') P') {n : Nat} {B : Nat → Nat} {D i k z w o r z0 : Nat} {S : Nat → Nat} {p t : Nat} {I J : Nat → Nat → Int32} (hD : isPl D) (hs : OKS n B D i k z w o r z0 S p t I J) (h4 : I 43 4 = 0) (h1 : 1 ≤ rk t) (h3 : rk t ≠ 3) (hp : ∀ j, j < r → rk t ≤ rk (S (w - 1 - j))) (hc : rk t = 4 → ∀ j, j < r → 5 ≤ rk (S (w - 1 - j))) (hb : r < w → rk (S (w - r - 1)) < rk t) : (k = 64 ∧ ∃ I', LRD L R D i I = some (0, (I', L, R)) ∧ LFC D 0 I I' ∧ FT I' (rfM 2 J)) ∨ (k < 64 ∧ ∃ I2 J2 p2 t2, LRD L R D i I = LRD L R D (i + 1) I2 ∧ f_X10_token shA 99 (xu J 99 31 (nI (k + 1)), L', R') = some (J2, L', R') ∧ OKS n B D (i + 1) (k + 1) (z + r) (w - r + 1) o 0 z0 (fun j => if j = w - r then t else S j) p2 t2 I2 J2 ∧ I2 43 4 = 1 ∧ I2 43 5 = (if rk t < 3 then 1 else 0) ∧ p < p2 ∧ LFC D z I I2 ∧ LFM (z + r) J J2) := by
  have hpr := isPl_le hD
  obtain ⟨a, hk, hl, he, hi⟩ := hs
  have a1 := lk_k64 hl; have a2 := lk_o8 hl; have a3 := lk_zw hl; have a4 := lk_ow hl
  obtain ⟨t23, t24, t25, t36, t22, tlt⟩ := rk_t h1
  have h6 := rk_6 t
  have h7 := tb_n7 (tk_tb hk); have han := tk_an hk; have hpa := (tk_pa hk).1
  have key : ∃ X : Nat → Nat → Int32, ∃ r2, (f_X0_readSign shA 43 (D + 13) (I, L, R) = k_X0_readSign_119 shA 43 (D + 13) (nI t) (nI (rk t)) (X, L, R)) ∧ LK D k (z + r - r2) (w - (r - r2)) o r2 z0 S X J ∧ r2 ≤ r ∧ (∀ j, j < r2 → rk t ≤ rk (S (w - (r - r2) - 1 - j))) ∧ LFC D z I X ∧ (∀ q, q ≠ 43 → q ≠ D + 13 → q ≠ D + 14 → q ≠ D + 15 → X q = I q) ∧ z ≤ z + r - r2 := by
    have n25 : ¬ nI t = (25 : Int32) := fun q => t25 ((nI_eq (b := 25) (by omega) (by omega)).mp q)
    have n0 : ¬ nI (rk t) = (0 : Int32) := fun q => absurd ((nI_eq (b := 0) (by omega) (by omega)).mp q) (by omega)
    have n3 : ¬ nI (rk t) = (3 : Int32) := fun q => h3 ((nI_eq (b := 3) (by omega) (by omega)).mp q)
    have n4 : nI (rk t) = (4 : Int32) ↔ rk t = 4 := nI_eq (b := 4) (by omega) (by omega)
    have hS : f_X0_readSign shA 43 (D + 13) (I, L, R) = if rk t = 4 then ((f_X0_release shA 43 (D + 13) (nI (rk t) + 1) (I, L, R)).bind fun d11 => (xgI 0 shA d11 43 2).bind fun v12 => if v12 ≤ 0 then (k_X0_readSign_119 shA 43 (D + 13) (nI t) (nI (rk t)) d11) else ((xgR 0 shA d11 43 1).bind fun v13 => (xgI 0 shA d11 43 2).bind fun v14 => (xaI .int shA d11 v13 (v14 - (1 : Int32))).bind fun v15 => (f_X0_rankOf shA v15 d11).bind fun z16 => if z16.1 = nI (rk t) then ((xgR 0 shA z16.2 43 0).bind fun v17 => (xon 7 shA v17 (f_X7_refuse shA v17 (1 : Int32) z16.2)).bind fun z18 => (xz z18.1).bind fun v19 => some (v19, z18.2)) else (k_X0_readSign_119 shA 43 (D + 13) (nI t) (nI (rk t)) z16.2))) else k_X0_readSign_119 shA 43 (D + 13) (nI t) (nI (rk t)) (I, L, R) := by
      unfold f_X0_readSign
      rw [gR_of sA_43 (rf_43_0 (hR _)), Option.bind_some, gI_of sA_40, Option.bind_some]
      dsimp only
      simp only [tk_ct hk]
      rw [if_neg n25]
      unfold k_X0_readSign_49
      rw [e_rank (by omega), Option.bind_some]
      dsimp only
      rw [if_neg n0, if_neg n3, on_of sA_43]
      by_cases c : rk t = 4
      · rw [if_pos (n4.mpr c), if_pos c]
      · rw [if_neg (fun q => c (n4.mp q)), if_neg c]
    by_cases c4 : rk t = 4
    · obtain ⟨X, x1, x2, x3, x4, x5, x6⟩ := lk_rel hR hD hl (lo := rk t + 1) (by omega) (fun j hj => by have := hc c4 j hj; omega) (fun q => by have := hb q; omega)
      refine ⟨X, 0, ?_, by rw [Nat.sub_zero, Nat.sub_zero]; exact x2, by omega, fun j hj => by omega, x3, x6, by omega⟩
      rw [hS, if_pos c4, nI_1, x1, Option.bind_some, gI_of sA_43, Option.bind_some]
      simp only [lk_cw x2]
      by_cases c : w - r = 0
      · rw [c, if_pos (show nI 0 ≤ 0 by decide)]
      · obtain ⟨v, hv⟩ : ∃ v, w - r = v + 1 := ⟨w - r - 1, by omega⟩
        have hb' := hb (by omega)
        have sv := lk_st x2 v (by omega)
        rw [show w - r - 1 = v by omega] at hb'
        simp only [hv]
        rw [if_neg (nI_nle (by omega) (by omega)), gR_of sA_43 (rf_43_1 (hR _)), Option.bind_some, Option.bind_some, nI_pred, aI_of sA_44 (by omega) (by omega), Option.bind_some]
        dsimp only
        rw [sv.1, e_rank sv.2, Option.bind_some]
        dsimp only
        rw [if_neg (fun q => by have := (nI_eq (by omega) (by omega)).mp q; omega)]
    · refine ⟨I, r, by rw [hS, if_neg c4], ?_, by omega, ?_, lfc_refl, fun _ _ _ _ _ => rfl, by omega⟩
      · rw [show z + r - r = z by omega, show w - (r - r) = w by omega]; exact hl
      · rw [show w - (r - r) = w by omega]; exact hp
  obtain ⟨X, r2, k1, k2, k3, k4, k5, k6, k7⟩ := key
  have hww : w - (r - r2) - r2 = w - r := by omega
  have hn : ¬ (I 43 3 = 0 ∧ I 40 0 = 23) := by
    rw [tk_ct hk]
    exact fun q => t23 ((nI_eq (b := 23) (by omega) (by omega)).mp q.2)
  obtain ⟨f1, f2⟩ := c_119 hR hD k2 (t := t) (ρ := rk t) (by omega) h6 k4 (fun q => by rw [hww]; exact hb (by omega))
  rcases Nat.lt_or_ge k 64 with hk64 | hk64
  · right
    obtain ⟨I1, g1, g2, g3, g4, g5, g6⟩ := f2 hk64
    rw [hww, show z + r - r2 + r2 = z + r by omega] at g2
    have i40 : I1 40 = I 40 := (g6 40 (by omega) (by omega) (by omega) (by omega) (by omega)).trans (k6 40 (by omega) (by omega) (by omega) (by omega))
    have i1 : I1 1 = I 1 := (g6 1 (by omega) (by omega) (by omega) (by omega) (by omega)).trans (k6 1 (by omega) (by omega) (by omega) (by omega))
    have i41 : I1 41 = I 41 := (g6 41 (by omega) (by omega) (by omega) (by omega) (by omega)).trans (k6 41 (by omega) (by omega) (by omega) (by omega))
    obtain ⟨I2, J2, p2, t2, q1, q2, q3, q4, q5, q6⟩ := adv hR hR' hD hk t36 hi (fun j _ => by rw [i40]) i1 i41 (fun j j1 j2 => xu_at2 (by omega)) (xu_off (by omega)) g2 (by omega)
    have l1 : LFC D z I I2 := lfc_trans (lfc_trans k5 g5 k7) (lfc_nc (z := z) hD q5) (Nat.le_refl _)
    have l2 : LFM (z + r) J (xu J 99 31 (nI (k + 1))) := ⟨fun q q1 _ _ _ => xu_off q1, fun j hj => xu_at2 (by omega), fun j _ => by rw [xu_off (by omega)], fun i _ => by rw [xu_off (by omega), xu_off (by omega)]; exact ⟨rfl, rfl⟩⟩
    exact ⟨hk64, I2, J2, p2, t2, lp_s1 hR (by omega) h4 hn (k1.trans g1) q1, q2, q3, by rw [q5.1 43 (by omega)]; exact g3, by rw [q5.1 43 (by omega)]; exact g4, q4, l1, lfm_trans l2 (lfm_nm (y := z + r) q6) (Nat.le_refl _)⟩
  · left
    have ek : k = 64 := by omega
    refine ⟨ek, rfC 2 X, lp_s0 hR (by omega) h4 hn (k1.trans (f1 ek)), lfc_le (lfc_rf hD k5) (by omega), ft_of (by decide) ?_ (tk_mp hk)⟩
    rw [k6 40 (by omega) (by omega) (by omega) (by omega)]; exact tk_cp hk
theorem st_bad {P : Nat} {L : Nat → Nat → Int64} {R : Nat → Nat → Option Nat} (hR : ∀ I, RefOK (I, L, R) P) {n : Nat} {B : Nat → Nat} {D i k z w o r z0 : Nat} {S : Nat → Nat} {p t : Nat} {I J : Nat → Nat → Int32} (hD : isPl D) (hs : OKS n B D i k z w o r z0 S p t I J) (h4 : I 43 4 = 0) (hn : ¬ (o = 0 ∧ t = 23)) (h25 : t = 25 → o = 0) (hr : rk t = 0 ∨ rk t = 3 ∨ (rk t = 4 ∧ ∃ j, j < r ∧ rk (S (w - 1 - j)) = 4 ∧ ∀ j', j' < j → 5 ≤ rk (S (w - 1 - j')))) : ∃ I', LRD L R D i I = some (0, (I', L, R)) ∧ LFC D 0 I I' ∧ FT I' (rfM 1 J) := by
  have hpr := isPl_le hD
  obtain ⟨a, hk, hl, he, hi⟩ := hs
  have a1 := lk_k64 hl; have a2 := lk_o8 hl; have a3 := lk_zw hl; have a4 := lk_ow hl
  have h7 := tb_n7 (tk_tb hk); have han := tk_an hk; have hpa := (tk_pa hk).1; have t37 := tk_t37 hk
  have h6 := rk_6 t
  have hn2 : ¬ (I 43 3 = 0 ∧ I 40 0 = 23) := by
    rw [tk_ct hk, lk_co hl]
    exact fun q => hn ⟨(nI_eq (b := 0) (by omega) (by omega)).mp q.1, (nI_eq (b := 23) (by omega) (by omega)).mp q.2⟩
  have hS : f_X0_readSign shA 43 (D + 13) (I, L, R) = k_X0_readSign_49 shA 43 (D + 13) (nI t) (I, L, R) := by
    unfold f_X0_readSign
    rw [gR_of sA_43 (rf_43_0 (hR _)), Option.bind_some, gI_of sA_40, Option.bind_some]
    simp only [tk_ct hk]
    by_cases c : t = 25
    · rw [if_pos (show nI t = (25 : Int32) by rw [c]; rfl), gI_of sA_43, Option.bind_some]
      simp only [lk_co hl, h25 c]
      rw [if_pos (show nI 0 ≤ 0 by decide)]
    · rw [if_neg (show ¬ nI t = (25 : Int32) from fun q => c ((nI_eq (b := 25) (by omega) (by omega)).mp q))]
  have r63 : k_X0_readSign_63 shA 43 (I, L, R) = some (0, (rfC 1 I, L, R)) := by
    unfold k_X0_readSign_63
    rw [gR_of sA_43 (rf_43_0 (hR _)), Option.bind_some, on_of sA_40, c_refuse, Option.bind_some]
    rfl
  have e0 : nI (rk t) = (0 : Int32) ↔ rk t = 0 := nI_eq (b := 0) (by omega) (by omega)
  have e3 : nI (rk t) = (3 : Int32) ↔ rk t = 3 := nI_eq (b := 3) (by omega) (by omega)
  have e4 : nI (rk t) = (4 : Int32) ↔ rk t = 4 := nI_eq (b := 4) (by omega) (by omega)
  by_cases c : rk t = 0 ∨ rk t = 3
  · refine ⟨rfC 1 I, lp_s0 hR (by omega) h4 hn2 ?_, lfc_rf hD lfc_refl, ft_of (by decide) (tk_cp hk) (tk_mp hk)⟩
    rw [hS]
    unfold k_X0_readSign_49
    rw [e_rank t37, Option.bind_some]
    dsimp only
    rcases c with c | c
    · rw [if_pos (e0.mpr c), r63]
    · rw [if_neg (fun q => by have := e0.mp q; omega), if_pos (e3.mpr c), r63]
  · obtain ⟨c4, j, j1, j2, j3⟩ : rk t = 4 ∧ ∃ j, j < r ∧ rk (S (w - 1 - j)) = 4 ∧ ∀ j', j' < j → 5 ≤ rk (S (w - 1 - j')) := by
      rcases hr with z | z | z
      · exact absurd (Or.inl z) c
      · exact absurd (Or.inr z) c
      · exact z
    obtain ⟨X, p1, p2, p3, p4, p5, p6, p7, p8⟩ := c_rel hR hD (lo := 5) (by omega) (S := S) j I z w xF (lk_cw hl) (by omega) (lk_st hl) (lk_cz hl) (by omega) (by omega) j3 (fun _ => by rw [show w - j - 1 = w - 1 - j by omega, j2]; omega) (by unfold xF; omega)
    have p1 : f_X0_release shA 43 (D + 13) (nI 5) (I, L, R) = some (X, L, R) := p1
    obtain ⟨v, hv⟩ : ∃ v, w - j = v + 1 := ⟨w - j - 1, by omega⟩
    have sv := lk_st hl v (by omega)
    have x44 : X 44 = I 44 := p6 44 (by omega) (by omega) (by omega) (by omega)
    have x40 : X 40 = I 40 := p6 40 (by omega) (by omega) (by omega) (by omega)
    refine ⟨rfC 1 X, lp_s0 hR (by omega) h4 hn2 ?_, lfc_rf hD ⟨fun q _ q2 _ q4 q5 q6 => p6 q q2 q4 q5 q6, fun q _ q2 => p8 q q2, fun q hq => by omega, by rw [x40]⟩, ft_of (by decide) (by rw [x40]; exact tk_cp hk) (tk_mp hk)⟩
    rw [hS]
    unfold k_X0_readSign_49
    rw [e_rank t37, Option.bind_some]
    dsimp only
    rw [if_neg (fun q => by have := e0.mp q; omega), if_neg (fun q => by have := e3.mp q; omega), if_pos (e4.mpr c4), on_of sA_43, nI_1, c4, p1, Option.bind_some, gI_of sA_43, Option.bind_some]
    simp only [p2, hv]
    rw [if_neg (nI_nle (by omega) (by omega)), gR_of sA_43 (rf_43_1 (hR _)), Option.bind_some, Option.bind_some, nI_pred, aI_of sA_44 (by omega) (by omega), Option.bind_some]
    dsimp only
    rw [x44, sv.1, e_rank sv.2, Option.bind_some]
    dsimp only
    rw [show v = w - 1 - j by omega, j2, if_pos rfl, gR_of sA_43 (rf_43_0 (hR _)), Option.bind_some, on_of sA_40, c_refuse, Option.bind_some]
    rfl

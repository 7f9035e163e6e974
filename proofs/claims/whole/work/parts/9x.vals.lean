/-! LEVEL 2: text. The reader of laws: values, brackets, not -/
theorem lfm_99 {y k : Nat} {v : Int32} {J : Nat → Nat → Int32} (hk : k = 30 ∨ k = 31) : LFM y J (xu J 99 k v) :=
  ⟨fun q q1 _ _ _ => xu_off q1, fun j hj => xu_at2 (by omega), fun j _ => by rw [xu_off (by omega)], fun i _ => by rw [xu_off (by omega), xu_off (by omega)]; exact ⟨rfl, rfl⟩⟩
theorem st_close {P P' : Nat} {L L' : Nat → Nat → Int64} {R R' : Nat → Nat → Option Nat} (hR : ∀ I, RefOK (I, L, R) P) (hR' : ∀ I, RefOK (I, L', R') P') {r : Nat} {n : Nat} {B : Nat → Nat} {D i k z w o z0 : Nat} {S : Nat → Nat} {p t : Nat} {I J : Nat → Nat → Int32} (hD : isPl D) (hs : OKS n B D i k z w o r z0 S p t I J) (h4 : I 43 4 = 0) (ht : t = 25) (ho : 1 ≤ o) (hb : r < w ∧ S (w - r - 1) = 24) : ∃ I2 J2 p2 t2, LRD L R D i I = LRD L R D (i + 1) I2 ∧ f_X10_token shA 99 (xu J 99 30 (nI (o - 1)), L', R') = some (J2, L', R') ∧ OKS n B D (i + 1) k (z + r) (w - r - 1) (o - 1) 0 z0 S p2 t2 I2 J2 ∧ I2 43 4 = 0 ∧ p < p2 ∧ LFC D z I I2 ∧ LFM (z + r) J J2 := by
  have hpr := isPl_le hD
  obtain ⟨a, hk, hl, he, hi⟩ := hs
  have a1 := lk_k64 hl; have a2 := lk_o8 hl; have a3 := lk_zw hl; have a4 := lk_ow hl
  have h7 := tb_n7 (tk_tb hk); have han := tk_an hk; have hpa := (tk_pa hk).1
  obtain ⟨o', rfl⟩ : ∃ v, o = v + 1 := ⟨o - 1, by omega⟩
  obtain ⟨w', hw'⟩ : ∃ v, w - r = v + 1 := ⟨w - r - 1, by omega⟩
  obtain ⟨X, x1, x2, x3, x4, x5, x6⟩ := lk_rel hR hD hl (lo := 1) (by omega) (fun j hj => (lk_pn hl j hj).2.2) (fun q => by rw [hb.2]; decide)
  have x1 : f_X0_release shA 43 (D + 13) (1 : Int32) (I, L, R) = some (X, L, R) := x1
  have n25 : nI t = (25 : Int32) := by rw [ht]; rfl
  have hn : ¬ (I 43 3 = 0 ∧ I 40 0 = 23) := by
    rw [tk_ct hk, ht]
    exact fun q => absurd q.2 (by decide)
  rw [hw'] at x2
  generalize hI2 : xu (xu X 43 3 (nI o')) 43 2 (nI w') = I1
  have oq : ∀ q, q ≠ 43 → I1 q = X q := fun q q1 => by rw [← hI2, xu_off q1, xu_off q1]
  have e1 : f_X0_readSign shA 43 (D + 13) (I, L, R) = some (1, (I1, L, R)) := by
    unfold f_X0_readSign
    rw [gR_of sA_43 (rf_43_0 (hR _)), Option.bind_some, gI_of sA_40, Option.bind_some]
    simp only [tk_ct hk, n25, ↓reduceIte, gI_of sA_43, Option.bind_some, lk_co hl]
    rw [if_neg (nI_nle (by omega) (by omega)), on_of sA_43, x1, Option.bind_some, pL_3, Option.bind_some]
    dsimp only
    rw [lk_co x2, nI_pred, pL_2, Option.bind_some]
    dsimp only
    rw [xu_at2 (by omega), lk_cw x2, nI_pred, hI2]
  have l2 : LK D k (z + r) w' o' 0 z0 S I1 (xu J 99 30 (nI o')) := lk_upd x2 (by rw [oq 40 (by omega)]) (by rw [oq 40 (by omega)]) (oq _ (by omega)) (oq _ (by omega)) (oq _ (by omega)) (xu_at2 (by omega)) (xu_at2 (by omega)) (xu_at2 (by omega)) (xu_off (by omega)) (xu_off (by omega)) (xu_off (by omega)) (by rw [← hI2, xu_at]) (by rw [← hI2, xu_at2 (by omega), xu_at]) xu_at (by omega) (by omega) (by omega) (fun i hi => by rw [oq 44 (by omega)]; exact lk_st x2 i (by omega))
  have ix : ∀ q, q ≠ 43 → q ≠ D + 13 → q ≠ D + 14 → q ≠ D + 15 → I1 q = I q := fun q q1 q2 q3 q4 => (oq q q1).trans (x6 q q1 q2 q3 q4)
  obtain ⟨I2, J2, p2, t2, q1, q2, q3, q4, q5, q6⟩ := adv hR hR' hD hk (show t ≠ 36 by omega) hi (fun j _ => by rw [ix 40 (by omega) (by omega) (by omega) (by omega)]) (ix 1 (by omega) (by omega) (by omega) (by omega)) (ix 41 (by omega) (by omega) (by omega) (by omega)) (fun j j1 j2 => xu_at2 (by omega)) (xu_off (by omega)) l2 (by omega)
  have l1 : LFC D z I I1 := lfc_trans x3 ⟨fun q _ q2 _ _ _ _ => oq q q2, fun j _ _ => by rw [oq (D + 13) (by omega)], fun i _ => by rw [oq (D + 14) (by omega), oq (D + 15) (by omega)]; exact ⟨rfl, rfl⟩, by rw [oq 40 (by omega)]⟩ (Nat.le_refl z)
  rw [show w - r - 1 = w' by omega]
  refine ⟨I2, J2, p2, t2, lp_s1 hR (by omega) h4 hn e1 q1, q2, q3, ?_, q4, lfc_trans l1 (lfc_nc (z := z) hD q5) (Nat.le_refl _), lfm_trans (lfm_99 (Or.inl rfl)) (lfm_nm (y := z + r) q6) (Nat.le_refl _)⟩
  rw [q5.1 43 (by omega), ← hI2, xu_at2 (by omega), xu_at2 (by omega), x5 4 (by omega)]; exact h4
theorem st_open {P P' : Nat} {L L' : Nat → Nat → Int64} {R R' : Nat → Nat → Option Nat} (hR : ∀ I, RefOK (I, L, R) P) (hR' : ∀ I, RefOK (I, L', R') P') {n : Nat} {B : Nat → Nat} {D i k z w o z0 : Nat} {S : Nat → Nat} {p t : Nat} {I J : Nat → Nat → Int32} (hD : isPl D) (hs : OKS n B D i k z w o 0 z0 S p t I J) (h4 : I 43 4 = 1) (ht : t = 24) (ho : o < 8) : ∃ I2 J2 p2 t2, LRD L R D i I = LRD L R D (i + 1) I2 ∧ f_X10_token shA 99 (xu J 99 30 (nI (o + 1)), L', R') = some (J2, L', R') ∧ OKS n B D (i + 1) k z (w + 1) (o + 1) 0 z0 (fun j => if j = w then 24 else S j) p2 t2 I2 J2 ∧ I2 43 4 = 1 ∧ I2 43 5 = 1 ∧ p < p2 ∧ LFC D z I I2 ∧ LFM z J J2 := by
  have hpr := isPl_le hD
  obtain ⟨a, hk, hl, he, hi⟩ := hs
  have a1 := lk_k64 hl; have a2 := lk_o8 hl; have a3 := lk_zw hl; have a4 := lk_ow hl
  have h7 := tb_n7 (tk_tb hk); have han := tk_an hk; have hpa := (tk_pa hk).1
  have n24 : nI t = (24 : Int32) := by rw [ht]; rfl
  generalize hI2 : xu (xu (xu (xu I 43 3 (nI (o + 1))) 43 5 1) 44 w 24) 43 2 (nI (w + 1)) = I1
  have oq : ∀ q, q ≠ 43 → q ≠ 44 → I1 q = I q := fun q q1 q2 => by rw [← hI2, xu_off q1, xu_off q2, xu_off q1, xu_off q1]
  have e1 : f_X0_readValue shA 43 (D + 13) (I, L, R) = some (1, (I1, L, R)) := by
    unfold f_X0_readValue
    rw [gR_of sA_43 (rf_43_0 (hR _)), Option.bind_some, gI_of sA_40, Option.bind_some]
    simp only [tk_ct hk, n24, ↓reduceIte, gI_of sA_43, Option.bind_some, lk_co hl]
    rw [if_pos (show nI o < (8 : Int32) from nI_lt (b := 8) ho (by omega)), nI_1, pL_3, Option.bind_some, pL_5 (Or.inr rfl), Option.bind_some, on_of sA_43]
    dsimp only
    rw [c_hold hR (w := w) (by rw [xu_at2 (by omega), xu_at2 (by omega)]; exact lk_cw hl) (by omega), Option.bind_some]
    dsimp only
    rw [xz_1, Option.bind_some, hI2]
  have l2 : LK D k z (w + 1) (o + 1) 0 z0 (fun j => if j = w then 24 else S j) I1 (xu J 99 30 (nI (o + 1))) := by
    refine lk_upd hl (by rw [oq 40 (by omega) (by omega)]) (by rw [oq 40 (by omega) (by omega)]) (oq _ (by omega) (by omega)) (oq _ (by omega) (by omega)) (oq _ (by omega) (by omega)) (xu_at2 (by omega)) (xu_at2 (by omega)) (xu_at2 (by omega)) (xu_off (by omega)) (xu_off (by omega)) (xu_off (by omega)) (by rw [← hI2, xu_at]) (by rw [← hI2, xu_at2 (by omega), xu_cell (by omega), xu_at2 (by omega), xu_at]) xu_at (by omega) (by omega) (by omega) (fun i hi => ?_)
    rw [← hI2, xu_cell (by omega)]
    by_cases c : i = w
    · subst c
      rw [xu_at, if_pos rfl]
      exact ⟨rfl, by omega⟩
    · rw [xu_at2 c, xu_cell (by omega), xu_cell (by omega), if_neg c]
      exact lk_st hl i (by omega)
  obtain ⟨I2, J2, p2, t2, q1, q2, q3, q4, q5, q6⟩ := adv hR hR' hD hk (show t ≠ 36 by omega) hi (fun j _ => by rw [oq 40 (by omega) (by omega)]) (oq 1 (by omega) (by omega)) (oq 41 (by omega) (by omega)) (fun j j1 j2 => xu_at2 (by omega)) (xu_off (by omega)) l2 (by omega)
  have l1 : LFC D z I I1 := ⟨fun q _ q2 q3 _ _ _ => oq q q2 q3, fun j _ _ => by rw [oq (D + 13) (by omega) (by omega)], fun i _ => by rw [oq (D + 14) (by omega) (by omega), oq (D + 15) (by omega) (by omega)]; exact ⟨rfl, rfl⟩, by rw [oq 40 (by omega) (by omega)]⟩
  refine ⟨I2, J2, p2, t2, lp_v1 hR (by omega) h4 e1 q1, q2, q3, ?_, ?_, q4, lfc_trans l1 (lfc_nc (z := z) hD q5) (Nat.le_refl _), lfm_trans (lfm_99 (Or.inl rfl)) (lfm_nm (y := z) q6) (Nat.le_refl _)⟩
  · rw [q5.1 43 (by omega), ← hI2, xu_at2 (by omega), xu_cell (by omega), xu_at2 (by omega), xu_at2 (by omega)]; exact h4
  · rw [q5.1 43 (by omega), ← hI2, xu_at2 (by omega), xu_cell (by omega), xu_at]
theorem st_not {P P' : Nat} {L L' : Nat → Nat → Int64} {R R' : Nat → Nat → Option Nat} (hR : ∀ I, RefOK (I, L, R) P) (hR' : ∀ I, RefOK (I, L', R') P') {n : Nat} {B : Nat → Nat} {D i k z w o z0 : Nat} {S : Nat → Nat} {p t : Nat} {I J : Nat → Nat → Int32} (hD : isPl D) (hs : OKS n B D i k z w o 0 z0 S p t I J) (h4 : I 43 4 = 1) (h5 : I 43 5 = 1) (ht : t = 13) : (k = 64 ∧ ∃ I', LRD L R D i I = some (0, (I', L, R)) ∧ LFC D 0 I I' ∧ FT I' (rfM 2 J)) ∨ (k < 64 ∧ ∃ I2 J2 p2 t2, LRD L R D i I = LRD L R D (i + 1) I2 ∧ f_X10_token shA 99 (xu J 99 31 (nI (k + 1)), L', R') = some (J2, L', R') ∧ OKS n B D (i + 1) (k + 1) z (w + 1) o 0 z0 (fun j => if j = w then t else S j) p2 t2 I2 J2 ∧ I2 43 4 = 1 ∧ I2 43 5 = 1 ∧ p < p2 ∧ LFC D z I I2 ∧ LFM z J J2) := by
  have hpr := isPl_le hD
  obtain ⟨a, hk, hl, he, hi⟩ := hs
  have a1 := lk_k64 hl; have a2 := lk_o8 hl; have a3 := lk_zw hl; have a4 := lk_ow hl
  have h7 := tb_n7 (tk_tb hk); have han := tk_an hk; have hpa := (tk_pa hk).1
  have n13 : nI t = (13 : Int32) := by rw [ht]; rfl
  have hV : f_X0_readValue shA 43 (D + 13) (I, L, R) = ((f_X0_countKnot shA 43 (D + 13) (I, L, R)).bind fun z20 => if z20.1 = 0 then (k_X0_readValue_86 shA z20.2) else ((xon 0 shA 43 (f_X0_hold shA 43 (13 : Int32) z20.2)).bind fun z21 => if z21.1 = 0 then (k_X0_readValue_86 shA z21.2) else (k_X0_readValue_98 shA (1 : Int32) z21.2))) := by
    unfold f_X0_readValue
    rw [gR_of sA_43 (rf_43_0 (hR _)), Option.bind_some, gI_of sA_40, Option.bind_some]
    simp only [tk_ct hk, n13]
    rw [if_neg (show ¬ (13 : Int32) = 24 by decide)]
    simp only [↓reduceIte, gI_of sA_43, Option.bind_some, h5, on_of sA_43]
    rw [if_neg (show ¬ (1 : Int32) = 0 by decide)]
  rcases Nat.lt_or_ge k 64 with hk64 | hk64
  · right
    generalize hI2 : xu (xu (xu I (D + 13) 0 (nI (k + 1))) 44 w 13) 43 2 (nI (w + 1)) = I1
    have oq : ∀ q, q ≠ 43 → q ≠ 44 → q ≠ D + 13 → I1 q = I q := fun q q1 q2 q3 => by rw [← hI2, xu_off q1, xu_off q2, xu_off q3]
    have o43 : ∀ j, j ≠ 2 → I1 43 j = I 43 j := fun j hj => by rw [← hI2, xu_at2 hj, xu_cell (by omega), xu_cell (by omega)]
    have e1 : f_X0_readValue shA 43 (D + 13) (I, L, R) = some (1, (I1, L, R)) := by
      rw [hV, c_knot hR hD (lk_ck hl) a1, if_pos hk64, Option.bind_some]
      dsimp only
      rw [if_neg (show ¬ (1 : Int32) = 0 by decide), on_of sA_43, c_hold hR (w := w) (by rw [xu_cell (by omega)]; exact lk_cw hl) (by omega), Option.bind_some]
      dsimp only
      rw [if_neg (show ¬ (1 : Int32) = 0 by decide), hI2]
      rfl
    have l2 : LK D (k + 1) z (w + 1) o 0 z0 (fun j => if j = w then t else S j) I1 (xu J 99 31 (nI (k + 1))) := by
      refine ⟨(xu_at2 (by omega)).trans (lk_f0 hl), (xu_at2 (by omega)).trans (lk_f1 hl), by rw [oq 40 (by omega) (by omega) (by omega)]; exact lk_g0 hl, by rw [oq 40 (by omega) (by omega) (by omega)]; exact lk_g1 hl, by omega, by rw [← hI2, xu_cell (by omega), xu_cell (by omega), xu_at], xu_at, by rw [← hI2, xu_cell (by omega), xu_cell (by omega), xu_at2 (by omega)]; exact lk_cz hl, (xu_cell (by omega)).trans (lk_my hl), by rw [← hI2, xu_at], (o43 3 (by omega)).trans (lk_co hl), (xu_at2 (by omega)).trans (lk_mo hl), a2, by omega, by omega, fun i hi => ?_, fun i i1 i2 => ?_, fun j hj => by omega⟩
      · dsimp only
        rw [← hI2, xu_cell (by omega)]
        by_cases c : i = w
        · subst c
          rw [xu_at, if_pos rfl, n13]
          exact ⟨rfl, by omega⟩
        · rw [xu_at2 c, xu_cell (by omega), if_neg c]
          exact lk_st hl i (by omega)
      · have q := lk_km hl i i1 i2
        unfold KM at q ⊢
        rw [oq (D + 14) (by omega) (by omega) (by omega), oq (D + 15) (by omega) (by omega) (by omega), xu_cell (by omega), xu_cell (by omega)]; exact q
    obtain ⟨I2, J2, p2, t2, q1, q2, q3, q4, q5, q6⟩ := adv hR hR' hD hk (show t ≠ 36 by omega) hi (fun j _ => by rw [oq 40 (by omega) (by omega) (by omega)]) (oq 1 (by omega) (by omega) (by omega)) (oq 41 (by omega) (by omega) (by omega)) (fun j j1 j2 => xu_at2 (by omega)) (xu_off (by omega)) l2 (by omega)
    have l1 : LFC D z I I1 := ⟨fun q _ q2 q3 q4 _ _ => oq q q2 q3 q4, fun j j1 _ => by rw [← hI2, xu_cell (by omega), xu_cell (by omega), xu_at2 j1], fun i _ => by rw [oq (D + 14) (by omega) (by omega) (by omega), oq (D + 15) (by omega) (by omega) (by omega)]; exact ⟨rfl, rfl⟩, by rw [oq 40 (by omega) (by omega) (by omega)]⟩
    refine ⟨hk64, I2, J2, p2, t2, lp_v1 hR (by omega) h4 e1 q1, q2, q3, ?_, ?_, q4, lfc_trans l1 (lfc_nc (z := z) hD q5) (Nat.le_refl _), lfm_trans (lfm_99 (Or.inr rfl)) (lfm_nm (y := z) q6) (Nat.le_refl _)⟩
    · rw [q5.1 43 (by omega), o43 4 (by omega)]; exact h4
    · rw [q5.1 43 (by omega), o43 5 (by omega)]; exact h5
  · left
    refine ⟨by omega, rfC 2 I, lp_v0 hR (by omega) h4 ?_, lfc_rf hD lfc_refl, ft_of (by decide) (tk_cp hk) (tk_mp hk)⟩
    rw [hV, c_knot hR hD (lk_ck hl) a1, if_neg (by omega), Option.bind_some]
    dsimp only
    rw [if_pos rfl]
    rfl
/-- the value's row: what class and reference write -/
def LV (t : Nat) (I J : Nat → Nat → Int32) (so va : Int32) : Prop := (t = 22 ∧ so = 0 ∧ va = J 99 25 ∧ I 40 2 = va ∧ ∃ x, x ≤ 9999 ∧ va = nI x) ∨ (14 ≤ t ∧ t ≤ 20 ∧ so = 1 ∧ va = nI (t - 14))
theorem st_leaf {P P' : Nat} {L L' : Nat → Nat → Int64} {R R' : Nat → Nat → Option Nat} (hR : ∀ I, RefOK (I, L, R) P) (hR' : ∀ I, RefOK (I, L', R') P') {n : Nat} {B : Nat → Nat} {D i k z w o z0 : Nat} {S : Nat → Nat} {p t : Nat} {I J : Nat → Nat → Int32} (hD : isPl D) (hs : OKS n B D i k z w o 0 z0 S p t I J) (h4 : I 43 4 = 1) {so va : Int32} (hv : LV t I J so va) (hz0 : z0 ≤ z) : (k = 64 ∧ ∃ I', LRD L R D i I = some (0, (I', L, R)) ∧ LFC D 0 I I' ∧ FT I' (rfM 2 J)) ∨ (k < 64 ∧ ∃ I2 J2 p2 t2, LRD L R D i I = LRD L R D (i + 1) I2 ∧ f_X10_token shA 99 (xu (xu (xu (xu J 99 31 (nI (k + 1))) 115 (64 + z) so) 116 (64 + z) va) 101 15 (nI (z + 1)), L', R') = some (J2, L', R') ∧ OKS n B D (i + 1) (k + 1) (z + 1) w o 0 z0 S p2 t2 I2 J2 ∧ I2 43 4 = 0 ∧ p < p2 ∧ LFC D z I I2 ∧ LFM z J J2 ∧ J2 115 (64 + z) = so ∧ J2 116 (64 + z) = va) := by
  have hpr := isPl_le hD
  obtain ⟨a, hk, hl, he, hi⟩ := hs
  have a1 := lk_k64 hl; have a2 := lk_o8 hl; have a3 := lk_zw hl; have a4 := lk_ow hl
  have h7 := tb_n7 (tk_tb hk); have han := tk_an hk; have hpa := (tk_pa hk).1
  have tl : t = 22 ∨ (14 ≤ t ∧ t ≤ 20) := by rcases hv with q | q <;> omega
  have n24 : ¬ nI t = (24 : Int32) := fun q => by have := (nI_eq (b := 24) (by omega) (by omega)).mp q; omega
  have n13 : ¬ nI t = (13 : Int32) := fun q => by have := (nI_eq (b := 13) (by omega) (by omega)).mp q; omega
  have hV : f_X0_readValue shA 43 (D + 13) (I, L, R) = k_X0_readValue_162 shA 43 (D + 13) (nI t) (I, L, R) := by
    unfold f_X0_readValue
    rw [gR_of sA_43 (rf_43_0 (hR _)), Option.bind_some, gI_of sA_40, Option.bind_some]
    simp only [tk_ct hk]
    rw [if_neg n24, if_neg n13]
    unfold k_X0_readValue_110 k_X0_readValue_136
    rcases hv with ⟨q1, q2, q3, q4, x, q5, q6⟩ | ⟨q1, q2, q3, q4⟩
    · rw [if_pos (show nI t = (22 : Int32) by rw [q1]; rfl), if_neg (show ¬ (1 : Int32) = 0 by decide), if_neg (show ¬ (1 : Int32) = 0 by decide), gR_of sA_43 (rf_43_0 (hR _)), Option.bind_some, gI_of sA_40, Option.bind_some]
      simp only [q4, q6]
      rw [if_pos (show nI x ≤ (9999 : Int32) from nI_le (b := 9999) q5 (by omega))]
    · rw [if_neg (show ¬ nI t = (22 : Int32) from fun q => by have := (nI_eq (b := 22) (by omega) (by omega)).mp q; omega), if_pos rfl, if_neg (show ¬ nI t < (14 : Int32) from nI_nlt (b := 14) q1 (by omega)), if_pos (show nI t ≤ (20 : Int32) from nI_le (b := 20) q2 (by omega)), if_pos rfl]
  rcases Nat.lt_or_ge k 64 with hk64 | hk64
  · right
    generalize hI2 : xu (xu (xu (xu (xu I (D + 13) 0 (nI (k + 1))) (D + 14) z (nI t)) (D + 15) z (I 40 2)) (D + 13) 1 (nI (z + 1))) 43 4 0 = I1
    generalize hJ1 : xu (xu (xu (xu J 99 31 (nI (k + 1))) 115 (64 + z) so) 116 (64 + z) va) 101 15 (nI (z + 1)) = J1
    have oq : ∀ q, q ≠ 43 → q ≠ D + 13 → q ≠ D + 14 → q ≠ D + 15 → I1 q = I q := fun q q1 q2 q3 q4 => by rw [← hI2, xu_off q1, xu_off q2, xu_off q4, xu_off q3, xu_off q2]
    have o43 : ∀ j, j ≠ 4 → I1 43 j = I 43 j := fun j hj => by rw [← hI2, xu_at2 hj, xu_cell (by omega), xu_cell (by omega), xu_cell (by omega), xu_cell (by omega)]
    have o14 : ∀ j, j ≠ z → I1 (D + 14) j = I (D + 14) j := fun j hj => by rw [← hI2, xu_cell (by omega), xu_cell (by omega), xu_cell (by omega), xu_at2 hj, xu_cell (by omega)]
    have o14z : I1 (D + 14) z = nI t := by rw [← hI2, xu_cell (by omega), xu_cell (by omega), xu_cell (by omega), xu_at]
    have o15 : ∀ j, j ≠ z → I1 (D + 15) j = I (D + 15) j := fun j hj => by rw [← hI2, xu_cell (by omega), xu_cell (by omega), xu_at2 hj, xu_cell (by omega), xu_cell (by omega)]
    have o15z : I1 (D + 15) z = I 40 2 := by rw [← hI2, xu_cell (by omega), xu_cell (by omega), xu_at]
    have o13 : ∀ j, j ≠ 0 → j ≠ 1 → I1 (D + 13) j = I (D + 13) j := fun j j1 j2 => by rw [← hI2, xu_cell (by omega), xu_at2 j2, xu_cell (by omega), xu_cell (by omega), xu_at2 j1]
    have m99 : ∀ j, j ≠ 31 → J1 99 j = J 99 j := fun j hj => by rw [← hJ1, xu_cell (by omega), xu_cell (by omega), xu_cell (by omega), xu_at2 hj]
    have mq : ∀ q, q ≠ 99 → q ≠ 101 → q ≠ 115 → q ≠ 116 → J1 q = J q := fun q q1 q2 q3 q4 => by rw [← hJ1, xu_off q2, xu_off q4, xu_off q3, xu_off q1]
    have m115 : ∀ j, j ≠ 64 + z → J1 115 j = J 115 j := fun j hj => by rw [← hJ1, xu_cell (by omega), xu_cell (by omega), xu_at2 hj, xu_cell (by omega)]
    have m115z : J1 115 (64 + z) = so := by rw [← hJ1, xu_cell (by omega), xu_cell (by omega), xu_at]
    have m116 : ∀ j, j ≠ 64 + z → J1 116 j = J 116 j := fun j hj => by rw [← hJ1, xu_cell (by omega), xu_at2 hj, xu_cell (by omega), xu_cell (by omega)]
    have m116z : J1 116 (64 + z) = va := by rw [← hJ1, xu_cell (by omega), xu_at]
    have m101 : ∀ j, j ≠ 15 → J1 101 j = J 101 j := fun j hj => by rw [← hJ1, xu_at2 hj, xu_cell (by omega), xu_cell (by omega), xu_cell (by omega)]
    have e1 : f_X0_readValue shA 43 (D + 13) (I, L, R) = some (1, (I1, L, R)) := by
      rw [hV]
      unfold k_X0_readValue_162
      rw [on_of sA_43, c_knot hR hD (lk_ck hl) a1, if_pos hk64, Option.bind_some]
      dsimp only
      rw [if_neg (show ¬ (1 : Int32) = 0 by decide), gR_of sA_43 (rf_43_0 (hR _)), Option.bind_some, gI_of sA_40, Option.bind_some, on_of (sp_13 hD)]
      dsimp only
      rw [c_add hR hD (z := z) (by rw [xu_at2 (by omega)]; exact lk_cz hl) (by omega), Option.bind_some, pL_4 (Or.inl rfl), Option.bind_some, xu_cell (by omega)]
      dsimp only
      rw [hI2]
    have l2 : LK D (k + 1) (z + 1) w o 0 z0 S I1 J1 := by
      refine ⟨(m99 26 (by omega)).trans (lk_f0 hl), (m99 27 (by omega)).trans (lk_f1 hl), by rw [oq 40 (by omega) (by omega) (by omega) (by omega)]; exact lk_g0 hl, by rw [oq 40 (by omega) (by omega) (by omega) (by omega)]; exact lk_g1 hl, by omega, by rw [← hI2, xu_cell (by omega), xu_at2 (by omega), xu_cell (by omega), xu_cell (by omega), xu_at], by rw [← hJ1, xu_cell (by omega), xu_cell (by omega), xu_cell (by omega), xu_at], by rw [← hI2, xu_cell (by omega), xu_at], by rw [← hJ1, xu_at], (o43 2 (by omega)).trans (lk_cw hl), (o43 3 (by omega)).trans (lk_co hl), (m99 30 (by omega)).trans (lk_mo hl), a2, by omega, by omega, fun i hi => by rw [oq 44 (by omega) (by omega) (by omega) (by omega)]; exact lk_st hl i hi, fun i i1 i2 => ?_, fun j hj => by omega⟩
      by_cases c : i = z
      · subst c
        unfold KM
        rw [o14z, o15z, m115z, m116z]
        rcases hv with ⟨q1, q2, q3, q4, x, q5, q6⟩ | ⟨q1, q2, q3, q4⟩
        · rw [q1, q2, q4, q6]
          exact ⟨rfl, Or.inl ⟨rfl, rfl, x, q5, rfl⟩⟩
        · rw [q3, q4]
          refine ⟨?_, Or.inr (Or.inl ⟨rfl, t - 14, by omega, rfl⟩)⟩
          unfold trK
          rw [if_neg (show ¬ (1 : Int32) = 0 by decide), if_pos rfl, show (14 : Int32) + nI (t - 14) = nI (14 + (t - 14)) from nI_add 14 (t - 14), show 14 + (t - 14) = t by omega]
      · have q := lk_km hl i i1 (by omega)
        unfold KM at q ⊢
        rw [o14 i c, o15 i c, m115 (64 + i) (by omega), m116 (64 + i) (by omega)]; exact q
    obtain ⟨I2, J2, p2, t2, q1, q2, q3, q4, q5, q6⟩ := adv hR hR' hD hk (show t ≠ 36 by omega) hi (fun j _ => by rw [oq 40 (by omega) (by omega) (by omega) (by omega)]) (oq 1 (by omega) (by omega) (by omega) (by omega)) (oq 41 (by omega) (by omega) (by omega) (by omega)) (fun j j1 j2 => m99 j (by omega)) (mq 100 (by omega) (by omega) (by omega) (by omega)) l2 (by omega)
    have l1 : LFC D z I I1 := ⟨fun q _ q2 _ q4 q5 q6 => oq q q2 q4 q5 q6, o13, fun i hi => ⟨o14 i (by omega), o15 i (by omega)⟩, by rw [oq 40 (by omega) (by omega) (by omega) (by omega)]⟩
    have l3 : LFM z J J1 := ⟨mq, fun j hj => m99 j (by omega), m101, fun i hi => ⟨m115 i (by omega), m116 i (by omega)⟩⟩
    refine ⟨hk64, I2, J2, p2, t2, lp_v1 hR (by omega) h4 e1 q1, q2, q3, ?_, q4, lfc_trans l1 (lfc_nc (z := z) hD q5) (Nat.le_refl _), lfm_trans l3 (lfm_nm (y := z) q6) (Nat.le_refl _), ?_, ?_⟩
    · rw [q5.1 43 (by omega), ← hI2, xu_at]
    · rw [q6.1 115 (by omega), m115z]
    · rw [q6.1 116 (by omega), m116z]
  · left
    refine ⟨by omega, rfC 2 I, lp_v0 hR (by omega) h4 ?_, lfc_rf hD lfc_refl, ft_of (by decide) (tk_cp hk) (tk_mp hk)⟩
    rw [hV]
    unfold k_X0_readValue_162
    rw [on_of sA_43, c_knot hR hD (lk_ck hl) a1, if_neg (by omega), Option.bind_some]
    dsimp only
    rw [if_pos rfl]
/-- no value: the fault, by its kind -/
theorem st_badv {P : Nat} {L : Nat → Nat → Int64} {R : Nat → Nat → Option Nat} (hR : ∀ I, RefOK (I, L, R) P) {n : Nat} {B : Nat → Nat} {D i k z w o z0 : Nat} {S : Nat → Nat} {p t : Nat} {I J : Nat → Nat → Int32} (hD : isPl D) (hs : OKS n B D i k z w o 0 z0 S p t I J) (h4 : I 43 4 = 1) {v : Int32} (hv : (t = 24 ∧ o = 8 ∧ v = 2) ∨ (t = 13 ∧ I 43 5 = 0 ∧ v = 1) ∨ (t = 22 ∧ (∃ x, 9999 < x ∧ x ≤ 100000 ∧ I 40 2 = nI x) ∧ v = 2) ∨ (t ≠ 24 ∧ t ≠ 13 ∧ t ≠ 22 ∧ ¬ (14 ≤ t ∧ t ≤ 20) ∧ v = 1)) : ∃ I', LRD L R D i I = some (0, (I', L, R)) ∧ LFC D 0 I I' ∧ FT I' (rfM v J) := by
  have hpr := isPl_le hD
  obtain ⟨a, hk, hl, he, hi⟩ := hs
  have h7 := tb_n7 (tk_tb hk); have han := tk_an hk; have hpa := (tk_pa hk).1; have t37 := tk_t37 hk
  have v0 : v ≠ 0 := by rcases hv with ⟨_, _, q⟩ | ⟨_, _, q⟩ | ⟨_, _, q⟩ | ⟨_, _, _, _, q⟩ <;> rw [q] <;> decide
  have e24 : nI t = (24 : Int32) ↔ t = 24 := nI_eq (b := 24) (by omega) (by omega)
  have e13 : nI t = (13 : Int32) ↔ t = 13 := nI_eq (b := 13) (by omega) (by omega)
  have e22 : nI t = (22 : Int32) ↔ t = 22 := nI_eq (b := 22) (by omega) (by omega)
  refine ⟨rfC v I, lp_v0 hR (by omega) h4 ?_, lfc_rf hD lfc_refl, ft_of v0 (tk_cp hk) (tk_mp hk)⟩
  unfold f_X0_readValue
  rw [gR_of sA_43 (rf_43_0 (hR _)), Option.bind_some, gI_of sA_40, Option.bind_some]
  simp only [tk_ct hk, e24, e13, e22]
  rcases hv with ⟨q1, q2, q3⟩ | ⟨q1, q2, q3⟩ | ⟨q1, ⟨x, q2, q4, q5⟩, q3⟩ | ⟨q1, q2, q3, q4, q5⟩
  · rw [if_pos q1]
    simp only [gI_of sA_43, Option.bind_some, lk_co hl, q2, gR_of sA_43 (rf_43_0 (hR _))]
    rw [if_neg (show ¬ nI 8 < (8 : Int32) by decide), on_of sA_40, c_refuse, Option.bind_some, q3]
    rfl
  · rw [if_neg (show ¬ t = 24 by omega), if_pos q1]
    simp only [gI_of sA_43, Option.bind_some, q2, ↓reduceIte, gR_of sA_43 (rf_43_0 (hR _))]
    rw [on_of sA_40, c_refuse, Option.bind_some, q3]
    rfl
  · rw [if_neg (show ¬ t = 24 by omega), if_neg (show ¬ t = 13 by omega), if_pos q1]
    unfold k_X0_readValue_110 k_X0_readValue_136
    rw [if_neg (show ¬ (1 : Int32) = 0 by decide), if_neg (show ¬ (1 : Int32) = 0 by decide), gR_of sA_43 (rf_43_0 (hR _)), Option.bind_some, gI_of sA_40, Option.bind_some]
    simp only [q5]
    rw [if_neg (show ¬ nI x ≤ (9999 : Int32) from nI_ge (a := 9999) q2 (by omega)), Option.bind_some, on_of sA_40, c_refuse, Option.bind_some, q3]
    rfl
  · rw [if_neg q1, if_neg q2, if_neg q3]
    unfold k_X0_readValue_110 k_X0_readValue_127
    rw [if_pos rfl]
    have key : ((xgR 0 shA (I, L, R) 43 0).bind fun v11 => (xon 7 shA v11 (f_X7_refuse shA v11 (1 : Int32) (I, L, R))).bind fun z12 => (xz z12.1).bind fun v13 => some (v13, z12.2)) = some (0, (rfC v I, L, R)) := by
      rw [gR_of sA_43 (rf_43_0 (hR _)), Option.bind_some, on_of sA_40, c_refuse, Option.bind_some, q5]
      rfl
    by_cases c : t < 14
    · rw [if_pos (show nI t < (14 : Int32) from nI_lt (b := 14) c (by omega)), key]
    · rw [if_neg (show ¬ nI t < (14 : Int32) from nI_nlt (b := 14) (by omega) (by omega)), if_neg (show ¬ nI t ≤ (20 : Int32) from nI_ge (a := 20) (by omega) (by omega)), key]

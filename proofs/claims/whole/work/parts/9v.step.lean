/-! LEVEL 2: text. The reader of laws, step by step -/
def KM (D : Nat) (I J : Nat → Nat → Int32) (i : Nat) : Prop := I (D + 14) i = trK (J 115 (64 + i)) (J 116 (64 + i)) ∧ okK (J 115 (64 + i)) (J 116 (64 + i)) (I (D + 15) i)
def LK (D k z w o r z0 : Nat) (S : Nat → Nat) (I J : Nat → Nat → Int32) : Prop := (J 99 26 = 0) ∧ (J 99 27 = -1) ∧ (I 40 3 = 0) ∧ (I 40 4 = -1) ∧ (k ≤ 64) ∧ (I (D + 13) 0 = nI k) ∧ (J 99 31 = nI k) ∧ (I (D + 13) 1 = nI z) ∧ (J 101 15 = nI (z + r)) ∧ (I 43 2 = nI w) ∧ (I 43 3 = nI o) ∧ (J 99 30 = nI o) ∧ (o ≤ 8) ∧ (z + w ≤ k + o) ∧ (o + r ≤ w) ∧ (∀ i, i < w → I 44 i = nI (S i) ∧ S i ≤ 37) ∧ (∀ i, z0 ≤ i → i < z → KM D I J i) ∧ (∀ j, j < r → J 115 (64 + (z + j)) = 2 ∧ J 116 (64 + (z + j)) = nI (cd (S (w - 1 - j))) ∧ 1 ≤ rk (S (w - 1 - j)))
theorem lk_f0 {D k z w o r z0 : Nat} {S : Nat → Nat} {I J : Nat → Nat → Int32} (hh : LK D k z w o r z0 S I J) : J 99 26 = 0 := hh.1
theorem lk_f1 {D k z w o r z0 : Nat} {S : Nat → Nat} {I J : Nat → Nat → Int32} (hh : LK D k z w o r z0 S I J) : J 99 27 = -1 := hh.2.1
theorem lk_g0 {D k z w o r z0 : Nat} {S : Nat → Nat} {I J : Nat → Nat → Int32} (hh : LK D k z w o r z0 S I J) : I 40 3 = 0 := hh.2.2.1
theorem lk_g1 {D k z w o r z0 : Nat} {S : Nat → Nat} {I J : Nat → Nat → Int32} (hh : LK D k z w o r z0 S I J) : I 40 4 = -1 := hh.2.2.2.1
theorem lk_k64 {D k z w o r z0 : Nat} {S : Nat → Nat} {I J : Nat → Nat → Int32} (hh : LK D k z w o r z0 S I J) : k ≤ 64 := hh.2.2.2.2.1
theorem lk_ck {D k z w o r z0 : Nat} {S : Nat → Nat} {I J : Nat → Nat → Int32} (hh : LK D k z w o r z0 S I J) : I (D + 13) 0 = nI k := hh.2.2.2.2.2.1
theorem lk_mk {D k z w o r z0 : Nat} {S : Nat → Nat} {I J : Nat → Nat → Int32} (hh : LK D k z w o r z0 S I J) : J 99 31 = nI k := hh.2.2.2.2.2.2.1
theorem lk_cz {D k z w o r z0 : Nat} {S : Nat → Nat} {I J : Nat → Nat → Int32} (hh : LK D k z w o r z0 S I J) : I (D + 13) 1 = nI z := hh.2.2.2.2.2.2.2.1
theorem lk_my {D k z w o r z0 : Nat} {S : Nat → Nat} {I J : Nat → Nat → Int32} (hh : LK D k z w o r z0 S I J) : J 101 15 = nI (z + r) := hh.2.2.2.2.2.2.2.2.1
theorem lk_cw {D k z w o r z0 : Nat} {S : Nat → Nat} {I J : Nat → Nat → Int32} (hh : LK D k z w o r z0 S I J) : I 43 2 = nI w := hh.2.2.2.2.2.2.2.2.2.1
theorem lk_co {D k z w o r z0 : Nat} {S : Nat → Nat} {I J : Nat → Nat → Int32} (hh : LK D k z w o r z0 S I J) : I 43 3 = nI o := hh.2.2.2.2.2.2.2.2.2.2.1
theorem lk_mo {D k z w o r z0 : Nat} {S : Nat → Nat} {I J : Nat → Nat → Int32} (hh : LK D k z w o r z0 S I J) : J 99 30 = nI o := hh.2.2.2.2.2.2.2.2.2.2.2.1
theorem lk_o8 {D k z w o r z0 : Nat} {S : Nat → Nat} {I J : Nat → Nat → Int32} (hh : LK D k z w o r z0 S I J) : o ≤ 8 := hh.2.2.2.2.2.2.2.2.2.2.2.2.1
theorem lk_zw {D k z w o r z0 : Nat} {S : Nat → Nat} {I J : Nat → Nat → Int32} (hh : LK D k z w o r z0 S I J) : z + w ≤ k + o := hh.2.2.2.2.2.2.2.2.2.2.2.2.2.1
theorem lk_ow {D k z w o r z0 : Nat} {S : Nat → Nat} {I J : Nat → Nat → Int32} (hh : LK D k z w o r z0 S I J) : o + r ≤ w := hh.2.2.2.2.2.2.2.2.2.2.2.2.2.2.1
theorem lk_st {D k z w o r z0 : Nat} {S : Nat → Nat} {I J : Nat → Nat → Int32} (hh : LK D k z w o r z0 S I J) : ∀ i, i < w → I 44 i = nI (S i) ∧ S i ≤ 37 := hh.2.2.2.2.2.2.2.2.2.2.2.2.2.2.2.1
theorem lk_km {D k z w o r z0 : Nat} {S : Nat → Nat} {I J : Nat → Nat → Int32} (hh : LK D k z w o r z0 S I J) : ∀ i, z0 ≤ i → i < z → KM D I J i := hh.2.2.2.2.2.2.2.2.2.2.2.2.2.2.2.2.1
theorem lk_pn {D k z w o r z0 : Nat} {S : Nat → Nat} {I J : Nat → Nat → Int32} (hh : LK D k z w o r z0 S I J) : ∀ j, j < r → J 115 (64 + (z + j)) = 2 ∧ J 116 (64 + (z + j)) = nI (cd (S (w - 1 - j))) ∧ 1 ≤ rk (S (w - 1 - j)) := hh.2.2.2.2.2.2.2.2.2.2.2.2.2.2.2.2.2
def LFC (D z : Nat) (I I' : Nat → Nat → Int32) : Prop := (∀ q, q ≠ 40 → q ≠ 43 → q ≠ 44 → q ≠ D + 13 → q ≠ D + 14 → q ≠ D + 15 → I' q = I q) ∧ (∀ j, j ≠ 0 → j ≠ 1 → I' (D + 13) j = I (D + 13) j) ∧ (∀ i, i < z → I' (D + 14) i = I (D + 14) i ∧ I' (D + 15) i = I (D + 15) i) ∧ I' 40 7 = I 40 7
def LFM (y : Nat) (J J' : Nat → Nat → Int32) : Prop := (∀ q, q ≠ 99 → q ≠ 101 → q ≠ 115 → q ≠ 116 → J' q = J q) ∧ (∀ j, (j < 22 ∨ 31 < j ∨ j = 28 ∨ j = 29) → J' 99 j = J 99 j) ∧ (∀ j, j ≠ 15 → J' 101 j = J 101 j) ∧ (∀ i, i < 64 + y → J' 115 i = J 115 i ∧ J' 116 i = J 116 i)
theorem lfc_refl {D z : Nat} {I : Nat → Nat → Int32} : LFC D z I I := ⟨fun _ _ _ _ _ _ _ => rfl, fun _ _ _ => rfl, fun _ _ => ⟨rfl, rfl⟩, rfl⟩
theorem lfm_refl {y : Nat} {J : Nat → Nat → Int32} : LFM y J J := ⟨fun _ _ _ _ _ => rfl, fun _ _ => rfl, fun _ _ => rfl, fun _ _ => ⟨rfl, rfl⟩⟩
theorem lfc_trans {D z z' : Nat} {I I' I'' : Nat → Nat → Int32} (h : LFC D z I I') (h' : LFC D z' I' I'') (hz : z ≤ z') : LFC D z I I'' := by
  obtain ⟨a1, a2, a3, a4⟩ := h
  obtain ⟨b1, b2, b3, b4⟩ := h'
  refine ⟨fun q q1 q2 q3 q4 q5 q6 => (b1 q q1 q2 q3 q4 q5 q6).trans (a1 q q1 q2 q3 q4 q5 q6), fun j j1 j2 => (b2 j j1 j2).trans (a2 j j1 j2), fun i hi => ⟨(b3 i (by omega)).1.trans (a3 i hi).1, (b3 i (by omega)).2.trans (a3 i hi).2⟩, b4.trans a4⟩
theorem lfm_trans {y y' : Nat} {J J' J'' : Nat → Nat → Int32} (h : LFM y J J') (h' : LFM y' J' J'') (hz : y ≤ y') : LFM y J J'' := by
  obtain ⟨a1, a2, a3, a4⟩ := h
  obtain ⟨b1, b2, b3, b4⟩ := h'
  refine ⟨fun q q1 q2 q3 q4 => (b1 q q1 q2 q3 q4).trans (a1 q q1 q2 q3 q4), fun j hj => (b2 j hj).trans (a2 j hj), fun j hj => (b3 j hj).trans (a3 j hj), fun i hi => ⟨(b4 i (by omega)).1.trans (a4 i hi).1, (b4 i (by omega)).2.trans (a4 i hi).2⟩⟩
theorem lfc_le {D z z' : Nat} {I I' : Nat → Nat → Int32} (h : LFC D z' I I') (hz : z ≤ z') : LFC D z I I' := lfc_trans lfc_refl h hz
theorem lfm_le {y y' : Nat} {J J' : Nat → Nat → Int32} (h : LFM y' J J') (hz : y ≤ y') : LFM y J J' := lfm_trans lfm_refl h hz
theorem lfc_nc {D z : Nat} (hD : isPl D) {I I' : Nat → Nat → Int32} (h : NC I I') : LFC D z I I' := by
  have hpr := isPl_le hD
  exact ⟨fun q q1 _ _ _ _ _ => h.1 q q1, fun j _ _ => by rw [h.1 (D + 13) (by omega)], fun i _ => by rw [h.1 (D + 14) (by omega), h.1 (D + 15) (by omega)]; exact ⟨rfl, rfl⟩, h.2 7 (by omega) (by omega) (by omega) (by omega)⟩
theorem lfm_nm {y : Nat} {J J' : Nat → Nat → Int32} (h : NM J J') : LFM y J J' :=
  ⟨fun q q1 _ _ _ => h.1 q q1, fun j hj => h.2 j (by omega), fun j _ => by rw [h.1 101 (by omega)], fun i _ => by rw [h.1 115 (by omega), h.1 116 (by omega)]; exact ⟨rfl, rfl⟩⟩
theorem lk_n {D k z w o r z0 : Nat} {S : Nat → Nat} {I J I' J' : Nat → Nat → Int32} (hD : isPl D) (h : LK D k z w o r z0 S I J) (hc : NC I I') (hm : NM J J') : LK D k z w o r z0 S I' J' := by
  have hpr := isPl_le hD
  unfold LK KM at h ⊢
  rw [hc.1 (D + 13) (by omega), hc.1 (D + 14) (by omega), hc.1 (D + 15) (by omega), hc.1 43 (by omega), hc.1 44 (by omega), hc.2 3 (by omega) (by omega) (by omega) (by omega), hc.2 4 (by omega) (by omega) (by omega) (by omega), hm.1 101 (by omega), hm.1 115 (by omega), hm.1 116 (by omega), hm.2 26 (by omega), hm.2 27 (by omega), hm.2 30 (by omega), hm.2 31 (by omega)]
  exact h
def LRD (L : Nat → Nat → Int64) (R : Nat → Nat → Option Nat) (D i : Nat) (I : Nat → Nat → Int32) : Option (Int32 × xD) := xloop (fun _ _ _ _ => none) (b_X0_read_22 shA) (xF - i) 43 (D + 13) (nI i) (I, L, R)
theorem lp_v1 {P : Nat} {L : Nat → Nat → Int64} {R : Nat → Nat → Option Nat} (hR : ∀ I, RefOK (I, L, R) P) {D : Nat} {i : Nat} {I I1 I2 : Nat → Nat → Int32} (hi : i ≤ 700) (h4 : I 43 4 = 1) (e1 : f_X0_readValue shA 43 (D + 13) (I, L, R) = some (1, (I1, L, R))) (e2 : f_X7_next shA 40 (I1, L, R) = some (I2, L, R)) : LRD L R D i I = LRD L R D (i + 1) I2 := by
  unfold LRD
  rw [show xF - i = (xF - (i + 1)) + 1 by unfold xF; omega, loop_s]
  generalize xloop (fun _ _ _ _ => none) (b_X0_read_22 shA) (xF - (i + 1)) = rc
  rw [b_X0_read_22, if_neg (show ¬ (700 : Int32) < nI i from nI_nlt (a := 700) hi (by omega)), gI_of sA_43, Option.bind_some]
  dsimp only
  rw [if_neg (show ¬ I 43 4 = 0 by rw [h4]; decide)]
  unfold k_X0_read_63 k_X0_read_89 k_X0_read_91
  rw [gI_of sA_43, Option.bind_some]
  dsimp only
  rw [if_neg (show ¬ I 43 4 = 0 by rw [h4]; decide), on_of sA_43, e1, Option.bind_some]
  dsimp only
  rw [if_neg (show ¬ (1 : Int32) = 0 by decide), gR_of sA_43 (rf_43_0 (hR _)), Option.bind_some, on_of sA_40, e2, Option.bind_some, nI_1]
theorem lp_v0 {P : Nat} {L : Nat → Nat → Int64} {R : Nat → Nat → Option Nat} (hR : ∀ I, RefOK (I, L, R) P) {D : Nat} {i : Nat} {I I1 : Nat → Nat → Int32} (hi : i ≤ 700) (h4 : I 43 4 = 1) (e1 : f_X0_readValue shA 43 (D + 13) (I, L, R) = some (0, (I1, L, R))) : LRD L R D i I = some (0, (I1, L, R)) := by
  unfold LRD
  rw [show xF - i = (xF - (i + 1)) + 1 by unfold xF; omega, loop_s]
  generalize xloop (fun _ _ _ _ => none) (b_X0_read_22 shA) (xF - (i + 1)) = rc
  rw [b_X0_read_22, if_neg (show ¬ (700 : Int32) < nI i from nI_nlt (a := 700) hi (by omega)), gI_of sA_43, Option.bind_some]
  dsimp only
  rw [if_neg (show ¬ I 43 4 = 0 by rw [h4]; decide)]
  unfold k_X0_read_63 k_X0_read_89
  rw [gI_of sA_43, Option.bind_some]
  dsimp only
  rw [if_neg (show ¬ I 43 4 = 0 by rw [h4]; decide), on_of sA_43, e1, Option.bind_some]
  dsimp only
  rw [if_pos rfl]
theorem lp_s {P : Nat} {L : Nat → Nat → Int64} {R : Nat → Nat → Option Nat} (hR : ∀ I, RefOK (I, L, R) P) {D : Nat} {i : Nat} {I : Nat → Nat → Int32} (hi : i ≤ 700) (h4 : I 43 4 = 0) (hn : ¬ (I 43 3 = 0 ∧ I 40 0 = 23)) : LRD L R D i I = k_X0_read_63 shA (xloop (fun _ _ _ _ => none) (b_X0_read_22 shA) (xF - (i + 1))) 43 (D + 13) (nI i) (I, L, R) := by
  unfold LRD
  rw [show xF - i = (xF - (i + 1)) + 1 by unfold xF; omega, loop_s]
  generalize xloop (fun _ _ _ _ => none) (b_X0_read_22 shA) (xF - (i + 1)) = rc
  rw [b_X0_read_22, if_neg (show ¬ (700 : Int32) < nI i from nI_nlt (a := 700) hi (by omega)), gI_of sA_43, Option.bind_some]
  dsimp only
  rw [if_pos h4, gI_of sA_43, Option.bind_some, gR_of sA_43 (rf_43_0 (hR _)), Option.bind_some, gI_of sA_40, Option.bind_some]
  dsimp only
  by_cases c : I 43 3 = 0
  · rw [if_pos c, if_neg (fun z => hn ⟨c, z⟩)]
  · rw [if_neg c]
theorem lp_s1 {P : Nat} {L : Nat → Nat → Int64} {R : Nat → Nat → Option Nat} (hR : ∀ I, RefOK (I, L, R) P) {D : Nat} {i : Nat} {I I1 I2 : Nat → Nat → Int32} (hi : i ≤ 700) (h4 : I 43 4 = 0) (hn : ¬ (I 43 3 = 0 ∧ I 40 0 = 23)) (e1 : f_X0_readSign shA 43 (D + 13) (I, L, R) = some (1, (I1, L, R))) (e2 : f_X7_next shA 40 (I1, L, R) = some (I2, L, R)) : LRD L R D i I = LRD L R D (i + 1) I2 := by
  rw [lp_s hR hi h4 hn]
  unfold LRD
  generalize xloop (fun _ _ _ _ => none) (b_X0_read_22 shA) (xF - (i + 1)) = rc
  unfold k_X0_read_63 k_X0_read_89 k_X0_read_91
  rw [gI_of sA_43, Option.bind_some]
  dsimp only
  rw [if_pos h4, on_of sA_43, e1, Option.bind_some]
  dsimp only
  rw [if_neg (show ¬ (1 : Int32) = 0 by decide), gR_of sA_43 (rf_43_0 (hR _)), Option.bind_some, on_of sA_40, e2, Option.bind_some, nI_1]
theorem lp_s0 {P : Nat} {L : Nat → Nat → Int64} {R : Nat → Nat → Option Nat} (hR : ∀ I, RefOK (I, L, R) P) {D : Nat} {i : Nat} {I I1 : Nat → Nat → Int32} (hi : i ≤ 700) (h4 : I 43 4 = 0) (hn : ¬ (I 43 3 = 0 ∧ I 40 0 = 23)) (e1 : f_X0_readSign shA 43 (D + 13) (I, L, R) = some (0, (I1, L, R))) : LRD L R D i I = some (0, (I1, L, R)) := by
  rw [lp_s hR hi h4 hn]
  generalize xloop (fun _ _ _ _ => none) (b_X0_read_22 shA) (xF - (i + 1)) = rc
  unfold k_X0_read_63 k_X0_read_89
  rw [gI_of sA_43, Option.bind_some]
  dsimp only
  rw [if_pos h4, on_of sA_43, e1, Option.bind_some]
  dsimp only
  rw [if_pos rfl]
theorem lp_end {P : Nat} {L : Nat → Nat → Int64} {R : Nat → Nat → Option Nat} (hR : ∀ I, RefOK (I, L, R) P) {D : Nat} {i : Nat} {I I1 : Nat → Nat → Int32} (hi : i ≤ 700) (h4 : I 43 4 = 0) (h3 : I 43 3 = 0) (h0 : I 40 0 = 23) (e1 : f_X0_release shA 43 (D + 13) (1 : Int32) (I, L, R) = some (I1, L, R)) : LRD L R D i I = some (1, (I1, L, R)) := by
  unfold LRD
  rw [show xF - i = (xF - (i + 1)) + 1 by unfold xF; omega, loop_s]
  generalize xloop (fun _ _ _ _ => none) (b_X0_read_22 shA) (xF - (i + 1)) = rc
  rw [b_X0_read_22, if_neg (show ¬ (700 : Int32) < nI i from nI_nlt (a := 700) hi (by omega)), gI_of sA_43, Option.bind_some]
  dsimp only
  rw [if_pos h4, gI_of sA_43, Option.bind_some, gR_of sA_43 (rf_43_0 (hR _)), Option.bind_some, gI_of sA_40, Option.bind_some]
  dsimp only
  rw [if_pos h3, if_pos h0]
  unfold k_X0_read_55
  rw [on_of sA_43, e1, Option.bind_some]
theorem lk_rel {P : Nat} {L : Nat → Nat → Int64} {R : Nat → Nat → Option Nat} (hR : ∀ I, RefOK (I, L, R) P) {D k z w o r z0 : Nat} {S : Nat → Nat} {I J : Nat → Nat → Int32} (hD : isPl D) (h : LK D k z w o r z0 S I J) {lo : Nat} (hlo : lo ≤ 7) (h1 : ∀ j, j < r → lo ≤ rk (S (w - 1 - j))) (h2 : r < w → rk (S (w - r - 1)) < lo) : ∃ I', f_X0_release shA 43 (D + 13) (nI lo) (I, L, R) = some (I', L, R) ∧ LK D k (z + r) (w - r) o 0 z0 S I' J ∧ LFC D z I I' ∧ I' 40 = I 40 ∧ (∀ j, j ≠ 2 → I' 43 j = I 43 j) ∧ (∀ q, q ≠ 43 → q ≠ D + 13 → q ≠ D + 14 → q ≠ D + 15 → I' q = I q) := by
  have hpr := isPl_le hD
  have a1 := lk_k64 h; have a2 := lk_o8 h; have a3 := lk_zw h; have a4 := lk_ow h
  obtain ⟨I', p1, p2, p3, p4, p5, p6, p7, p8⟩ := c_rel hR hD hlo (S := S) r I z w xF (lk_cw h) (by omega) (lk_st h) (lk_cz h) (by omega) (by omega) h1 h2 (by unfold xF; omega)
  have e40 : I' 40 = I 40 := p6 40 (by omega) (by omega) (by omega) (by omega)
  have e44 : I' 44 = I 44 := p6 44 (by omega) (by omega) (by omega) (by omega)
  refine ⟨I', p1, ⟨lk_f0 h, lk_f1 h, by rw [e40]; exact lk_g0 h, by rw [e40]; exact lk_g1 h, a1, (p8 0 (by omega)).trans (lk_ck h), lk_mk h, p3, (show J 101 15 = nI (z + r) from lk_my h), p2, (p7 3 (by omega)).trans (lk_co h), lk_mo h, a2, by omega, by omega, fun i hi => by rw [e44]; exact lk_st h i (by omega), fun i i1 i2 => ?_, fun j hj => by omega⟩, ⟨fun q _ q2 _ q4 q5 q6 => p6 q q2 q4 q5 q6, fun j _ j2 => p8 j j2, p5, by rw [e40]⟩, e40, p7, p6⟩
  by_cases c : i < z
  · unfold KM
    rw [(p5 i c).1, (p5 i c).2]
    exact lk_km h i i1 c
  · obtain ⟨j, rfl⟩ : ∃ j, i = z + j := ⟨i - z, by omega⟩
    obtain ⟨q1, q2, q3⟩ := lk_pn h j (by omega)
    obtain ⟨q4, q5⟩ := cd_dec ⟨S (w - 1 - j), by have := (lk_st h (w - 1 - j) (by omega)).2; omega⟩ q3
    dsimp only at q4 q5
    unfold KM
    rw [(p4 j (by omega)).1, q1, q2, q4]
    exact ⟨rfl, Or.inr (Or.inr ⟨rfl, q5⟩)⟩
theorem tk_congr {n : Nat} {B : Nat → Nat} {p a t : Nat} {I J I' J' : Nat → Nat → Int32} (h : TK n B p a t I J) (c40 : ∀ j, (j < 3 ∨ 7 ≤ j) → I' 40 j = I 40 j) (c1 : I' 1 = I 1) (c41 : I' 41 = I 41) (m : ∀ j, 21 ≤ j → j ≤ 25 → J' 99 j = J 99 j) (m100 : J' 100 = J 100) : TK n B p a t I' J' := by
  refine ⟨tb_congr (tk_tb h) (c40 7 (by omega)) c1 c41 (m 21 (by omega) (by omega)) m100, tk_an h, (c40 8 (by omega)).trans (tk_ca h), (m 22 (by omega) (by omega)).trans (tk_ma h), tk_pa h, (c40 1 (by omega)).trans (tk_cp h), (m 23 (by omega) (by omega)).trans (tk_mp h), tk_t37 h, (c40 0 (by omega)).trans (tk_ct h), ?_⟩
  rw [c40 2 (by omega), m 24 (by omega) (by omega), m 25 (by omega) (by omega)]
  exact tk_tt h
def OKS (n : Nat) (B : Nat → Nat) (D i k z w o r z0 : Nat) (S : Nat → Nat) (p t : Nat) (I J : Nat → Nat → Int32) : Prop := ∃ a, TK n B p a t I J ∧ LK D k z w o r z0 S I J ∧ z + w = k + o ∧ i ≤ p
theorem adv {P P' : Nat} {L L' : Nat → Nat → Int64} {R R' : Nat → Nat → Option Nat} (hR : ∀ I, RefOK (I, L, R) P) (hR' : ∀ I, RefOK (I, L', R') P') {n : Nat} {B : Nat → Nat} {D i k z w o r z0 : Nat} {S : Nat → Nat} {p a t : Nat} {I J I1 J1 : Nat → Nat → Int32} (hD : isPl D) (ht : TK n B p a t I J) (h36 : t ≠ 36) (hi : i ≤ p) (c40 : ∀ j, (j < 3 ∨ 7 ≤ j) → I1 40 j = I 40 j) (c1 : I1 1 = I 1) (c41 : I1 41 = I 41) (m : ∀ j, 21 ≤ j → j ≤ 25 → J1 99 j = J 99 j) (m100 : J1 100 = J 100) (hl : LK D k z w o r z0 S I1 J1) (he : z + w = k + o) : ∃ I2 J2 p2 t2, f_X7_next shA 40 (I1, L, R) = some (I2, L, R) ∧ f_X10_token shA 99 (J1, L', R') = some (J2, L', R') ∧ OKS n B D (i + 1) k z w o r z0 S p2 t2 I2 J2 ∧ p < p2 ∧ NC I1 I2 ∧ NM J1 J2 := by
  have h1 := tk_congr ht c40 c1 c41 m m100
  have hp := (tk_pa ht).2 h36
  obtain ⟨I2, J2, p2, a2, t2, q1, q2, q3, q4, q5, q6⟩ := e_next hR hR' (tk_tb h1) (tk_an h1) (tk_ca h1) (tk_ma h1)
  exact ⟨I2, J2, p2, t2, q1, q2, ⟨a2, q5, lk_n hD hl q3 q4, he, by omega⟩, by omega, q3, q4⟩

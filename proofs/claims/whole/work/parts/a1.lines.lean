/-! LEVEL 2: text. Lines: what all of them need -/
def hfR (q : Nat) : Nat := if q ≤ 104 then 8 else if q ≤ 109 then 6 else if q ≤ 112 then 12 else if q ≤ 114 then 3 else 64
/-- what reading may change: the draft and the readers; the reference's upper halves and its reader -/
def FRC (D : Nat) (I I' : Nat → Nat → Int32) : Prop := ∀ q, q ≠ 40 → q ≠ 42 → q ≠ 43 → q ≠ 44 → (q < D ∨ D + 18 ≤ q) → I' q = I q
def FRM (J J' : Nat → Nat → Int32) : Prop := (∀ q, q ≠ 99 → (q < 101 ∨ 116 < q) → J' q = J q) ∧ (∀ j, (j < 19 ∨ 31 < j ∨ j = 21 ∨ j = 28 ∨ j = 29) → J' 99 j = J 99 j) ∧ (∀ q j, 101 ≤ q → q ≤ 116 → j < hfR q → J' q j = J q j)
theorem frc_refl {D : Nat} {I : Nat → Nat → Int32} : FRC D I I := fun _ _ _ _ _ _ => rfl
theorem frm_refl {J : Nat → Nat → Int32} : FRM J J := ⟨fun _ _ _ => rfl, fun _ _ => rfl, fun _ _ _ _ _ => rfl⟩
theorem frc_trans {D : Nat} {I I' I'' : Nat → Nat → Int32} (h : FRC D I I') (h' : FRC D I' I'') : FRC D I I'' := fun q q1 q2 q3 q4 q5 => (h' q q1 q2 q3 q4 q5).trans (h q q1 q2 q3 q4 q5)
theorem frm_trans {J J' J'' : Nat → Nat → Int32} (h : FRM J J') (h' : FRM J' J'') : FRM J J'' := ⟨fun q q1 q2 => (h'.1 q q1 q2).trans (h.1 q q1 q2), fun j hj => (h'.2.1 j hj).trans (h.2.1 j hj), fun q j q1 q2 hj => (h'.2.2 q j q1 q2 hj).trans (h.2.2 q j q1 q2 hj)⟩
theorem frc_nc {D : Nat} {I I' : Nat → Nat → Int32} (h : NC I I') : FRC D I I' := fun q q1 _ _ _ _ => h.1 q q1
theorem frm_nm {J J' : Nat → Nat → Int32} (h : NM J J') : FRM J J' := ⟨fun q q1 _ => h.1 q q1, fun j hj => h.2 j (by omega), fun q j q1 q2 _ => by rw [h.1 q (by omega)]⟩
theorem frc_xu {D q k : Nat} {v : Int32} {I : Nat → Nat → Int32} (h : q = 40 ∨ q = 42 ∨ q = 43 ∨ q = 44 ∨ (D ≤ q ∧ q < D + 18)) : FRC D I (xu I q k v) := fun q' q1 q2 q3 q4 q5 => xu_off (by omega)
theorem frm_xu {q k : Nat} {v : Int32} {J : Nat → Nat → Int32} (h1 : 101 ≤ q) (h2 : q ≤ 116) (h3 : hfR q ≤ k) : FRM J (xu J q k v) := by
  refine ⟨fun q' q1 q2 => xu_off (by omega), fun j _ => xu_cell (by omega), fun q' j q1 q2 hj => ?_⟩
  by_cases c : q' = q
  · subst c; exact xu_at2 (by omega)
  · exact xu_cell c
theorem frm_99 {k : Nat} {v : Int32} {J : Nat → Nat → Int32} (h : k = 19 ∨ k = 20 ∨ (22 ≤ k ∧ k ≤ 27) ∨ k = 30 ∨ k = 31) : FRM J (xu J 99 k v) :=
  ⟨fun q q1 _ => xu_off q1, fun j hj => xu_at2 (by omega), fun q j q1 q2 _ => xu_cell (by omega)⟩
theorem frc_rf {D : Nat} {v : Int32} {I I' : Nat → Nat → Int32} (h : FRC D I I') : FRC D I (rfC v I') := frc_trans h (frc_trans (frc_xu (Or.inl rfl)) (frc_xu (Or.inl rfl)))
theorem frm_rf {v : Int32} {J J' : Nat → Nat → Int32} (h : FRM J J') : FRM J (rfM v J') := frm_trans h (frm_trans (frm_99 (by omega)) (frm_99 (by omega)))
theorem frc_lfc {D z : Nat} {I I' : Nat → Nat → Int32} (h : LFC D z I I') : FRC D I I' := fun q q1 _ q3 q4 q5 => h.1 q q1 q3 q4 (by omega) (by omega) (by omega)
theorem frm_lfm {y : Nat} {J J' : Nat → Nat → Int32} (h : LFM y J J') : FRM J J' := by
  refine ⟨fun q q1 q2 => h.1 q q1 (by omega) (by omega) (by omega), fun j hj => h.2.1 j (by omega), fun q j q1 q2 hj => ?_⟩
  by_cases c1 : q = 101
  · subst c1; unfold hfR at hj; exact h.2.2.1 j (by rw [if_pos (by omega)] at hj; omega)
  · by_cases c2 : q = 115 ∨ q = 116
    · have hj : j < 64 := by
        unfold hfR at hj
        rw [if_neg (by omega), if_neg (by omega), if_neg (by omega), if_neg (by omega)] at hj
        exact hj
      rcases c2 with rfl | rfl
      · exact (h.2.2.2 j (by omega)).1
      · exact (h.2.2.2 j (by omega)).2
    · rw [h.1 q (by omega) c1 (by omega) (by omega)]
theorem nc_trans {I I' I'' : Nat → Nat → Int32} (h : NC I I') (h' : NC I' I'') : NC I I'' := ⟨fun q hq => (h'.1 q hq).trans (h.1 q hq), fun j j1 j2 j3 j4 => (h'.2 j j1 j2 j3 j4).trans (h.2 j j1 j2 j3 j4)⟩
theorem lw_congr2 {P h : Nat} {I J I' J' : Nat → Nat → Int32} {k : Nat} (h13 : I' (P + 13) 4 = I (P + 13) 4) (h14 : I' (P + 14) = I (P + 14)) (h15 : I' (P + 15) = I (P + 15)) (h16 : I' (P + 16) = I (P + 16)) (h17 : I' (P + 17) = I (P + 17)) (m113 : J' 113 = J 113) (m114 : J' 114 = J 114) (m115 : J' 115 = J 115) (m116 : J' 116 = J 116) : LW P h I' J' k = LW P h I J k := by
  unfold LW
  rw [h13, h14, h15, h16, h17, m113, m114, m115, m116]
theorem adv0 {P P' : Nat} {L L' : Nat → Nat → Int64} {R R' : Nat → Nat → Option Nat} (hR : ∀ I, RefOK (I, L, R) P) (hR' : ∀ I, RefOK (I, L', R') P') {n : Nat} {B : Nat → Nat} {p a t : Nat} {I J I1 J1 : Nat → Nat → Int32} (ht : TK n B p a t I J) (h36 : t ≠ 36) (c40 : ∀ j, (j < 3 ∨ 7 ≤ j) → I1 40 j = I 40 j) (c1 : I1 1 = I 1) (c41 : I1 41 = I 41) (m : ∀ j, 21 ≤ j → j ≤ 25 → J1 99 j = J 99 j) (m100 : J1 100 = J 100) : ∃ I2 J2 p2 a2 t2, f_X7_next shA 40 (I1, L, R) = some (I2, L, R) ∧ f_X10_token shA 99 (J1, L', R') = some (J2, L', R') ∧ NC I1 I2 ∧ NM J1 J2 ∧ TK n B p2 a2 t2 I2 J2 ∧ p < p2 := by
  have h1 := tk_congr ht c40 c1 c41 m m100
  have hp := (tk_pa ht).2 h36
  obtain ⟨I2, J2, p2, a2, t2, q1, q2, q3, q4, q5, q6⟩ := e_next hR hR' (tk_tb h1) (tk_an h1) (tk_ca h1) (tk_ma h1)
  exact ⟨I2, J2, p2, a2, t2, q1, q2, q3, q4, q5, by omega⟩
theorem numF {L' : Nat → Nat → Int64} {R' : Nat → Nat → Option Nat} {J : Nat → Nat → Int32} (hJ : J 99 26 ≠ 0) (lo hi : Int32) : f_X10_numeral shA 99 lo hi (J, L', R') = some (lo, (J, L', R')) := by
  unfold f_X10_numeral
  simp only [gI_of sA_99, Option.bind_some, if_neg hJ]
theorem e_num {P P' : Nat} {L L' : Nat → Nat → Int64} {R R' : Nat → Nat → Option Nat} (hR : ∀ I, RefOK (I, L, R) P) (hR' : ∀ I, RefOK (I, L', R') P') {n : Nat} {B : Nat → Nat} {p a t : Nat} {I J : Nat → Nat → Int32} (hk : TK n B p a t I J) (f0 : J 99 26 = 0) {lo hi : Nat} (h2 : hi ≤ 99999) (h1 : lo ≤ 99999) : (∃ v : Int32, v ≠ 0 ∧ f_X6_isNumber shA 42 (nI lo) (nI hi) (I, L, R) = some (0, (rfC v I, L, R)) ∧ f_X10_numeral shA 99 (nI lo) (nI hi) (J, L', R') = some (nI lo, (rfM v J, L', R'))) ∨ (∃ x, lo ≤ x ∧ x ≤ hi ∧ t = 22 ∧ I 40 2 = nI x ∧ J 99 25 = nI x ∧ f_X6_isNumber shA 42 (nI lo) (nI hi) (I, L, R) = some (1, (I, L, R)) ∧ f_X10_numeral shA 99 (nI lo) (nI hi) (J, L', R') = (f_X10_token shA 99 (J, L', R')).bind fun d3 => some (nI x, d3)) := by
  have tt := tk_tt hk; have t37 := tk_t37 hk
  have e22 : nI t = (22 : Int32) ↔ t = 22 := nI_eq (b := 22) (by omega) (by omega)
  have r1 : ∀ v : Int32, v ≠ 0 → rfM v J 99 26 ≠ 0 := fun v hv => by rw [rfM_26]; exact hv
  have k46 : ∀ v : Int32, v ≠ 0 → k_X10_numeral_46 shA 99 (nI lo) (rfM v J, L', R') = some (nI lo, (rfM v J, L', R')) := fun v hv => by
    unfold k_X10_numeral_46
    simp only [gI_of sA_99, Option.bind_some, if_neg (r1 v hv)]
  have hC : f_X6_isNumber shA 42 (nI lo) (nI hi) (I, L, R) = if t = 22 then (if I 40 2 < nI lo then some (0, (rfC 2 I, L, R)) else if I 40 2 ≤ nI hi then some (1, (I, L, R)) else some (0, (rfC 2 I, L, R))) else some (0, (rfC 1 I, L, R)) := by
    unfold f_X6_isNumber k_X6_isNumber_43 k_X6_isNumber_54 k_X6_isNumber_59
    simp only [gR_of sA_42 (rf_42_0 (hR _)), Option.bind_some, gI_of sA_40, tk_ct hk, e22, on_of sA_40, c_refuse, ↓reduceIte, xz_0, xz_1]
  have hM : f_X10_numeral shA 99 (nI lo) (nI hi) (J, L', R') = if t = 22 then (if J 99 25 < nI lo then some (nI lo, (rfM 2 J, L', R')) else if J 99 25 ≤ nI hi then k_X10_numeral_46 shA 99 (nI lo) (J, L', R') else some (nI lo, (rfM 2 J, L', R'))) else some (nI lo, (rfM 1 J, L', R')) := by
    unfold f_X10_numeral k_X10_numeral_41
    simp only [gI_of sA_99, Option.bind_some, t_num tt, on_of sA_99, m_wrong _ f0, k46 2 (by decide), k46 1 (by decide)]
    rw [if_pos f0]
  rw [hC, hM]
  by_cases c : t = 22
  · rw [if_pos c, if_pos c]
    obtain ⟨x, y, hv, v1, v2⟩ : ∃ x y, NV x y ∧ I 40 2 = nI x ∧ J 99 25 = nI y := by
      unfold TT at tt
      rcases tt with q | q | ⟨_, _, q⟩ | q | q | q
      · omega
      · omega
      · exact q
      · omega
      · omega
      · omega
    have hx : x ≤ 100000 := by unfold NV at hv; omega
    have hy : y ≤ 1000000 := by unfold NV at hv; omega
    rw [v1, v2]
    by_cases c1 : x < lo
    · have c2 : y < lo := by unfold NV at hv; omega
      left
      rw [if_pos (nI_lt c1 (by omega)), if_pos (nI_lt c2 (by omega))]
      exact ⟨2, by decide, rfl, rfl⟩
    · have c2 : ¬ y < lo := by unfold NV at hv; omega
      rw [if_neg (nI_nlt (by omega) (by omega)), if_neg (nI_nlt (by omega) (by omega))]
      by_cases c3 : x ≤ hi
      · have c4 : x = y := by unfold NV at hv; omega
        subst c4
        right
        rw [if_pos (nI_le c3 (by omega)), if_pos (nI_le c3 (by omega))]
        refine ⟨x, by omega, c3, c, rfl, rfl, rfl, ?_⟩
        unfold k_X10_numeral_46
        simp only [gI_of sA_99, Option.bind_some, on_of sA_99, v2]
        rw [if_pos f0]
      · have c4 : ¬ y ≤ hi := by unfold NV at hv; omega
        left
        rw [if_neg (nI_ge (by omega) (by omega)), if_neg (nI_ge (by omega) (by omega))]
        exact ⟨2, by decide, rfl, rfl⟩
  · rw [if_neg c, if_neg c]
    exact Or.inl ⟨1, by decide, rfl, rfl⟩
theorem t_name {t : Nat} {cv so va : Int32} (h : TT t cv so va) : so = 1 ↔ t = 21 := by
  unfold TT at h
  constructor
  · intro e1
    rcases h with ⟨z1, z2, z3⟩ | ⟨z1, z2, z3⟩ | ⟨z1, z2, z3⟩ | ⟨z1, z2, z3, z4⟩ | ⟨z1, z2⟩ | ⟨z1, z2⟩
    · rw [e1] at z2; exact absurd z2 (by decide)
    · exact z1
    · rw [e1] at z2; exact absurd z2 (by decide)
    · rw [e1] at z3; exact absurd z3 (by decide)
    · rw [e1] at z2; exact absurd z2 (by decide)
    · rw [e1] at z2; exact absurd z2 (by decide)
  · rintro rfl
    rcases h with ⟨z1, z2, z3⟩ | ⟨z1, z2, z3⟩ | ⟨z1, z2, z3⟩ | ⟨z1, z2, z3, z4⟩ | ⟨z1, z2⟩ | ⟨z1, z2⟩
    · omega
    · exact z2
    all_goals omega
theorem t_nameV {cv so va : Int32} (h : TT 21 cv so va) : va = cv := by
  unfold TT at h
  rcases h with ⟨z1, z2, z3⟩ | ⟨z1, z2, z3⟩ | ⟨z1, z2, z3⟩ | ⟨z1, z2, z3, z4⟩ | ⟨z1, z2⟩ | ⟨z1, z2⟩
  · omega
  · exact z3
  all_goals omega
theorem freshF {L' : Nat → Nat → Int64} {R' : Nat → Nat → Option Nat} {J : Nat → Nat → Int32} (hJ : J 99 26 ≠ 0) (q : Nat) (o c : Int32) : f_X10_fresh shA 99 q o c (J, L', R') = some (0, (J, L', R')) := by
  unfold f_X10_fresh
  simp only [gI_of sA_99, Option.bind_some, if_neg hJ]
theorem e_fresh {P P' : Nat} {L L' : Nat → Nat → Int64} {R R' : Nat → Nat → Option Nat} (hR : ∀ I, RefOK (I, L, R) P) (hR' : ∀ I, RefOK (I, L', R') P') {n : Nat} {B : Nat → Nat} {p a t : Nat} {I J : Nat → Nat → Int32} (hk : TK n B p a t I J) (f0 : J 99 26 = 0) {q : Nat} {o c fd fd' : Int32} (hf : f_X10_found shA q o c (J 99 25) (J, L', R') = some (fd', (J, L', R'))) (he : t = 21 → fd' = fd) : (∃ v : Int32, v ≠ 0 ∧ f_X6_isNewName shA 42 fd (I, L, R) = some (0, (rfC v I, L, R)) ∧ f_X10_fresh shA 99 q o c (J, L', R') = some (0, (rfM v J, L', R'))) ∨ (t = 21 ∧ fd = -1 ∧ f_X6_isNewName shA 42 fd (I, L, R) = some (1, (I, L, R)) ∧ f_X10_fresh shA 99 q o c (J, L', R') = (f_X10_token shA 99 (J, L', R')).bind fun d3 => some (J 99 25, d3)) := by
  have tt := tk_tt hk; have t37 := tk_t37 hk
  have e21 : nI t = (21 : Int32) ↔ t = 21 := nI_eq (b := 21) (by omega) (by omega)
  have k44 : ∀ v : Int32, v ≠ 0 → k_X10_fresh_44 shA 99 (rfM v J, L', R') = some (0, (rfM v J, L', R')) := fun v hv => by
    unfold k_X10_fresh_44
    simp only [gI_of sA_99, Option.bind_some, rfM_26, if_neg hv]
  have hC : f_X6_isNewName shA 42 fd (I, L, R) = if t = 21 then (if fd = -1 then some (1, (I, L, R)) else some (0, (rfC 3 I, L, R))) else some (0, (rfC 1 I, L, R)) := by
    unfold f_X6_isNewName k_X6_isNewName_37 k_X6_isNewName_42
    simp only [gR_of sA_42 (rf_42_0 (hR _)), Option.bind_some, gI_of sA_40, tk_ct hk, e21, on_of sA_40, c_refuse, ↓reduceIte, xz_0, xz_1]
  have hM : f_X10_fresh shA 99 q o c (J, L', R') = if t = 21 then (if fd' = -1 then k_X10_fresh_44 shA 99 (J, L', R') else some (0, (rfM 3 J, L', R'))) else some (0, (rfM 1 J, L', R')) := by
    unfold f_X10_fresh
    simp only [gI_of sA_99, Option.bind_some, t_name tt, on_of sA_99, m_wrong _ f0, hf, k44 3 (by decide), k44 1 (by decide)]
    rw [if_pos f0]
  rw [hC, hM]
  by_cases c : t = 21
  · rw [if_pos c, if_pos c, he c]
    by_cases c2 : fd = -1
    · right
      rw [if_pos c2, if_pos c2]
      refine ⟨c, c2, rfl, ?_⟩
      unfold k_X10_fresh_44
      simp only [gI_of sA_99, Option.bind_some, on_of sA_99]
      rw [if_pos f0]
    · left
      rw [if_neg c2, if_neg c2]
      exact ⟨3, by decide, rfl, rfl⟩
  · rw [if_neg c, if_neg c]
    exact Or.inl ⟨1, by decide, rfl, rfl⟩
theorem toldF {L' : Nat → Nat → Int64} {R' : Nat → Nat → Option Nat} {J : Nat → Nat → Int32} (hJ : J 99 26 ≠ 0) (q : Nat) (o c : Int32) : f_X10_toldAhead shA 99 q o c (J, L', R') = some (0, (J, L', R')) := by
  unfold f_X10_toldAhead
  simp only [gI_of sA_99, Option.bind_some, if_neg hJ]
theorem e_toldA {P P' : Nat} {L L' : Nat → Nat → Int64} {R R' : Nat → Nat → Option Nat} (hR : ∀ I, RefOK (I, L, R) P) (hR' : ∀ I, RefOK (I, L', R') P') {n : Nat} {B : Nat → Nat} {p a t : Nat} {I J : Nat → Nat → Int32} (hk : TK n B p a t I J) (f0 : J 99 26 = 0) {q : Nat} {o c fd fd' : Int32} (hf : f_X10_found shA q o c (J 99 25) (J, L', R') = some (fd', (J, L', R'))) (he : t = 21 → fd' = fd) : (∃ v : Int32, v ≠ 0 ∧ f_X6_isToldName shA 42 fd (I, L, R) = some (0, (rfC v I, L, R)) ∧ f_X10_toldAhead shA 99 q o c (J, L', R') = some (0, (rfM v J, L', R'))) ∨ (t = 21 ∧ ¬ fd = -1 ∧ f_X6_isToldName shA 42 fd (I, L, R) = some (1, (I, L, R)) ∧ ∀ J2 : Nat → Nat → Int32, f_X10_token shA 99 (J, L', R') = some (J2, L', R') → J2 99 26 = 0 → f_X10_toldAhead shA 99 q o c (J, L', R') = some (fd, (J2, L', R'))) := by
  have tt := tk_tt hk; have t37 := tk_t37 hk
  have e21 : nI t = (21 : Int32) ↔ t = 21 := nI_eq (b := 21) (by omega) (by omega)
  have rn : ∀ v : Int32, v ≠ 0 → rfM v J 99 26 ≠ 0 := fun v hv => by rw [rfM_26]; exact hv
  have k63 : ∀ (v x : Int32), v ≠ 0 → k_X10_toldAhead_63 shA 99 x (rfM v J, L', R') = some (0, (rfM v J, L', R')) := fun v x hv => by
    unfold k_X10_toldAhead_63 k_X10_toldAhead_80
    simp only [on_of sA_99, m_goOnF (d := (rfM v J, L', R')) (rn v hv), Option.bind_some, gI_of sA_99, rfM_26, if_neg hv]
  have k22 : ∀ v : Int32, v ≠ 0 → k_X10_toldAhead_22 shA 99 q o c (rfM v J, L', R') = some (0, (rfM v J, L', R')) := fun v hv => by
    unfold k_X10_toldAhead_22 k_X10_toldAhead_43
    simp only [gI_of sA_99, Option.bind_some, rfM_26, if_neg hv, k63 v _ hv]
  have hC : f_X6_isToldName shA 42 fd (I, L, R) = if t = 21 then (if fd = -1 then some (0, (rfC 4 I, L, R)) else some (1, (I, L, R))) else some (0, (rfC 1 I, L, R)) := by
    unfold f_X6_isToldName k_X6_isToldName_37 k_X6_isToldName_42
    simp only [gR_of sA_42 (rf_42_0 (hR _)), Option.bind_some, gI_of sA_40, tk_ct hk, e21, on_of sA_40, c_refuse, ↓reduceIte, xz_0, xz_1]
  have hM : f_X10_toldAhead shA 99 q o c (J, L', R') = if t = 21 then (if fd' = -1 then some (0, (rfM 4 J, L', R')) else k_X10_toldAhead_63 shA 99 fd' (J, L', R')) else some (0, (rfM 1 J, L', R')) := by
    unfold f_X10_toldAhead
    simp only [gI_of sA_99, Option.bind_some, t_name tt, on_of sA_99, m_wrong _ f0, k22 1 (by decide)]
    rw [if_pos f0]
    unfold k_X10_toldAhead_22 k_X10_toldAhead_43
    simp only [gI_of sA_99, Option.bind_some, hf, on_of sA_99, m_wrong _ f0, k63 4 _ (by decide)]
    rw [if_pos f0, if_pos f0]
  rw [hC, hM]
  by_cases c' : t = 21
  · rw [if_pos c', if_pos c', he c']
    by_cases c2 : fd = -1
    · left
      rw [if_pos c2, if_pos c2]
      exact ⟨4, by decide, rfl, rfl⟩
    · right
      rw [if_neg c2, if_neg c2]
      refine ⟨c', c2, rfl, fun J2 h1 h2 => ?_⟩
      unfold k_X10_toldAhead_63 k_X10_toldAhead_80
      rw [on_of sA_99, m_goOn (d := (J, L', R')) f0, h1, Option.bind_some, gI_of sA_99, Option.bind_some]
      dsimp only
      rw [if_pos h2]
  · rw [if_neg c', if_neg c']
    exact Or.inl ⟨1, by decide, rfl, rfl⟩

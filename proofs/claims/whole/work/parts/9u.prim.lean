/-! LEVEL 2: text. The reader of laws: what both sides do by the way -/
def rk (t : Nat) : Nat := if t = 11 then 1 else if t = 12 then 2 else if t = 13 then 3 else if t < 26 then 0 else if t < 28 then 5 else if t < 30 then 6 else if t < 36 then 4 else 0
def cd (t : Nat) : Nat := if t = 11 then 262 else if t = 12 then 261 else if t = 13 then 260 else sgc t
theorem rk_dec : ∀ t : Fin 38, (f_X0_rankOf shA (nI t.val) xZD).map Prod.fst = some (nI (rk t.val)) := by decide +kernel
theorem rk_d (x : Int32) (d : xD) : f_X0_rankOf shA x d = (f_X0_rankOf shA x xZD).map (fun z => (z.1, d)) := by
  unfold f_X0_rankOf k_X0_rankOf_38 k_X0_rankOf_50 k_X0_rankOf_64 k_X0_rankOf_70
  repeat' split
  all_goals rfl
theorem e_rank {t : Nat} (ht : t ≤ 37) (d : xD) : f_X0_rankOf shA (nI t) d = some (nI (rk t), d) := by
  have k1 := rk_dec ⟨t, by omega⟩
  dsimp only at k1
  rw [rk_d]
  cases q : f_X0_rankOf shA (nI t) xZD with
  | none => rw [q] at k1; cases k1
  | some z => rw [q] at k1; simp only [Option.map_some, Option.some.injEq] at k1 ⊢; rw [k1]
theorem cd_dec : ∀ t : Fin 38, 1 ≤ rk t.val → trK 2 (nI (cd t.val)) = nI t.val ∧ isSg (nI (cd t.val)) := by
  intro t
  unfold isSg
  revert t
  decide +kernel
theorem rk_6 (t : Nat) : rk t ≤ 6 := by
  unfold rk
  repeat' split
  all_goals omega
theorem pK_1 {D : Nat} (hD : isPl D) {d : xD} {v : Int32} : xpI 1 shA d (D + 13) 1 v = some (xu d.1 (D + 13) 1 v, d.2.1, d.2.2) := pI_of (sp_13 hD) rfl
theorem pK_0 {D : Nat} (hD : isPl D) {d : xD} {v : Int32} : xpI 1 shA d (D + 13) 0 v = some (xu d.1 (D + 13) 0 v, d.2.1, d.2.2) := pI_of (sp_13 hD) rfl
theorem pL_2 {d : xD} {v : Int32} : xpI 0 shA d 43 2 v = some (xu d.1 43 2 v, d.2.1, d.2.2) := pI_of sA_43 rfl
theorem pL_3 {d : xD} {v : Int32} : xpI 0 shA d 43 3 v = some (xu d.1 43 3 v, d.2.1, d.2.2) := pI_of sA_43 rfl
theorem pL_4 {d : xD} {v : Int32} (hv : v = 0 ∨ v = 1) : xpI 0 shA d 43 4 v = some (xu d.1 43 4 v, d.2.1, d.2.2) := by rcases hv with rfl | rfl <;> exact pI_of sA_43 rfl
theorem pL_5 {d : xD} {v : Int32} (hv : v = 0 ∨ v = 1) : xpI 0 shA d 43 5 v = some (xu d.1 43 5 v, d.2.1, d.2.2) := by rcases hv with rfl | rfl <;> exact pI_of sA_43 rfl
def rfC (w : Int32) (I : Nat → Nat → Int32) : Nat → Nat → Int32 := xu (xu I 40 3 w) 40 4 (I 40 1)
def rfM (w : Int32) (J : Nat → Nat → Int32) : Nat → Nat → Int32 := xu (xu J 99 26 w) 99 27 (J 99 23)
theorem c_refuse {L : Nat → Nat → Int64} {R : Nat → Nat → Option Nat} (w : Int32) (I : Nat → Nat → Int32) : f_X7_refuse shA 40 w (I, L, R) = some (0, (rfC w I, L, R)) := by
  unfold f_X7_refuse rfC
  simp only [gI_of sA_40, Option.bind_some, pT_40 (show 3 = 0 ∨ 3 = 1 ∨ 3 = 2 ∨ 3 = 3 ∨ 3 = 4 ∨ 3 = 7 ∨ 3 = 8 by omega), pT_40 (show 4 = 0 ∨ 4 = 1 ∨ 4 = 2 ∨ 4 = 3 ∨ 4 = 4 ∨ 4 = 7 ∨ 4 = 8 by omega)]
  rw [xu_at2 (by omega)]
theorem m_wrong {L' : Nat → Nat → Int64} {R' : Nat → Nat → Option Nat} {J : Nat → Nat → Int32} (w : Int32) (h : J 99 26 = 0) : f_X10_wrong shA 99 w (J, L', R') = some (rfM w J, L', R') := by
  unfold f_X10_wrong rfM
  simp only [gI_of sA_99, Option.bind_some, pM_26, pM_27, h, ↓reduceIte]
  rw [xu_at2 (by omega)]
def FT (I J : Nat → Nat → Int32) : Prop := I 40 3 = J 99 26 ∧ I 40 4 = J 99 27 ∧ J 99 26 ≠ 0
theorem ft_of {I J : Nat → Nat → Int32} {p : Nat} {w : Int32} (hw : w ≠ 0) (e1 : I 40 1 = nI p) (e2 : J 99 23 = nI p) : FT (rfC w I) (rfM w J) := by
  unfold FT rfC rfM
  refine ⟨?_, ?_, ?_⟩
  · rw [xu_at2 (by omega), xu_at, xu_at2 (by omega), xu_at]
  · rw [xu_at, xu_at, e1, e2]
  · rw [xu_at2 (by omega), xu_at]; exact hw
theorem c_knot {P : Nat} {L : Nat → Nat → Int64} {R : Nat → Nat → Option Nat} (hR : ∀ I, RefOK (I, L, R) P) {D : Nat} (hD : isPl D) {I : Nat → Nat → Int32} {k : Nat} (e : I (D + 13) 0 = nI k) (hk : k ≤ 64) : f_X0_countKnot shA 43 (D + 13) (I, L, R) = if k < 64 then some (1, (xu I (D + 13) 0 (nI (k + 1)), L, R)) else some (0, (rfC 2 I, L, R)) := by
  unfold f_X0_countKnot
  simp only [gI_of (sp_13 hD), Option.bind_some, e, nI_1, pK_0 hD, gR_of sA_43 (rf_43_0 (hR _)), on_of sA_40, c_refuse]
  by_cases c : k < 64
  · rw [if_pos c, if_pos (show nI k < (64 : Int32) from nI_lt (b := 64) c (by omega))]
  · rw [if_neg c, if_neg (show ¬ nI k < (64 : Int32) from nI_nlt (b := 64) (by omega) (by omega))]; rfl
theorem c_hold {P : Nat} {L : Nat → Nat → Int64} {R : Nat → Nat → Option Nat} (hR : ∀ I, RefOK (I, L, R) P) {I : Nat → Nat → Int32} {w : Nat} (e : I 43 2 = nI w) (hw : w < 72) (x : Int32) : f_X0_hold shA 43 x (I, L, R) = some (1, (xu (xu I 44 w x) 43 2 (nI (w + 1)), L, R)) := by
  unfold f_X0_hold
  simp only [gI_of sA_43, Option.bind_some, e, gR_of sA_43 (rf_43_1 (hR _)), len_of sA_44]
  rw [if_pos (nI_lt hw (by omega)), sI_of sA_44 hw (by omega), Option.bind_some]
  dsimp only
  rw [xu_cell (by omega), e, nI_1, pL_2, Option.bind_some]
theorem c_add {P : Nat} {L : Nat → Nat → Int64} {R : Nat → Nat → Option Nat} (hR : ∀ I, RefOK (I, L, R) P) {D : Nat} (hD : isPl D) {I : Nat → Nat → Int32} {z : Nat} (e : I (D + 13) 1 = nI z) (hz : z < 64) (x v : Int32) : f_X1_add shA (D + 13) x v (I, L, R) = some (xu (xu (xu I (D + 14) z x) (D + 15) z v) (D + 13) 1 (nI (z + 1)), L, R) := by
  unfold f_X1_add k_X1_add_39
  simp only [gI_of (sp_13 hD), Option.bind_some, e, gR_of (sp_13 hD) (rl_2 (hR _) hD), gR_of (sp_13 hD) (rl_3 (hR _) hD)]
  rw [if_neg (show ¬ (64 : Int32) ≤ nI z from nI_ge (b := 64) hz (by omega)), sI_of (sp_14 hD) hz (by omega), Option.bind_some]
  dsimp only
  rw [gR_of (sp_13 hD) (rl_3 (hR _) hD), Option.bind_some, xu_cell (by omega), e, sI_of (sp_15 hD) hz (by omega), Option.bind_some]
  dsimp only
  rw [xu_cell (by omega), xu_cell (by omega), e, nI_1, pK_1 hD, Option.bind_some]
theorem c_rel {P : Nat} {L : Nat → Nat → Int64} {R : Nat → Nat → Option Nat} (hR : ∀ I, RefOK (I, L, R) P) {D : Nat} (hD : isPl D) {lo : Nat} (hlo : lo ≤ 7) {S : Nat → Nat} : ∀ r (I : Nat → Nat → Int32) z w F, I 43 2 = nI w → w ≤ 72 → (∀ i, i < w → I 44 i = nI (S i) ∧ S i ≤ 37) → I (D + 13) 1 = nI z → r ≤ w → z + r ≤ 64 → (∀ j, j < r → lo ≤ rk (S (w - 1 - j))) → (r < w → rk (S (w - r - 1)) < lo) → r < F → ∃ I', xloop (fun _ _ _ _ => none) (b_X0_release_0 shA) F 43 (D + 13) (nI lo) (I, L, R) = some (I', L, R) ∧ I' 43 2 = nI (w - r) ∧ I' (D + 13) 1 = nI (z + r) ∧ (∀ j, j < r → I' (D + 14) (z + j) = nI (S (w - 1 - j)) ∧ I' (D + 15) (z + j) = 0) ∧ (∀ i, i < z → I' (D + 14) i = I (D + 14) i ∧ I' (D + 15) i = I (D + 15) i) ∧ (∀ q, q ≠ 43 → q ≠ D + 13 → q ≠ D + 14 → q ≠ D + 15 → I' q = I q) ∧ (∀ j, j ≠ 2 → I' 43 j = I 43 j) ∧ (∀ j, j ≠ 1 → I' (D + 13) j = I (D + 13) j) := by
  have hpr := isPl_le hD
  intro r
  induction r with
  | zero =>
    intro I z w F e1 hw hs e2 h1 h2 h3 h4 h5
    obtain ⟨F, rfl⟩ : ∃ G, F = G + 1 := ⟨F - 1, by omega⟩
    refine ⟨I, ?_, e1, e2, fun j hj => by omega, fun _ _ => ⟨rfl, rfl⟩, fun _ _ _ _ _ => rfl, fun _ _ => rfl, fun _ _ => rfl⟩
    rw [loop_s]
    generalize xloop (fun _ _ _ _ => none) (b_X0_release_0 shA) F = rc
    rw [b_X0_release_0]
    simp only [gI_of sA_43, Option.bind_some, e1, gR_of sA_43 (rf_43_1 (hR _)), k_X0_release_52]
    rcases Nat.eq_zero_or_pos w with z | z
    · subst z
      rw [if_pos (show nI 0 ≤ 0 by decide)]
    · obtain ⟨v, rfl⟩ : ∃ v, w = v + 1 := ⟨w - 1, by omega⟩
      have hv := h4 (by omega)
      rw [show v + 1 - 0 - 1 = v by omega] at hv
      have hb := rk_6 (S v)
      rw [if_neg (nI_nle z (by omega)), nI_pred, aI_of sA_44 (by omega) (by omega), Option.bind_some]
      dsimp only
      rw [(hs v (by omega)).1, e_rank (hs v (by omega)).2, Option.bind_some]
      dsimp only
      rw [if_pos (nI_lt hv (by omega))]
  | succ r ih =>
    intro I z w F e1 hw hs e2 h1 h2 h3 h4 h5
    obtain ⟨F, rfl⟩ : ∃ G, F = G + 1 := ⟨F - 1, by omega⟩
    obtain ⟨v, rfl⟩ : ∃ v, w = v + 1 := ⟨w - 1, by omega⟩
    have hv := h3 0 (by omega)
    rw [show v + 1 - 1 - 0 = v by omega] at hv
    have hb := rk_6 (S v)
    generalize hI : xu (xu (xu (xu I 43 2 (nI v)) (D + 14) z (nI (S v))) (D + 15) z 0) (D + 13) 1 (nI (z + 1)) = I2
    have o1 : ∀ q, q ≠ 43 → q ≠ D + 13 → q ≠ D + 14 → q ≠ D + 15 → I2 q = I q := fun q q1 q2 q3 q4 => by rw [← hI, xu_off q2, xu_off q4, xu_off q3, xu_off q1]
    have o2 : ∀ j, j ≠ 2 → I2 43 j = I 43 j := fun j hj => by rw [← hI, xu_cell (by omega), xu_cell (by omega), xu_cell (by omega), xu_at2 hj]
    have o3 : I2 43 2 = nI v := by rw [← hI, xu_cell (by omega), xu_cell (by omega), xu_cell (by omega), xu_at]
    have o4 : ∀ j, j ≠ 1 → I2 (D + 13) j = I (D + 13) j := fun j hj => by rw [← hI, xu_at2 hj, xu_cell (by omega), xu_cell (by omega), xu_cell (by omega)]
    have o5 : I2 (D + 13) 1 = nI (z + 1) := by rw [← hI, xu_at]
    have o6 : ∀ i, i ≠ z → I2 (D + 14) i = I (D + 14) i := fun i hi => by rw [← hI, xu_cell (by omega), xu_cell (by omega), xu_at2 hi, xu_cell (by omega)]
    have o7 : I2 (D + 14) z = nI (S v) := by rw [← hI, xu_cell (by omega), xu_cell (by omega), xu_at]
    have o8 : ∀ i, i ≠ z → I2 (D + 15) i = I (D + 15) i := fun i hi => by rw [← hI, xu_cell (by omega), xu_at2 hi, xu_cell (by omega), xu_cell (by omega)]
    have o9 : I2 (D + 15) z = 0 := by rw [← hI, xu_cell (by omega), xu_at]
    obtain ⟨I', p1, p2, p3, p4, p5, p6, p7, p8⟩ := ih I2 (z + 1) v F o3 (by omega) (fun i hi => by rw [o1 44 (by omega) (by omega) (by omega) (by omega)]; exact hs i (by omega)) o5 (by omega) (by omega) (fun j hj => by have := h3 (j + 1) (by omega); rw [show v + 1 - 1 - (j + 1) = v - 1 - j by omega] at this; exact this) (fun hh => by have := h4 (by omega); rw [show v + 1 - (r + 1) - 1 = v - r - 1 by omega] at this; exact this) (by omega)
    refine ⟨I', ?_, ?_, ?_, fun j hj => ?_, fun i hi => ?_, fun q q1 q2 q3 q4 => ?_, fun j hj => ?_, fun j hj => ?_⟩
    · rw [← p1, loop_s]
      generalize xloop (fun _ _ _ _ => none) (b_X0_release_0 shA) F = rc
      rw [b_X0_release_0]
      simp only [gI_of sA_43, Option.bind_some, e1, gR_of sA_43 (rf_43_1 (hR _))]
      rw [if_neg (nI_nle (by omega) (by omega)), nI_pred, aI_of sA_44 (by omega) (by omega), Option.bind_some]
      dsimp only
      rw [(hs v (by omega)).1, e_rank (hs v (by omega)).2, Option.bind_some]
      dsimp only
      rw [if_neg (nI_nlt hv (by omega)), pL_2, Option.bind_some, e1, nI_pred]
      dsimp only
      rw [gR_of sA_43 (rf_43_1 (hR _)), Option.bind_some, xu_at, aI_of sA_44 (by omega) (by omega), Option.bind_some]
      dsimp only
      rw [xu_cell (by omega), (hs v (by omega)).1, on_of (sp_13 hD), c_add hR hD (z := z) (by rw [xu_cell (by omega)]; exact e2) (by omega), Option.bind_some, hI]
    · rw [p2]; congr 1; omega
    · rw [p3]; congr 1; omega
    · rcases Nat.eq_zero_or_pos j with c | c
      · subst c
        show I' (D + 14) z = nI (S v) ∧ I' (D + 15) z = 0
        rw [(p5 z (by omega)).1, (p5 z (by omega)).2, o7, o9]
        exact ⟨rfl, rfl⟩
      · have := p4 (j - 1) (by omega)
        rw [show z + 1 + (j - 1) = z + j by omega, show v - 1 - (j - 1) = v + 1 - 1 - j by omega] at this
        exact this
    · rw [(p5 i (by omega)).1, (p5 i (by omega)).2, o6 i (by omega), o8 i (by omega)]; exact ⟨rfl, rfl⟩
    · rw [p6 q q1 q2 q3 q4, o1 q q1 q2 q3 q4]
    · rw [p7 j hj, o2 j hj]
    · rw [p8 j hj, o4 j hj]
theorem m_knot {L' : Nat → Nat → Int64} {R' : Nat → Nat → Option Nat} {J : Nat → Nat → Int32} {k : Nat} (h0 : J 99 26 = 0) (e : J 99 31 = nI k) (hk : k ≤ 64) : f_X10_knot shA 99 (J, L', R') = if k < 64 then some (xu J 99 31 (nI (k + 1)), L', R') else some (rfM 2 J, L', R') := by
  have z : nI k = (64 : Int32) ↔ k = 64 := nI_eq (b := 64) (by omega) (by omega)
  unfold f_X10_knot k_X10_knot_35
  simp only [gI_of sA_99, Option.bind_some, h0, e, ↓reduceIte, on_of sA_99, m_wrong _ h0, nI_1, pM_31, z]
  by_cases c : k < 64
  · rw [if_pos c, if_neg (by omega)]
  · rw [if_neg c, if_pos (by omega)]
theorem m_knotF {L' : Nat → Nat → Int64} {R' : Nat → Nat → Option Nat} {J : Nat → Nat → Int32} (h0 : J 99 26 ≠ 0) : f_X10_knot shA 99 (J, L', R') = some (J, L', R') := by
  unfold f_X10_knot
  simp only [gI_of sA_99, Option.bind_some, if_neg h0]
theorem m_goOn {d : xD} (h0 : d.1 99 26 = 0) : f_X10_goOn shA 99 d = f_X10_token shA 99 d := by
  unfold f_X10_goOn k_X10_goOn_11
  simp only [gI_of sA_99, Option.bind_some, if_pos h0, on_of sA_99]
  cases f_X10_token shA 99 d <;> rfl
theorem m_goOnF {d : xD} (h0 : d.1 99 26 ≠ 0) : f_X10_goOn shA 99 d = some d := by
  unfold f_X10_goOn k_X10_goOn_11
  simp only [gI_of sA_99, Option.bind_some, if_neg h0]
theorem aN_15 {d : xD} : xaI .int shA d 101 ((8 : Int32) + 7) = some (d.1 101 15) := aI_of (i := 15) sA_101 (by decide) (by decide)
theorem sN_15 {d : xD} {v : Int32} : xsI .int shA d 101 ((8 : Int32) + 7) v = some (xu d.1 101 15 v, d.2.1, d.2.2) := sI_of (i := 15) sA_101 (by decide) (by decide)
theorem m_puts {P : Nat} {L' : Nat → Nat → Int64} {R' : Nat → Nat → Option Nat} (hR' : ∀ I, RefOK (I, L', R') P) {J : Nat → Nat → Int32} {y : Nat} (h0 : J 99 26 = 0) (e : J 101 15 = nI y) (hy : y < 64) (s v : Int32) : f_X10_puts shA 99 s v (J, L', R') = some (xu (xu (xu J 115 (64 + y) s) 116 (64 + y) v) 101 15 (nI (y + 1)), L', R') := by
  have a64 : (64 : Int32) + nI y = nI (64 + y) := nI_add 64 y
  unfold f_X10_puts f_X10_fresher f_X10_reads
  simp only [gI_of sA_99, Option.bind_some, h0, ↓reduceIte, on_of sA_99, gR_of sA_99 (rf_99_17 (hR' _)), gR_of sA_99 (rf_99_18 (hR' _)), gR_of sA_99 (rf_99_3 (hR' _)), aN_15, e, a64, sI_of sA_115 (show 64 + y < 128 by omega) (show 128 < 2 ^ 31 by omega), xu_cell (show 101 ≠ 115 by omega), sI_of sA_116 (show 64 + y < 128 by omega) (show 128 < 2 ^ 31 by omega), xu_cell (show 101 ≠ 116 by omega), nI_1, sN_15]
theorem m_putsF {L' : Nat → Nat → Int64} {R' : Nat → Nat → Option Nat} {J : Nat → Nat → Int32} (h0 : J 99 26 ≠ 0) (s v : Int32) : f_X10_puts shA 99 s v (J, L', R') = some (J, L', R') := by
  unfold f_X10_puts
  simp only [gI_of sA_99, Option.bind_some, if_neg h0]
theorem m_isWord {L' : Nat → Nat → Int64} {R' : Nat → Nat → Option Nat} {J : Nat → Nat → Int32} (w : Int32) : f_X10_isWord shA 99 w (J, L', R') = some (if J 99 26 = 0 ∧ J 99 24 = 0 ∧ J 99 25 = w then 1 else 0, (J, L', R')) := by
  unfold f_X10_isWord k_X10_isWord_26 k_X10_isWord_27
  simp only [gI_of sA_99, Option.bind_some]
  by_cases c1 : J 99 26 = 0
  · by_cases c2 : J 99 24 = 0
    · by_cases c3 : J 99 25 = w
      · rw [if_pos c1, if_pos c2, if_pos c3, if_pos ⟨c1, c2, c3⟩]; rfl
      · rw [if_pos c1, if_pos c2, if_neg c3, if_neg (fun z => c3 z.2.2)]; rfl
    · rw [if_pos c1, if_neg c2, if_neg (fun z => c2 z.2.1)]; rfl
  · rw [if_neg c1, if_neg (fun z => c1 z.1)]; rfl
theorem m_isSign {L' : Nat → Nat → Int64} {R' : Nat → Nat → Option Nat} {J : Nat → Nat → Int32} (w : Int32) : f_X10_isSign shA 99 w (J, L', R') = some (if J 99 26 = 0 ∧ J 99 24 = 3 ∧ J 99 25 = w then 1 else 0, (J, L', R')) := by
  unfold f_X10_isSign k_X10_isSign_27 k_X10_isSign_28
  simp only [gI_of sA_99, Option.bind_some]
  by_cases c1 : J 99 26 = 0
  · by_cases c2 : J 99 24 = 3
    · by_cases c3 : J 99 25 = w
      · rw [if_pos c1, if_pos c2, if_pos c3, if_pos ⟨c1, c2, c3⟩]; rfl
      · rw [if_pos c1, if_pos c2, if_neg c3, if_neg (fun z => c3 z.2.2)]; rfl
    · rw [if_pos c1, if_neg c2, if_neg (fun z => c2 z.2.1)]; rfl
  · rw [if_neg c1, if_neg (fun z => c1 z.1)]; rfl
/-- is it this word, this sign -/
theorem t_word {t : Nat} {cv so va : Int32} (h : TT t cv so va) {w : Nat} (hw : w < 21) : (so = 0 ∧ va = nI w) ↔ t = w := by
  unfold TT at h
  constructor
  · rintro ⟨e1, e2⟩
    rcases h with ⟨z1, z2, z3⟩ | ⟨z1, z2, z3⟩ | ⟨z1, z2, z3⟩ | ⟨z1, z2, z3, z4⟩ | ⟨z1, z2⟩ | ⟨z1, z2⟩
    · exact (nI_eq (by omega) (by omega)).mp (z3.symm.trans e2)
    · rw [e1] at z2; exact absurd z2 (by decide)
    · rw [e1] at z2; exact absurd z2 (by decide)
    · rw [e1] at z3; exact absurd z3 (by decide)
    · rw [e1] at z2; exact absurd z2 (by decide)
    · rw [e1] at z2; exact absurd z2 (by decide)
  · rintro rfl
    rcases h with ⟨z1, z2, z3⟩ | ⟨z1, z2, z3⟩ | ⟨z1, z2, z3⟩ | ⟨z1, z2, z3, z4⟩ | ⟨z1, z2⟩ | ⟨z1, z2⟩
    · exact ⟨z2, z3⟩
    all_goals omega
theorem sgc_inj : ∀ i j : Fin 13, sgc (23 + i.val) = sgc (23 + j.val) → i.val = j.val := by decide +kernel
theorem sgc_lt : ∀ i : Fin 13, sgc (23 + i.val) ≤ 258 := by decide +kernel
theorem t_sign {t : Nat} {cv so va : Int32} (h : TT t cv so va) {s : Nat} (hs : 23 ≤ s) (hs2 : s ≤ 35) : (so = 3 ∧ va = nI (sgc s)) ↔ t = s := by
  unfold TT at h
  constructor
  · rintro ⟨e1, e2⟩
    rcases h with ⟨z1, z2, z3⟩ | ⟨z1, z2, z3⟩ | ⟨z1, z2, z3⟩ | ⟨z1, z2, z3, z4⟩ | ⟨z1, z2⟩ | ⟨z1, z2⟩
    · rw [e1] at z2; exact absurd z2 (by decide)
    · rw [e1] at z2; exact absurd z2 (by decide)
    · rw [e1] at z2; exact absurd z2 (by decide)
    · have l1 := sgc_lt ⟨t - 23, by omega⟩
      have l2 := sgc_lt ⟨s - 23, by omega⟩
      have l3 := sgc_inj ⟨t - 23, by omega⟩ ⟨s - 23, by omega⟩
      dsimp only at l1 l2 l3
      rw [show 23 + (t - 23) = t by omega] at l1 l3
      rw [show 23 + (s - 23) = s by omega] at l2 l3
      have := l3 ((nI_eq (by omega) (by omega)).mp (z4.symm.trans e2))
      omega
    · rw [e1] at z2; exact absurd z2 (by decide)
    · rw [e1] at z2; exact absurd z2 (by decide)
  · rintro rfl
    rcases h with ⟨z1, z2, z3⟩ | ⟨z1, z2, z3⟩ | ⟨z1, z2, z3⟩ | ⟨z1, z2, z3, z4⟩ | ⟨z1, z2⟩ | ⟨z1, z2⟩
    · omega
    · omega
    · omega
    · exact ⟨z3, z4⟩
    · omega
    · omega
theorem t_num {t : Nat} {cv so va : Int32} (h : TT t cv so va) : so = 2 ↔ t = 22 := by
  unfold TT at h
  constructor
  · intro e1
    rcases h with ⟨z1, z2, z3⟩ | ⟨z1, z2, z3⟩ | ⟨z1, z2, z3⟩ | ⟨z1, z2, z3, z4⟩ | ⟨z1, z2⟩ | ⟨z1, z2⟩
    · rw [e1] at z2; exact absurd z2 (by decide)
    · rw [e1] at z2; exact absurd z2 (by decide)
    · exact z1
    · rw [e1] at z3; exact absurd z3 (by decide)
    · rw [e1] at z2; exact absurd z2 (by decide)
    · rw [e1] at z2; exact absurd z2 (by decide)
  · rintro rfl
    rcases h with ⟨z1, z2, z3⟩ | ⟨z1, z2, z3⟩ | ⟨z1, z2, z3⟩ | ⟨z1, z2, z3, z4⟩ | ⟨z1, z2⟩ | ⟨z1, z2⟩
    · omega
    · omega
    · exact z2
    all_goals omega

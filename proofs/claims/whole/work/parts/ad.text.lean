/-! LEVEL 2: text -/
theorem p9_i {d : xD} {k : Nat} {v : Int32} (hk : k = 1 ∨ k = 2 ∨ k = 3) : xpI 9 shA d 0 k v = some (xu d.1 0 k v, d.2.1, d.2.2) := by
  rcases hk with rfl | rfl | rfl <;> exact pI_of sA_0 rfl
theorem pR_ {ci : Nat} {sh : List xSh} {d : xD} {q k v : Nat} (h : sh[q]? = some (.inl ci)) : xpR ci sh d q k v = some (d.1, d.2.1, xu d.2.2 q k (some v)) := by simp [xpR, h]
theorem text_co {P nw nb nr tp : Nat} {d : xD} (hQ0 : RQ P nw nb nr tp d d) (x1 : Int32) (md : xD) {P' : Nat} (hm : ∀ k, 99 ≤ k → md.1 k = d.1 k) (hmR : RefOK md P') : ∃ r c' m', f_X9_text shA 0 x1 d = some (r, c') ∧ f_X10_text shA 99 x1 md = some (r, m') ∧ (∀ k, 99 ≤ k → c'.1 k = d.1 k) ∧ (∃ Q, RefOK c' Q) ∧ (m'.2 = md.2 ∧ ∀ k, k < 99 → m'.1 k = md.1 k) ∧ ∃ Q nw nb nr tp, RQ Q nw nb nr tp c' (m'.1, c'.2.1, c'.2.2) := by
  have hQ : RQ P nw nb nr tp d (xu md.1 99 0 0, d.2.1, d.2.2) := t0_rq (rq_md hQ0 (md := (md.1, d.2.1, d.2.2)) ⟨fun k hk => ⟨hm k hk, rfl⟩, rfl⟩)
  generalize hJ0 : xu md.1 99 0 0 = J0 at hQ
  have j0m : ∀ k, k < 99 → J0 k = md.1 k := fun k hk => by rw [← hJ0, xu_off (by omega)]
  obtain ⟨dI, L, R⟩ := d
  obtain ⟨mI, L', R'⟩ := md
  dsimp only at hm j0m hJ0
  have hP := rq_pr hQ
  have hpl : P = 2 ∨ P = 21 := pr_pl hP
  have hw6 := pr_w6 hP; have hb8 := pr_b8 hP; have hr12 := pr_r12 hP
  have hC : ∀ I, RefOK (I, L, R) P := fun I => (rq_rc hQ).same rfl
  have hM : ∀ I, RefOK (I, L', R') P' := fun I => hmR.same rfl
  obtain ⟨D, hDe⟩ : ∃ D, D = 23 - P := ⟨_, rfl⟩
  have hD : isPl D := by unfold isPl; omega
  have hpr := isPl_le hD
  obtain ⟨t, t1, t2, t3, t4⟩ := rq_ta hQ
  dsimp only at t2 t3 t4
  have g4 : ∀ I : Nat → Nat → Int32, xgR 9 shA (I, L, R) 0 4 = some P := fun I => gR_of sA_0 (hC I).2.1
  have g5 : ∀ I : Nat → Nat → Int32, xgR 9 shA (I, L, R) 0 5 = some D := fun I => by rw [hDe]; exact gR_of sA_0 (hC I).2.2.1
  have g7 : ∀ I : Nat → Nat → Int32, xgR 9 shA (I, L, R) 0 7 = some 42 := fun I => gR_of sA_0 (rf_0_7 (hC I))
  have hT : ∀ x : Int32, f_X10_text shA 99 x (mI, L', R') = if x < 0 then (k_X10_text_17 shA (J0, L', R')) else ((xgI 10 shA (J0, L', R') 99 2).bind fun v58 => if x ≤ v58 then ((xpI 10 shA (J0, L', R') 99 21 x).bind fun d59 => (xpI 10 shA d59 99 2 (0 : Int32)).bind fun d60 => (xpI 10 shA d60 99 22 (0 : Int32)).bind fun d61 => (xpI 10 shA d61 99 26 (0 : Int32)).bind fun d62 => (xpI 10 shA d62 99 27 (-1 : Int32)).bind fun d63 => xloop (fun _ _ _ => none) (b_X10_text_47 shA) xF 99 (0 : Int32) d63) else (k_X10_text_17 shA (J0, L', R'))) := fun x => by
    unfold f_X10_text
    rw [pM_0, Option.bind_some]
    dsimp only
    rw [hJ0]
  have no : ∀ X Y, X = some ((-2 : Int32), (dI, L, R)) → Y = some ((-2 : Int32), (J0, L', R')) → ∃ r c' m', X = some (r, c') ∧ Y = some (r, m') ∧ (∀ k, 99 ≤ k → c'.1 k = dI k) ∧ (∃ Q, RefOK c' Q) ∧ (m'.2 = (L', R') ∧ ∀ k, k < 99 → m'.1 k = mI k) ∧ ∃ Q nw nb nr tp, RQ Q nw nb nr tp c' (m'.1, c'.2.1, c'.2.2) := fun X Y e1 e2 => ⟨-2, (dI, L, R), (J0, L', R'), e1, e2, fun _ _ => rfl, ⟨P, hC dI⟩, ⟨rfl, j0m⟩, P, nw, nb, nr, tp, hQ⟩
  rw [hT]
  unfold f_X9_text
  by_cases cn : x1 < 0
  · rw [if_pos cn, if_pos cn]
    exact no _ _ rfl rfl
  rw [if_neg cn, if_neg cn]
  obtain ⟨n, hn31, rfl⟩ := nI_of cn
  rw [gI_of sA_0, Option.bind_some, gI_of sA_99, Option.bind_some]
  simp only [t2, t3]
  by_cases ct' : ¬ n ≤ t
  · rw [if_neg (nI_ge (by omega) (by omega)), if_neg (nI_ge (by omega) (by omega))]
    exact no _ _ rfl rfl
  have ct : n ≤ t := by omega
  rw [if_pos (nI_le ct (by omega)), if_pos (nI_le ct (by omega))]
  have hn7 : n ≤ 700 := by omega
  -- the class begins
  obtain ⟨Ib, b1, b2, b3, b4, b5, b6, b7⟩ := c_clear hC hD (xu dI 0 1 0)
  have hC1 : ∀ I, RefOK (I, L, xu R 42 2 (some D)) P := ref_42 hC
  generalize hR1 : xu R 42 2 (some D) = R1 at hC1
  have r1D : R1 42 2 = some D := by rw [← hR1, xu_at]
  generalize hIc : xu (xu (xu (xu (xu Ib 42 3 0) 40 7 (nI n)) 40 8 0) 40 3 0) 40 4 (-1) = Ic
  have icR : ∀ q, q ≠ 40 → q ≠ 42 → Ic q = Ib q := fun q c1 c2 => by rw [← hIc, xu_off c1, xu_off c1, xu_off c1, xu_off c1, xu_off c2]
  have ibR : ∀ q, q ≠ 0 → q ≠ D → q ≠ D + 4 → q ≠ D + 13 → Ib q = dI q := fun q c1 c2 c3 c4 => by rw [b2 q c2 c3 c4, xu_off c1]
  -- the reference begins
  generalize hJa : xu (xu (xu (xu (xu J0 99 21 (nI n)) 99 2 0) 99 22 0) 99 26 0) 99 27 (-1) = Ja
  obtain ⟨Jb, j1, j2, j3, j4⟩ := rd_loop hM 8 0 Ja xF (by omega) (by unfold xF; omega)
  obtain ⟨Jc, k1, k2, k3, k4⟩ := sm_loop hM 3 3 Jb xF (by omega) (by omega) (by unfold xF; omega)
  generalize hJd : xu (xu (xu (xu Jc 99 19 0) 99 20 0) 99 30 0) 99 31 0 = Jd
  have j1 : xloop (fun _ _ _ => none) (b_X10_text_47 shA) xF 99 (0 : Int32) (Ja, L', R') = k_X10_text_74 shA 99 (Jb, L', R') := j1
  have k1 : k_X10_text_74 shA 99 (Jb, L', R') = k_X10_text_102 shA 99 (Jc, L', R') := k1
  have jaR : ∀ q, q ≠ 99 → Ja q = J0 q := fun q c => by rw [← hJa, xu_off c, xu_off c, xu_off c, xu_off c, xu_off c]
  have jcR : ∀ q, q ≠ 99 → q ≠ 101 → q ≠ 113 → q ≠ 114 → Jc q = J0 q := fun q c1 c2 c3 c4 => by rw [k2 q c3 c4, j2 q c2, jaR q c1]
  have jc99 : Jc 99 = Ja 99 := by rw [k2 99 (by omega) (by omega), j2 99 (by omega)]
  have jdR : ∀ q, q ≠ 99 → Jd q = Jc q := fun q c => by rw [← hJd, xu_off c, xu_off c, xu_off c, xu_off c]
  have jd9 : ∀ j, j ≠ 19 → j ≠ 20 → j ≠ 30 → j ≠ 31 → Jd 99 j = Ja 99 j := fun j c1 c2 c3 c4 => by rw [← hJd, xu_at2 c4, xu_at2 c3, xu_at2 c2, xu_at2 c1, jc99]
  have ja9 : ∀ j, j ≠ 21 → j ≠ 2 → j ≠ 22 → j ≠ 26 → j ≠ 27 → Ja 99 j = J0 99 j := fun j c1 c2 c3 c4 c5 => by rw [← hJa, xu_at2 c5, xu_at2 c4, xu_at2 c3, xu_at2 c2, xu_at2 c1]
  have jd101 : Jd 101 = Jb 101 := by rw [jdR 101 (by omega), k2 101 (by omega) (by omega)]
  -- the first token
  have hTB : TB n (fun i => (J0 100 i).toNatClampNeg) Ic Jd := by
    refine ⟨hn7, ?_, ?_, fun i hi => ?_, fun i hi => ?_⟩
    · rw [← hIc, xu_at2 (by omega), xu_at2 (by omega), xu_at2 (by omega), xu_at]
    · rw [jd9 21 (by omega) (by omega) (by omega) (by omega), ← hJa, xu_at2 (by omega), xu_at2 (by omega), xu_at2 (by omega), xu_at2 (by omega), xu_at]
    · obtain ⟨x, y1, y2, y3⟩ := t4 i (by omega)
      have e : (J0 100 i).toNatClampNeg = x := by rw [y2, nI_clamp (by omega)]
      dsimp only
      rw [e, jdR 100 (by omega), jcR 100 (by omega) (by omega) (by omega) (by omega), icR 1 (by omega) (by omega), ibR 1 (by omega) (by omega) (by omega) (by omega)]
      exact ⟨y1, y2, y3⟩
    · rw [icR 41 (by omega) (by omega), ibR 41 (by omega) (by omega) (by omega) (by omega)]; exact rq_wd hQ i hi
  obtain ⟨I2, J2, p, a, tk, n1, n2, n3, n4, n5, n6⟩ := e_next hC1 hM hTB (a := 0) (by omega) (by rw [← hIc, xu_at2 (by omega), xu_at2 (by omega), xu_at]; rfl) (by rw [jd9 22 (by omega) (by omega) (by omega) (by omega), ← hJa, xu_at2 (by omega), xu_at2 (by omega), xu_at]; rfl)
  have i2R : ∀ q, q ≠ 40 → q ≠ 42 → I2 q = Ib q := fun q c1 c2 => by rw [n3.1 q c1, icR q c1 c2]
  have j2R : ∀ q, q ≠ 99 → J2 q = Jd q := fun q c => n4.1 q c
  have jr8 : ∀ j, j < 8 → J2 101 (8 + j) = if j = 0 then 20 else 0 := fun j hj => by rw [j2R 101 (by omega), jd101]; exact j4 j (by omega) hj
  have jr3 : ∀ q j, q = 113 ∨ q = 114 → 3 ≤ j → j < 6 → J2 q j = 0 := fun q j hq j1 j2 => by rw [j2R q (by omega), jdR q (by omega)]; exact k4 q j hq j1 j2
  have hLN : LN D n (fun i => (J0 100 i).toNatClampNeg) 0 0 0 0 20 p a tk I2 J2 := by
    have bt0 : ∀ k, bt (0 : Int32) k = false := b_0
    have e42 : I2 42 3 = 0 := by rw [n3.1 42 (by omega), ← hIc, xu_cell (by omega), xu_cell (by omega), xu_cell (by omega), xu_cell (by omega), xu_at]
    have e19 : J2 99 19 = 0 := by rw [n4.2 19 (by omega), ← hJd, xu_at2 (by omega), xu_at2 (by omega), xu_at2 (by omega), xu_at]
    have iD : I2 D = Ib D := i2R D (by omega) (by omega)
    have i13 : I2 (D + 13) = Ib (D + 13) := i2R (D + 13) (by omega) (by omega)
    refine ⟨n5, ⟨hD, by omega, by omega, by omega, by omega, by omega, ?_, ?_, ?_, ?_, jr8 0 (by omega), jr8 1 (by omega), jr8 2 (by omega), jr8 3 (by omega), ⟨0, by omega, jr8 4 (by omega), ?_⟩, ⟨0, by omega, jr8 5 (by omega), ?_⟩, ⟨0, by omega, jr8 6 (by omega), ?_⟩, ⟨0, by omega, jr8 7 (by omega), ?_, ?_⟩, fun i hi => by omega, fun i hi => by omega, fun i hi => by omega, fun i j hi => by omega, fun i hi => by omega, fun k hk => ?_, fun i hi => by omega, fun i hi => by omega, fun i hi => by omega, fun i hi => by omega, fun i hi => by omega, fun i hi => by omega, fun i hi => by omega, fun k hk => Or.inl ⟨?_, ?_⟩⟩, ?_, ?_, ?_, ?_, ?_, ?_, ?_, ?_, ?_, ?_⟩
    · rw [iD]; exact b3.1
    · rw [iD]; exact b3.2.2.2.2.1
    · rw [iD]; exact b3.2.2.2.2.2.1
    · rw [iD]; exact b3.2.2.2.2.2.2
    · rw [iD]; exact b3.2.1
    · rw [iD]; exact b3.2.2.1
    · rw [iD]; exact b3.2.2.2.1
    · rw [i13]; exact b5
    · rw [i13]; exact b6
    · rw [i2R (D + 4) (by omega) (by omega), b4 k (by omega)]; rfl
    · rw [i13, b7]; exact bt0 k
    · rw [jr3 113 (3 * 1 + k) (Or.inl rfl) (by omega) (by omega), jr3 114 (3 * 1 + k) (Or.inr rfl) (by omega) (by omega)]
    · rw [n4.2 26 (by omega), jd9 26 (by omega) (by omega) (by omega) (by omega), ← hJa, xu_at2 (by omega), xu_at]
    · rw [n4.2 27 (by omega), jd9 27 (by omega) (by omega) (by omega) (by omega), ← hJa, xu_at]
    · rw [n3.2 3 (by omega) (by omega) (by omega) (by omega), ← hIc, xu_at2 (by omega), xu_at]
    · rw [n3.2 4 (by omega) (by omega) (by omega) (by omega), ← hIc, xu_at]
    · rw [n4.2 20 (by omega), ← hJd, xu_at2 (by omega), xu_at2 (by omega), xu_at]; rfl
    · rw [n4.2 30 (by omega), ← hJd, xu_at2 (by omega), xu_at]
    · rw [n4.2 31 (by omega), ← hJd, xu_at, i13, b5]
    · intro w _ _; rw [e42, e19]
    · intro k hk; rw [e42, e19, i13, b7, bt0, bt0, bt0]; exact ⟨rfl, rfl⟩
    · intro k hk hb; rw [i13, b7, bt0] at hb; cases hb
  have hrd : f_X6_read shA 42 (nI n) D (Ib, L, R) = xloop (fun _ _ _ _ => none) (b_X6_read_20 shA) xF 42 (nI n) (0 : Int32) (I2, L, R1) := by
    have p42 : ∀ (d : xD) (v : Int32), xpI 6 shA d 42 3 v = some (xu d.1 42 3 v, d.2.1, d.2.2) := fun d v => pI_of sA_42 rfl
    have hmin : (if nI 700 < nI n then nI 700 else nI n) = nI n := if_neg (nI_nlt hn7 (by omega))
    unfold f_X6_read f_X7_start
    generalize xloop (fun _ _ _ _ => none) (b_X6_read_20 shA) xF = rc
    simp only [pR_ sA_42, Option.bind_some, hR1, p42, gR_of sA_42 (rf_42_0 (hC1 _)), on_of sA_40, gR_of sA_40 (rf_40_5 (hC1 _)), len_of sA_1, hmin, pT_40 (show 7 = 0 ∨ 7 = 1 ∨ 7 = 2 ∨ 7 = 3 ∨ 7 = 4 ∨ 7 = 7 ∨ 7 = 8 by omega), pT_40 (show 8 = 0 ∨ 8 = 1 ∨ 8 = 2 ∨ 8 = 3 ∨ 8 = 4 ∨ 8 = 7 ∨ 8 = 8 by omega), pT_40 (show 3 = 0 ∨ 3 = 1 ∨ 3 = 2 ∨ 3 = 3 ∨ 3 = 4 ∨ 3 = 7 ∨ 3 = 8 by omega), pT_40 (show 4 = 0 ∨ 4 = 1 ∨ 4 = 2 ∨ 4 = 3 ∨ 4 = 4 ∨ 4 = 7 ∨ 4 = 8 by omega), hIc, n1]
  have hti : ((xpI 10 shA (J0, L', R') 99 21 (nI n)).bind fun d59 => (xpI 10 shA d59 99 2 (0 : Int32)).bind fun d60 => (xpI 10 shA d60 99 22 (0 : Int32)).bind fun d61 => (xpI 10 shA d61 99 26 (0 : Int32)).bind fun d62 => (xpI 10 shA d62 99 27 (-1 : Int32)).bind fun d63 => xloop (fun _ _ _ => none) (b_X10_text_47 shA) xF 99 (0 : Int32) d63) = xloop (fun _ _ => none) (b_X10_text_126 shA) xF 99 (J2, L', R') := by
    rw [pM_21, Option.bind_some, pM_2, Option.bind_some, pM_22, Option.bind_some, pM_26, Option.bind_some, pM_27, Option.bind_some]
    dsimp only
    rw [hJa, j1, k1]
    unfold k_X10_text_102
    rw [pM_19, Option.bind_some, pM_20, Option.bind_some, pM_30, Option.bind_some, pM_31, Option.bind_some, on_of sA_99]
    dsimp only
    rw [hJd, n2, Option.bind_some]
  rw [hti]
  -- frames up to here
  have fJ : ∀ q, q ≠ 99 → q ≠ 101 → q ≠ 113 → q ≠ 114 → J2 q = J0 q := fun q c1 c2 c3 c4 => by rw [j2R q c1, jdR q c1, jcR q c1 c2 c3 c4]
  have fJ9 : ∀ j, 31 < j → J2 99 j = J0 99 j := fun j c => by rw [n4.2 j (by omega), jd9 j (by omega) (by omega) (by omega) (by omega), ja9 j (by omega) (by omega) (by omega) (by omega) (by omega)]
  have fJl : ∀ q j, 101 ≤ q → q ≤ 116 → j < hfR q → J2 q j = J0 q j := fun q j c1 c2 c3 => by
    by_cases c : q = 101
    · subst c
      rw [j2R 101 (by omega), jd101, j3 j (by have : hfR 101 = 8 := rfl; omega), jaR 101 (by omega)]
    · by_cases c' : q = 113 ∨ q = 114
      · rw [j2R q (by omega), jdR q (by omega), k3 q j c' (by rcases c' with rfl | rfl <;> exact c3), j2 q (by omega), jaR q (by omega)]
      · rw [fJ q (by omega) c (by omega) (by omega)]
  have fI : ∀ q, q ≠ 0 → q ≠ 40 → q ≠ 42 → (q < D ∨ D + 18 ≤ q) → I2 q = dI q := fun q c1 c2 c3 c4 => by rw [i2R q c2 c3, ibR q c1 (by omega) (by omega) (by omega)]
  have fI0 : ∀ j, j ≠ 1 → I2 0 j = dI 0 j := fun j c => by rw [i2R 0 (by omega) (by omega), b2 0 (by omega) (by omega) (by omega), xu_at2 c]
  have fI1 : I2 0 1 = 0 := by rw [i2R 0 (by omega) (by omega), b2 0 (by omega) (by omega) (by omega), xu_at]
  have fJ2 : J2 99 2 = 0 := by rw [n4.2 2 (by omega), jd9 2 (by omega) (by omega) (by omega) (by omega), ← hJa, xu_at2 (by omega), xu_at2 (by omega), xu_at2 (by omega), xu_at]
  have g61 : ∀ I : Nat → Nat → Int32, xgR 9 shA (I, L, R1) 0 6 = some 40 := fun I => gR_of sA_0 (rf_0_6 (hC1 I))
  have g41 : ∀ I : Nat → Nat → Int32, xgR 9 shA (I, L, R1) 0 4 = some P := fun I => gR_of sA_0 (hC1 I).2.1
  have g51 : ∀ I : Nat → Nat → Int32, xgR 9 shA (I, L, R1) 0 5 = some D := fun I => by rw [hDe]; exact gR_of sA_0 (hC1 I).2.2.1
  rcases e_lines hC1 hM hD r1D 701 0 0 0 0 20 p a tk I2 J2 xF xF hLN (fun _ => ⟨rfl, rfl, rfl, jr8 4 (by omega)⟩) (by omega) (by omega) (by unfold xF; omega) (by unfold xF; omega) with ⟨I', J', e1, e2, e3, e4, e5⟩ | ⟨li, nw', nb', nr', tp', p', a', I', J', e1, e2, e3, e4, e5, e6⟩
  · -- a fault
    have e1 : f_X6_read shA 42 (nI n) D (Ib, L, R) = some (-1, (I', L, R1)) := hrd.trans e1
    generalize hc : xu (xu I' 0 2 (I' 40 3)) 0 3 (I' 40 4) = c'
    generalize hmm : xu (xu J' 99 28 (J' 99 26)) 99 29 (J' 99 27) = m'
    refine ⟨-1, (c', L, R1), (m', L', R'), ?_, ?_, fun k hk => ?_, ⟨P, hC1 _⟩, ⟨rfl, fun k hk => ?_⟩, P, nw, nb, nr, tp, ?_⟩
    · simp only [p9_i (show 1 = 1 ∨ 1 = 2 ∨ 1 = 3 by omega), p9_i (show 2 = 1 ∨ 2 = 2 ∨ 2 = 3 by omega), p9_i (show 3 = 1 ∨ 3 = 2 ∨ 3 = 3 by omega), Option.bind_some, g5, on_of (sp_0 hD), b1, g7, on_of sA_42, e1, g61, gI_of sA_40, xu_cell (show 40 ≠ 0 by omega), ↓reduceIte, hc]
    · rw [e2]
      unfold k_X10_text_148
      rw [gI_of sA_99, Option.bind_some, pM_28, Option.bind_some, gI_of sA_99, Option.bind_some, pM_29, Option.bind_some, gI_of sA_99, Option.bind_some]
      dsimp only
      rw [if_neg (show ¬ xu (xu J' 99 28 (J' 99 26)) 99 29 (xu J' 99 28 (J' 99 26) 99 27) 99 26 = 0 by rw [xu_at2 (by omega), xu_at2 (by omega)]; exact e3.2.2), xu_at2 (show 27 ≠ 28 by omega), hmm]
    · dsimp only
      rw [← hc, xu_off (by omega), xu_off (by omega), e4 k (by omega) (by omega) (by omega) (by omega) (by omega), fI k (by omega) (by omega) (by omega) (by omega)]
    · dsimp only
      rw [← hmm, xu_off (by omega), xu_off (by omega), e5.1 k (by omega) (by omega), fJ k (by omega) (by omega) (by omega) (by omega), j0m k hk]
    · refine rq_low hQ (hC1 _) (hC1 _) rfl (fun k c1 c2 c3 c4 c5 c6 => ?_) ?_ (fun k c1 c2 c3 => ?_) (fun k c1 => ?_) (fun q i q1 q2 hi => ?_) (fun q i q1 q2 hi => ?_) (fun q i q1 q2 hi => ?_) (fun q i q1 q2 hi => ?_) (fun q i q1 q2 hi => ?_) ⟨0, by omega, ?_, ?_, fun i hi => by omega⟩ ⟨?_, ?_⟩
      · dsimp only
        rw [← hc, xu_off c1, xu_off c1, e4 k c2 c3 c4 c5 (by omega), fI k c1 c2 c3 (by omega)]
      · dsimp only
        rw [← hc, xu_at2 (by omega), xu_at2 (by omega), e4 0 (by omega) (by omega) (by omega) (by omega) (by omega), fI0 11 (by omega)]
      · dsimp only
        rw [← hmm, xu_off c1, xu_off c1, e5.1 k c1 c3, fJ k c1 (by omega) (by omega) (by omega)]
      · dsimp only
        rw [← hmm, xu_at2 (by omega), xu_at2 (by omega), e5.2.1 k (by omega), fJ9 k c1]
      · have hf : hfR q = 8 := by unfold hfR; rw [if_pos q2]
        dsimp only
        rw [← hmm, xu_cell (by omega), xu_cell (by omega), e5.2.2 q i (by omega) (by omega) (by omega), fJl q i (by omega) (by omega) (by omega)]
      · have hf : hfR q = 6 := by unfold hfR; rw [if_neg (by omega), if_pos q2]
        dsimp only
        rw [← hmm, xu_cell (by omega), xu_cell (by omega), e5.2.2 q i (by omega) (by omega) (by omega), fJl q i (by omega) (by omega) (by omega)]
      · have hf : hfR q = 12 := by unfold hfR; rw [if_neg (by omega), if_neg (by omega), if_pos q2]
        dsimp only
        rw [← hmm, xu_cell (by omega), xu_cell (by omega), e5.2.2 q i (by omega) (by omega) (by omega), fJl q i (by omega) (by omega) (by omega)]
      · have hf : hfR q = 3 := by unfold hfR; rw [if_neg (by omega), if_neg (by omega), if_neg (by omega), if_pos q2]
        dsimp only
        rw [← hmm, xu_cell (by omega), xu_cell (by omega), e5.2.2 q i (by omega) (by omega) (by omega), fJl q i (by omega) (by omega) (by omega)]
      · have hf : hfR q = 64 := by unfold hfR; rw [if_neg (by omega), if_neg (by omega), if_neg (by omega), if_neg (by omega)]
        dsimp only
        rw [← hmm, xu_cell (by omega), xu_cell (by omega), e5.2.2 q i (by omega) (by omega) (by omega), fJl q i (by omega) (by omega) (by omega)]
      · dsimp only
        rw [← hc, xu_at2 (by omega), xu_at2 (by omega), e4 0 (by omega) (by omega) (by omega) (by omega) (by omega), fI1]; rfl
      · dsimp only
        rw [← hmm, xu_at2 (by omega), xu_at2 (by omega), e5.2.1 2 (by omega), fJ2]; rfl
      · dsimp only
        rw [← hc, xu_at2 (by omega), xu_at, ← hmm, xu_at2 (by omega), xu_at]; exact e3.1
      · dsimp only
        rw [← hc, xu_at, ← hmm, xu_at]; exact e3.2.1
  · -- a good text
    have e1 : f_X6_read shA 42 (nI n) D (Ib, L, R) = some (nI li, (I', L, R1)) := hrd.trans e1
    have hC2 : ∀ I, RefOK (I, L, xu (xu (xu R1 0 4 (some D)) 0 5 (some P)) 87 0 (some D)) D := by rw [hDe]; exact ref_sw hC1
    generalize hR2 : xu (xu (xu R1 0 4 (some D)) 0 5 (some P)) 87 0 (some D) = R2 at hC2
    generalize hIg : xu (xu I' 0 2 0) 0 3 (-1) = Ig
    have igR : ∀ q, q ≠ 0 → Ig q = I' q := fun q c => by rw [← hIg, xu_off c, xu_off c]
    have hPg := ln_pr e3
    have hr' := pr_r12 hPg; have hw' := pr_w6 hPg; have hb' := pr_b8 hPg
    obtain ⟨cb, u1, u2⟩ := e_begin (c := (Ig, L, R2)) (hC2 Ig) hD sc45 (nr := nr') hr' (show Ig D 15 = nI nr' by rw [igR D (by omega)]; exact pr_cR hPg)
    have u2' := u2
    obtain ⟨v1, v2, v3, v4, v5, v6, v7, v8⟩ := u2'
    obtain ⟨cI, cL, cR'⟩ := cb
    dsimp only at v1 v2 v3 v4 v5 v6 v7 v8
    have v1 := v1.symm
    subst v1
    generalize hc : xu (xu (xu (xu cI 0 11 0) 89 0 0) 92 0 0) 92 1 (-1) = c'
    have c'R : ∀ q, q ≠ 0 → q ≠ 89 → q ≠ 92 → c' q = cI q := fun q c1 c2 c3 => by rw [← hc, xu_off c3, xu_off c3, xu_off c2, xu_off c1]
    -- the reference
    generalize hJe : xu (xu J' 99 28 0) 99 29 (-1) = Je
    obtain ⟨Jh, h1, h2, h8, h6, h12, h3, h64⟩ := e_halves hM Je
    generalize hJk : xu (xu (xu (xu Jh 99 57 0) 99 58 (-1)) 99 48 0) 99 49 0 = Jk
    have jkR : ∀ q, q ≠ 99 → Jk q = Jh q := fun q c => by rw [← hJk, xu_off c, xu_off c, xu_off c, xu_off c]
    have jeR : ∀ q, q ≠ 99 → Je q = J' q := fun q c => by rw [← hJe, xu_off c, xu_off c]
    have jk9 : ∀ j, j ≠ 57 → j ≠ 58 → j ≠ 48 → j ≠ 49 → j ≠ 28 → j ≠ 29 → Jk 99 j = J' 99 j := fun j c1 c2 c3 c4 c5 c6 => by rw [← hJk, xu_at2 c4, xu_at2 c3, xu_at2 c2, xu_at2 c1, h2 99 (by omega), ← hJe, xu_at2 c6, xu_at2 c5]
    have hPk : PR D 0 nw' nb' nr' tp' Ig Jk := pr_move (h := 1) hPg (fun j hj => igR _ (by omega)) (fun q i q1 q2 hi => by rw [jkR q (by omega), h8 q i q1 q2 hi, jeR q (by omega)]) (fun q i q1 q2 hi => by rw [jkR q (by omega), h6 q i q1 q2 hi, jeR q (by omega)]) (fun q i q1 q2 hi => by rw [jkR q (by omega), h12 q i q1 q2 hi, jeR q (by omega)]) (fun q i q1 q2 hi => by rw [jkR q (by omega), h3 q i q1 q2 hi, jeR q (by omega)]) (fun q i q1 q2 hi => by rw [jkR q (by omega), h64 q i q1 q2 hi, jeR q (by omega)])
    obtain ⟨ms, w1, w2⟩ := e_starts (s := 0) (m := (Jk, L', R')) (hM Jk) (by omega) hw' (p0_mW hPk)
    have w2' := w2
    obtain ⟨y1, y2, y3, y4, y5, y6, y7, y8, y9⟩ := w2'
    obtain ⟨sI, sL, sR⟩ := ms
    dsimp only at y1 y2 y3 y4 y5 y6 y7 y8 y9
    have y1 := y1.symm
    have y2 := y2.symm
    subst y1; subst y2
    have m50 : Jk 99 50 = 0 := by rw [jk9 50 (by omega) (by omega) (by omega) (by omega) (by omega) (by omega), e6.2.1 50 (by omega), fJ9 50 (by omega)]; exact rq_tw hQ
    have m51 : Jk 99 51 = -1 := by rw [jk9 51 (by omega) (by omega) (by omega) (by omega) (by omega) (by omega), e6.2.1 51 (by omega), fJ9 51 (by omega)]; exact rq_po hQ
    have m53 : Jk 99 53 = -1 := by rw [jk9 53 (by omega) (by omega) (by omega) (by omega) (by omega) (by omega), e6.2.1 53 (by omega), fJ9 53 (by omega)]; exact rq_ew hQ
    have s99 : sI 99 = Jk 99 := y3 99 (by omega)
    have hs := sc_beg (m' := (sI, L', R')) hPk u2 w2 m50 (I := cI) (fun _ _ => rfl) (fun i hi => by
      rw [pac_m1 (by omega) m51]
      rw [(v6 i (by omega)).2.2.2.1]
      obtain ⟨x, _, _, x3, x4⟩ := p0_wp hPk i hi
      rw [x3, x4])
    dsimp only at hs
    have hsc : SC nw' nb' nr' 0 tp' 0 (fun _ _ => True) True sI (-1) (vC 45 c') (cL 45 3) (vM 0 sI) := by
      refine sc_congr hs hw' hb' hr' rfl (fun _ _ => rfl) (fun z => by omega) (fun _ _ _ => rfl) (fun k hk => ?_) (fun j j1 j2 k hk => ?_) (fun _ _ => rfl) (fun _ _ _ _ _ => rfl) (fun _ _ => rfl)
      · show c' 45 k = cI 45 k; rw [c'R 45 (by omega) (by omega) (by omega)]
      · show c' (45 + j) k = cI (45 + j) k; rw [c'R (45 + j) (by omega) (by omega) (by omega)]
    have i'R : ∀ q, q ≠ 0 → q ≠ 40 → q ≠ 42 → q ≠ 43 → q ≠ 44 → (q < D ∨ D + 18 ≤ q) → I' q = dI q := fun q c1 c2 c3 c4 c5 c6 => by rw [e5 q c2 c3 c4 c5 c6, fI q c1 c2 c3 c6]
    have ci0 : ∀ j, cI 0 j = Ig 0 j := fun j => by rw [v2 0 (by omega)]
    have hli : ¬ nI li = -1 := nI_ne_m1 (by omega)
    refine ⟨nI li, (c', cL, R2), (sI, L', R'), ?_, ?_, fun k hk => ?_, ⟨D, hC2 c'⟩, ⟨rfl, fun k hk => ?_⟩, D, nw', nb', nr', tp', ?_⟩
    · have p48 : ∀ (d : xD), xpI 9 shA d 0 11 (0 : Int32) = some (xu d.1 0 11 0, d.2.1, d.2.2) := fun d => pI_of sA_0 rfl
      have p89 : ∀ (d : xD), xpI 8 shA d 89 0 (0 : Int32) = some (xu d.1 89 0 0, d.2.1, d.2.2) := fun d => pI_of sA_89 rfl
      have p92 : ∀ (d : xD), xpI 5 shA d 92 0 (0 : Int32) = some (xu d.1 92 0 0, d.2.1, d.2.2) := fun d => pI_of sA_92 rfl
      have p921 : ∀ (d : xD), xpI 5 shA d 92 1 (-1 : Int32) = some (xu d.1 92 1 (-1), d.2.1, d.2.2) := fun d => pI_of sA_92 rfl
      have g12 : ∀ I : Nat → Nat → Int32, xgR 9 shA (I, L, xu (xu R1 0 4 (some D)) 0 5 (some P)) 0 12 = some 87 := fun I => gR_of sA_0 (show xu (xu R1 0 4 (some D)) 0 5 (some P) 0 12 = some 87 by rw [xu_at2 (by omega), xu_at2 (by omega)]; exact rf_0_12 (hC1 I))
      have g42 : ∀ I : Nat → Nat → Int32, xgR 9 shA (I, L, xu (xu R1 0 4 (some D)) 0 5 (some P)) 0 4 = some D := fun I => gR_of sA_0 (show xu (xu R1 0 4 (some D)) 0 5 (some P) 0 4 = some D by rw [xu_at2 (by omega), xu_at])
      have g82 : xgR 9 shA (Ig, L, R2) 0 8 = some 45 := gR_of sA_0 (rf_0_8 (hC2 _))
      have g42' : xgR 9 shA (Ig, L, R2) 0 4 = some D := gR_of sA_0 (hC2 _).2.1
      have g13 : ∀ I : Nat → Nat → Int32, xgR 9 shA (I, cL, R2) 0 13 = some 89 := fun I => gR_of sA_0 (rf_0_13 (d := (I, cL, R2)) ((hC2 I).same rfl))
      have g14 : ∀ I : Nat → Nat → Int32, xgR 9 shA (I, cL, R2) 0 14 = some 92 := fun I => gR_of sA_0 (rf_0_14 (d := (I, cL, R2)) ((hC2 I).same rfl))
      have g3 := ln_g0 e3; have g4' := ln_g1 e3
      unfold f_X8_clear f_X5_clear
      simp only [p9_i (show 1 = 1 ∨ 1 = 2 ∨ 1 = 3 by omega), p9_i (show 2 = 1 ∨ 2 = 2 ∨ 2 = 3 by omega), p9_i (show 3 = 1 ∨ 3 = 2 ∨ 3 = 3 by omega), Option.bind_some, g5, on_of (sp_0 hD), b1, g7, on_of sA_42, e1, g61, gI_of sA_40, xu_cell (show 40 ≠ 0 by omega), g3, g4', if_neg hli, g41, g51, pR_ sA_0, g12, g42, pR_ sA_87, hR2, hIg, g82, g42', on_of sA_45, u1, p48, g13, on_of sA_89, p89, g14, on_of sA_92, p92, p921, hc]
    · have p57 : ∀ (d : xD), xpI 10 shA d 99 48 (0 : Int32) = some (xu d.1 99 48 0, d.2.1, d.2.2) := fun d => pI_of sA_99 rfl
      have f0 := ln_f0 e3; have f1 := ln_f1 e3
      have w1 : f_X10_starts shA 99 (0 : Int32) (Jk, L', R') = some (sI, L', R') := w1
      rw [e2]
      unfold k_X10_text_148
      rw [gI_of sA_99, Option.bind_some, pM_28, Option.bind_some, gI_of sA_99, Option.bind_some, pM_29, Option.bind_some, gI_of sA_99, Option.bind_some]
      dsimp only
      rw [if_pos (show xu (xu J' 99 28 (J' 99 26)) 99 29 (xu J' 99 28 (J' 99 26) 99 27) 99 26 = 0 by rw [xu_at2 (by omega), xu_at2 (by omega)]; exact f0), xu_at2 (show 27 ≠ 28 by omega), f0, f1, hJe, h1]
      unfold f_X10_begins
      rw [pM_57, Option.bind_some, pM_58, Option.bind_some, p57, Option.bind_some, pM_49, Option.bind_some, on_of sA_99, on_of sA_99]
      dsimp only
      rw [hJk, w1, Option.bind_some, Option.bind_some, gI_of sA_99, Option.bind_some]
      dsimp only
      rw [s99, jk9 20 (by omega) (by omega) (by omega) (by omega) (by omega) (by omega), ln_li e3]
    · dsimp only
      rw [c'R k (by omega) (by omega) (by omega), v2 k (by omega), igR k (by omega), i'R k (by omega) (by omega) (by omega) (by omega) (by omega) (by omega)]
    · dsimp only
      rw [y3 k (by omega), jkR k (by omega), h2 k (by omega), jeR k (by omega), e6.1 k (by omega) (by omega), fJ k (by omega) (by omega) (by omega) (by omega), j0m k hk]
    · have c0 : ∀ j, j ≠ 11 → c' 0 j = Ig 0 j := fun j c => by rw [← hc, xu_cell (by omega), xu_cell (by omega), xu_cell (by omega), xu_at2 c, ci0 j]
      refine ⟨(hC2 c').same rfl, (hC2 sI).same rfl, pr_congr hPk (fun j hj => ?_) (fun k k1 k2 => y3 k (by omega)), hsc, ?_, ?_, ?_, Or.inl ⟨?_, ?_⟩, ⟨0, by omega, ?_, ?_, fun k hk => by omega⟩, ⟨0, by omega, ?_, ?_, ?_, Or.inl ?_, fun i hi => by omega⟩, ⟨0, by omega, ?_, ?_, fun i hi => by omega⟩, ⟨?_, ?_⟩, fun i hi => ?_⟩
      · dsimp only; rw [c'R _ (by omega) (by omega) (by omega), v2 _ (by omega)]
      · dsimp only; rw [s99]; exact m50
      · dsimp only; rw [s99]; exact m51
      · dsimp only; rw [s99]; exact m53
      · dsimp only; rw [← hc, xu_cell (by omega), xu_cell (by omega), xu_cell (by omega), xu_at]
      · dsimp only; rw [s99, ← hJk, xu_at2 (by omega), xu_at]
      · dsimp only; rw [← hc, xu_cell (by omega), xu_cell (by omega), xu_at]; rfl
      · dsimp only; rw [s99, ← hJk, xu_at]; rfl
      · dsimp only; rw [← hc, xu_at2 (by omega), xu_at]; rfl
      · dsimp only; rw [s99, ← hJk, xu_at2 (by omega), xu_at2 (by omega), xu_at2 (by omega), xu_at]; rfl
      · dsimp only; rw [← hc, xu_at, s99, ← hJk, xu_at2 (by omega), xu_at2 (by omega), xu_at]
      · dsimp only; rw [s99, ← hJk, xu_at2 (by omega), xu_at2 (by omega), xu_at]
      · dsimp only; rw [c0 1 (by omega), ← hIg, xu_at2 (by omega), xu_at2 (by omega), e5 0 (by omega) (by omega) (by omega) (by omega) (by omega), fI1]; rfl
      · dsimp only; rw [s99, jk9 2 (by omega) (by omega) (by omega) (by omega) (by omega) (by omega), e6.2.1 2 (by omega), fJ2]; rfl
      · dsimp only; rw [c0 2 (by omega), ← hIg, xu_at2 (by omega), xu_at, s99, ← hJk, xu_at2 (by omega), xu_at2 (by omega), xu_at2 (by omega), xu_at2 (by omega), h2 99 (by omega), ← hJe, xu_at2 (by omega), xu_at]
      · dsimp only; rw [c0 3 (by omega), ← hIg, xu_at, s99, ← hJk, xu_at2 (by omega), xu_at2 (by omega), xu_at2 (by omega), xu_at2 (by omega), h2 99 (by omega), ← hJe, xu_at]
      · dsimp only; rw [c'R 41 (by omega) (by omega) (by omega), v2 41 (by omega), igR 41 (by omega), i'R 41 (by omega) (by omega) (by omega) (by omega) (by omega) (by omega)]; exact rq_wd hQ i hi
theorem l2_text : L2_text Rel := by
  intro d a1 hd
  obtain ⟨P, nw, nb, nr, tp, hq⟩ := hd
  obtain ⟨r, c', m', e1, e2, e3, ⟨Q, e4⟩, _, _⟩ := text_co hq a1 d (fun _ _ => rfl) (rq_rc hq)
  obtain ⟨r2, c2, m2, f1, f2, f3, _, ⟨f5, f6⟩, P2, nw2, nb2, nr2, tp2, f7⟩ := text_co hq a1 c' e3 e4
  rw [e1] at f1
  have g := Prod.mk.inj (Option.some.inj f1)
  obtain ⟨g1, g2⟩ := g
  subst g1; subst g2
  refine ⟨r, c', m2, e1, f2, P2, nw2, nb2, nr2, tp2, ?_⟩
  have hm2 : m2 = (m2.1, c'.2.1, c'.2.2) := by rw [← f5]
  rw [← hm2] at f7
  exact rq_merge f7 (by rw [f5]) (fun k hk => ⟨f6 k hk, by rw [f5]⟩)

/-! LEVEL 2: what may be undone: the class's rows against the reference's slots -/
def VE (Z Y : Nat → Nat → Int32) : Prop := (∀ j, j < 5 → Z j 0 = Y j 0) ∧ (∀ j p, 5 ≤ j → j < 12 → p < 6 → Z j p = Y j p) ∧ (∀ b, b < 8 → Z 12 b = Y 12 b)
theorem VE.refl {Y : Nat → Nat → Int32} : VE Y Y := ⟨fun _ _ => rfl, fun _ _ _ _ _ => rfl, fun _ _ => rfl⟩
theorem VE.trans {A B C : Nat → Nat → Int32} (h1 : VE A B) (h2 : VE B C) : VE A C := ⟨fun j hj => (h1.1 j hj).trans (h2.1 j hj), fun j p a b c => (h1.2.1 j p a b c).trans (h2.2.1 j p a b c), fun b hb => (h1.2.2 b hb).trans (h2.2.2 b hb)⟩
theorem VE.symm {A B : Nat → Nat → Int32} (h : VE A B) : VE B A := ⟨fun j hj => (h.1 j hj).symm, fun j p a b c => (h.2.1 j p a b c).symm, fun b hb => (h.2.2 b hb).symm⟩
theorem ve_rows {s : Nat} {I J : Nat → Nat → Int32} (h : ∀ k, 119 ≤ k → k < 132 → I k = J k) : VE (vM s I) (vM s J) := by
  refine ⟨fun j hj => ?_, fun j p j1 j2 hp => ?_, fun b hb => ?_⟩
  · show I (119 + j) _ = J (119 + j) _; rw [h _ (by omega) (by omega)]
  · show I (119 + j) _ = J (119 + j) _; rw [h _ (by omega) (by omega)]
  · show I (119 + 12) _ = J (119 + 12) _; rw [h _ (by omega) (by omega)]
/-- all that isn't scene, image, undone stays -/
theorem rq_build {P nw nb nr tp : Nat} {c m c' m' : xD} (h : RQ P nw nb nr tp c m) (e1 : c'.2.2 = c.2.2) (e2 : m'.2.2 = m.2.2) (c2 : ∀ k, (k < 45 ∨ 92 ≤ k) → k < 98 → k ≠ 0 → c'.1 k = c.1 k) (c3 : ∀ k, k ≠ 11 → c'.1 0 k = c.1 0 k) (m2 : ∀ k, 99 < k → k < 138 → (k < 119 ∨ 133 ≤ k) → m'.1 k = m.1 k) (m3 : ∀ k, k ≠ 0 → k ≠ 34 → k ≠ 48 → k ≠ 49 → k ≠ 50 → k ≠ 51 → k ≠ 52 → k ≠ 53 → k ≠ 54 → k ≠ 55 → m'.1 99 k = m.1 99 k) (m50 : m'.1 99 50 = 0) (m51 : m'.1 99 51 = -1) (m53 : m'.1 99 53 = -1) (hsn : SC nw nb nr 0 tp 0 (fun _ _ => True) True m'.1 (-1) (vC 45 c'.1) (c'.2.1 45 3) (vM 0 m'.1)) (him : (c'.1 0 11 = 0 ∧ m'.1 99 48 = 0) ∨ (c'.1 0 11 = 1 ∧ m'.1 99 48 = 1 ∧ SC nw nb nr 0 tp 0 (fun _ _ => True) True m'.1 (-1) (vC 59 c'.1) (c'.2.1 59 3) (vM 2 m'.1))) (hun : UN nw nb tp c'.1 m'.1) : RQ P nw nb nr tp c' m' := by
  have hp := pr_pl (rq_pr h)
  have hpr := isPl_le hp
  refine ⟨(rq_rc h).same e1, (rq_rm h).same e2, pr_congr (rq_pr h) (fun j hj => c2 _ (by omega) (by omega) (by omega)) (fun j j1 j2 => m2 j (by omega) (by omega) (by omega)), hsn, m50, m51, m53, him, hun, ?_, ?_, ?_, ?_⟩
  · unfold SE
    rw [c2 92 (by omega) (by omega) (by omega), c2 93 (by omega) (by omega) (by omega), c2 94 (by omega) (by omega) (by omega), c2 95 (by omega) (by omega) (by omega), c2 96 (by omega) (by omega) (by omega), c2 97 (by omega) (by omega) (by omega), m3 57 (by omega) (by omega) (by omega) (by omega) (by omega) (by omega) (by omega) (by omega) (by omega) (by omega), m3 58 (by omega) (by omega) (by omega) (by omega) (by omega) (by omega) (by omega) (by omega) (by omega) (by omega), m2 137 (by omega) (by omega) (by omega), m2 133 (by omega) (by omega) (by omega), m2 134 (by omega) (by omega) (by omega), m2 135 (by omega) (by omega) (by omega), m2 136 (by omega) (by omega) (by omega)]
    exact rq_se h
  · have z := rq_ta h
    unfold TAP at z ⊢
    rw [c3 1 (by omega), c2 1 (by omega) (by omega) (by omega), m3 2 (by omega) (by omega) (by omega) (by omega) (by omega) (by omega) (by omega) (by omega) (by omega) (by omega), m2 100 (by omega) (by omega) (by omega)]
    exact z
  · rw [c3 2 (by omega), c3 3 (by omega), m3 28 (by omega) (by omega) (by omega) (by omega) (by omega) (by omega) (by omega) (by omega) (by omega) (by omega), m3 29 (by omega) (by omega) (by omega) (by omega) (by omega) (by omega) (by omega) (by omega) (by omega) (by omega)]
    exact rq_fa h
  · rw [c2 41 (by omega) (by omega) (by omega)]; exact rq_wd h
theorem ve_uns {nw nb tp : Nat} {G G' : Nat → Nat → Int32} {w b : Int32} {Y Y' Z Z' : Nat → Nat → Int32} (hw : nw ≤ 6) (hb : nb ≤ 8) (hG : G' 103 = G 103) (h : UNs nw nb tp G w b Y Y') (a : VE Z Y) (a' : VE Z' Y') : UNs nw nb tp G' w b Z Z' := uns_congr hw hb hG h a a'
/-- SC, seen through equal views -/
theorem sc_ve {nw nb nr e tp tl : Nat} {mt : Nat → Nat → Prop} {fl : Prop} {G : Nat → Nat → Int32} {xw : Int32} {X : Nat → Nat → Int32} {nu : Int64} {Y : Nat → Nat → Int32} (hs : SC nw nb nr e tp tl mt fl G xw X nu Y) {G' X' Y' : Nat → Nat → Int32} (hw : nw ≤ 6) (hb : nb ≤ 8) (hr : nr ≤ 12) (h50 : G' 99 50 = G 99 50) (h51 : G 99 51 = -1) (h51' : G' 99 51 = -1) (e0 : e = 0) (hG : ∀ k, 101 ≤ k → k ≤ 116 → G' k = G k) (hX0 : ∀ k, (k = 0 ∨ k = 1 ∨ k = 2 ∨ k = 4 ∨ k = 14) → X' 0 k = X 0 k) (hX : ∀ j, 1 ≤ j → j < 14 → ∀ k, k < rln j → X' j k = X j k) (hY : VE Y' Y) : SC nw nb nr e tp tl mt fl G' xw X' nu Y' :=
  sc_congr hs hw hb hr h50 (fun i hi => by rw [pac_m1 (by omega) h51, pac_m1 (by omega) h51', hG 108 (by omega) (by omega)]) (fun z => by omega) hG hX0 hX hY.1 hY.2.1 hY.2.2
/-- the reference keeps what is now -/
theorem copies_ve {m : xD} {P to as : Nat} (hd : to ≠ as) (ht : to < 23) (ha : as < 23) (hRm : RefOK m P) : ∃ m', f_X10_copies shA 99 (nI to) (nI as) m = some m' ∧ m'.2.2 = m.2.2 ∧ m'.2.1 = m.2.1 ∧ (∀ k, (k < 119 ∨ 132 ≤ k) → m'.1 k = m.1 k) ∧ VE (vM to m'.1) (vM as m.1) ∧ ∀ s, s ≠ to → VE (vM s m'.1) (vM s m.1) := by
  obtain ⟨m', e, hM⟩ := e_copies hd ht ha hRm
  exact ⟨m', e, hM.1, hM.2.1, hM.2.2.1, vM_mcto hM, fun s hs => vM_mc hM hs⟩
theorem keepNow_loop {P : Nat} : ∀ n k F m, k + n = 20 → 1 ≤ k → n < F → RefOK m P → ∃ m', xloop (fun _ _ _ => none) (b_X10_keepNow_11 shA) F 99 (nI k) m = k_X10_keepNow_35 shA 99 m' ∧ m'.2.2 = m.2.2 ∧ m'.2.1 = m.2.1 ∧ (∀ k, (k < 119 ∨ 132 ≤ k) → m'.1 k = m.1 k) ∧ (∀ s, (s < 2 + k ∨ 22 ≤ s) → VE (vM s m'.1) (vM s m.1)) ∧ (∀ s, 2 + k ≤ s → s < 22 → VE (vM s m'.1) (vM (s + 1) m.1)) := by
  intro n
  induction n with
  | zero =>
    intro k F m h1 h2 h3 hR
    obtain ⟨F, rfl⟩ : ∃ G, F = G + 1 := ⟨F - 1, by omega⟩
    refine ⟨m, ?_, rfl, rfl, fun _ _ => rfl, fun _ _ => VE.refl, fun s s1 s2 => by omega⟩
    rw [loop_s, b_X10_keepNow_11, if_pos (show (20 : Int32) ≤ nI k from nI_le (a := 20) (by omega) (by omega))]
  | succ n ih =>
    intro k F m h1 h2 h3 hR
    obtain ⟨F, rfl⟩ : ∃ G, F = G + 1 := ⟨F - 1, by omega⟩
    obtain ⟨m1, e1, e2, e3, e4, e5, e6⟩ := copies_ve (to := 2 + k) (as := 3 + k) (by omega) (by omega) (by omega) hR
    obtain ⟨m2, f1, f2, f3, f4, f5, f6⟩ := ih (k + 1) F m1 (by omega) (by omega) (by omega) (hR.same e2)
    refine ⟨m2, ?_, f2.trans e2, f3.trans e3, fun j hj => (f4 j hj).trans (e4 j hj), fun s hs => (f5 s (by omega)).trans (e6 s (by omega)), fun s s1 s2 => ?_⟩
    · have a1 : ((3 : Int32) + nI k) - 1 = nI (2 + k) := by
        have z : (3 : Int32) + nI k = nI (2 + k + 1) := by rw [show 2 + k + 1 = 3 + k by omega]; exact nI_add 3 k
        rw [z]; exact nI_pred (2 + k)
      have a2 : (3 : Int32) + nI k = nI (3 + k) := nI_add 3 k
      rw [loop_s, b_X10_keepNow_11, if_neg (show ¬ (20 : Int32) ≤ nI k from nI_ge (b := 20) (by omega) (by omega)), on_of sA_99, a1, a2, e1, Option.bind_some, nI_1]
      exact f1
    · by_cases z : s = 2 + k
      · subst z
        have z1 := (f5 (2 + k) (by omega)).trans e5
        rw [show 2 + k + 1 = 3 + k by omega]; exact z1
      · exact (f6 s (by omega) s2).trans (e6 (s + 1) (by omega))
theorem e_keepNow {m : xD} {P u : Nat} (hR : RefOK m P) (hu : u ≤ 20) (h49 : m.1 99 49 = nI u) : ∃ m' u', f_X10_keepNow shA 99 m = some m' ∧ m'.2.2 = m.2.2 ∧ m'.2.1 = m.2.1 ∧ (∀ k, (k < 119 ∨ 132 ≤ k) → k ≠ 99 → m'.1 k = m.1 k) ∧ (∀ k, k ≠ 49 → m'.1 99 k = m.1 99 k) ∧ u' < 20 ∧ m'.1 99 49 = nI (u' + 1) ∧ (∀ s, s < 3 → VE (vM s m'.1) (vM s m.1)) ∧ VE (vM (3 + u') m'.1) (vM 0 m.1) ∧ ((u < 20 ∧ u' = u ∧ ∀ j, j < u → VE (vM (3 + j) m'.1) (vM (3 + j) m.1)) ∨ (u = 20 ∧ u' = 19 ∧ ∀ j, j < 19 → VE (vM (3 + j) m'.1) (vM (4 + j) m.1))) := by
  have k45 : ∀ (m1 : xD) (u' : Nat), RefOK m1 P → u' < 20 → m1.1 99 49 = nI u' → ∃ m', k_X10_keepNow_45 shA 99 m1 = some m' ∧ m'.2.2 = m1.2.2 ∧ m'.2.1 = m1.2.1 ∧ (∀ k, (k < 119 ∨ 132 ≤ k) → k ≠ 99 → m'.1 k = m1.1 k) ∧ (∀ k, k ≠ 49 → m'.1 99 k = m1.1 99 k) ∧ m'.1 99 49 = nI (u' + 1) ∧ VE (vM (3 + u') m'.1) (vM 0 m1.1) ∧ ∀ s, s ≠ 3 + u' → VE (vM s m'.1) (vM s m1.1) := by
    intro m1 u' hR1 hu' h1
    obtain ⟨m2, e1, e2, e3, e4, e5, e6⟩ := copies_ve (to := 3 + u') (as := 0) (by omega) (by omega) (by omega) hR1
    have e49 : m2.1 99 49 = nI u' := by rw [e4 99 (by omega)]; exact h1
    have vo : ∀ s, vM s (xu m2.1 99 49 (nI (u' + 1))) = vM s m2.1 := fun s => vM_off (by omega)
    refine ⟨(xu m2.1 99 49 (nI (u' + 1)), m2.2.1, m2.2.2), ?_, e2, e3, fun k k1 k2 => ?_, fun k k1 => ?_, ?_, ?_, fun s hs => ?_⟩
    · unfold k_X10_keepNow_45
      have a2 : (3 : Int32) + nI u' = nI (3 + u') := nI_add 3 u'
      rw [gI_of sA_99, Option.bind_some, h1, on_of sA_99, a2]
      rw [nI_0] at e1
      rw [e1, Option.bind_some, gI_of sA_99, Option.bind_some, e49, nI_1, pM_49]; rfl
    · dsimp only; rw [xu_off k2]; exact e4 k k1
    · dsimp only; rw [xu_at2 k1, e4 99 (by omega)]
    · dsimp only; rw [xu_at]
    · dsimp only; rw [vo]; exact e5
    · dsimp only; rw [vo]; exact e6 s hs
  unfold f_X10_keepNow
  rw [gI_of sA_99, Option.bind_some, h49]
  by_cases h20 : u = 20
  · subst h20
    rw [if_pos (show nI 20 = (20 : Int32) from rfl)]
    obtain ⟨m1, a1, a2, a3, a4, a5, a6⟩ := keepNow_loop (P := P) 19 1 xF m (by omega) (by omega) (xF_big (by omega)) hR
    have b49 : m1.1 99 49 = nI 20 := by rw [a4 99 (by omega)]; exact h49
    obtain ⟨m2, c1, c2, c3, c4, c5, c6, c7, c8⟩ := k45 (xu m1.1 99 49 (nI 19), m1.2.1, m1.2.2) 19 (hR.same a2) (by omega) (by dsimp only; rw [xu_at])
    have vo : ∀ s, vM s (xu m1.1 99 49 (nI 19)) = vM s m1.1 := fun s => vM_off (by omega)
    dsimp only at c2 c3 c4 c5 c7 c8
    refine ⟨m2, 19, ?_, c2.trans a2, c3.trans a3, fun k k1 k2 => ?_, fun k k1 => ?_, by omega, c6, fun s hs => ?_, ?_, Or.inr ⟨rfl, rfl, fun j hj => ?_⟩⟩
    · rw [show nI 1 = (1 : Int32) from rfl] at a1
      rw [a1]
      unfold k_X10_keepNow_35
      rw [gI_of sA_99, Option.bind_some, b49, show nI 20 - (1 : Int32) = nI 19 by decide, pM_49, Option.bind_some]
      exact c1
    · rw [c4 k k1 k2, xu_off k2]; exact a4 k k1
    · rw [c5 k k1, xu_at2 k1, a4 99 (by omega)]
    · have z := c8 s (by omega)
      rw [vo] at z
      exact z.trans (a5 s (by omega))
    · rw [vo] at c7; exact c7.trans (a5 0 (by omega))
    · have z := c8 (3 + j) (by omega)
      rw [vo] at z
      have z2 := a6 (3 + j) (by omega) (by omega)
      rw [show 3 + j + 1 = 4 + j by omega] at z2
      exact z.trans z2
  · rw [if_neg (show ¬ nI u = (20 : Int32) from fun z => h20 ((nI_eq (b := 20) (by omega) (by omega)).mp z))]
    obtain ⟨m2, c1, c2, c3, c4, c5, c6, c7, c8⟩ := k45 m u hR (by omega) h49
    exact ⟨m2, u, c1, c2, c3, c4, c5, by omega, c6, fun s hs => c8 s (by omega), c7, Or.inl ⟨by omega, rfl, fun j hj => c8 (3 + j) (by omega)⟩⟩
theorem pU_0 {d : xD} {v : Int32} : xpI 8 shA d 89 0 v = some (xu d.1 89 0 v, d.2.1, d.2.2) := pI_of sA_89 rfl
theorem cp1_of {d : xD} {a na : Nat} (ha : shA[a]? = some (.inr (.int, na))) (h1 : 20 ≤ na) : xcp shA d a (1 : Int32) a (0 : Int32) (19 : Int32) = some (xur d.1 a (va_cpy (d.1 a) (d.1 a) 1 0 19), d.2.1, d.2.2) := by
  have e0 : (0 : Int32).toNatClampNeg = 0 := by decide
  have e1 : (1 : Int32).toNatClampNeg = 1 := by decide
  have e2 : (19 : Int32).toNatClampNeg = 19 := by decide
  unfold xcp
  rw [len_of ha, Option.bind_some, Option.bind_some, e0, e1, e2, if_neg]
  rintro (z | z | z | z | z)
  · exact absurd z (by decide)
  · exact absurd z (by decide)
  · exact absurd z (by decide)
  · omega
  · omega
theorem e_add {c : xD} {P u : Nat} (hR : RefOK c P) (hu : u ≤ 20) (h0 : c.1 89 0 = nI u) (x1 x2 : Int32) : ∃ I' u', f_X8_add shA 89 x1 x2 c = some (I', c.2.1, c.2.2) ∧ (∀ k, k ≠ 89 → k ≠ 90 → k ≠ 91 → I' k = c.1 k) ∧ I' 89 0 = nI (u' + 1) ∧ I' 90 u' = x1 ∧ I' 91 u' = x2 ∧ ((u < 20 ∧ u' = u ∧ ∀ j, j < u → I' 90 j = c.1 90 j ∧ I' 91 j = c.1 91 j) ∨ (u = 20 ∧ u' = 19 ∧ ∀ j, j < 19 → I' 90 j = c.1 90 (j + 1) ∧ I' 91 j = c.1 91 (j + 1))) := by
  have k45 : ∀ (I : Nat → Nat → Int32) (u' : Nat), u' < 20 → I 89 0 = nI u' → k_X8_add_45 shA 89 x1 x2 (I, c.2.1, c.2.2) = some (xu (xu (xu I 90 u' x1) 91 u' x2) 89 0 (nI (u' + 1)), c.2.1, c.2.2) := by
    intro I u' hu' hI
    have hR1 : RefOK (I, c.2.1, c.2.2) P := hR.same rfl
    unfold k_X8_add_45
    simp (disch := omega) only [xgR, xgI, sA_89, rf_89_1 hR, rf_89_2 hR, ↓reduceIte, Option.bind_some, hI, sI_of sA_90, sI_of sA_91, xu_cell, nI_1, pU_0]
  unfold f_X8_add
  rw [gI_of sA_89, Option.bind_some, h0]
  by_cases h20 : u < 20
  · rw [if_pos (show nI u < (20 : Int32) from nI_lt (b := 20) h20 (by omega))]
    have e := k45 c.1 u h20 h0
    refine ⟨_, u, e, fun k k1 k2 k3 => ?_, ?_, ?_, ?_, Or.inl ⟨h20, rfl, fun j hj => ⟨?_, ?_⟩⟩⟩
    · rw [xu_off k1, xu_off k3, xu_off k2]
    · rw [xu_at]
    · rw [xu_cell (by omega), xu_cell (by omega), xu_at]
    · rw [xu_cell (by omega), xu_at]
    · rw [xu_cell (by omega), xu_cell (by omega), xu_at2 (by omega)]
    · rw [xu_cell (by omega), xu_at2 (by omega), xu_cell (by omega)]
  · have hu20 : u = 20 := by omega
    subst hu20
    rw [if_neg (show ¬ nI 20 < (20 : Int32) by decide), gR_of sA_89 (rf_89_1 hR), Option.bind_some, Option.bind_some, cp1_of sA_90 (by omega), Option.bind_some]
    have hR1 : RefOK (xur c.1 90 (va_cpy (c.1 90) (c.1 90) 1 0 19), c.2.1, c.2.2) P := hR.same rfl
    rw [gR_of sA_89 (rf_89_2 hR1), Option.bind_some, Option.bind_some, cp1_of sA_91 (by omega), Option.bind_some, pU_0, Option.bind_some]
    dsimp only
    have e := k45 (xu (xur (xur c.1 90 (va_cpy (c.1 90) (c.1 90) 1 0 19)) 91 (va_cpy (xur c.1 90 (va_cpy (c.1 90) (c.1 90) 1 0 19) 91) (xur c.1 90 (va_cpy (c.1 90) (c.1 90) 1 0 19) 91) 1 0 19)) 89 0 19) 19 (by omega) (by rw [xu_at]; rfl)
    have cpy : ∀ (f : Nat → Int32) j, j < 19 → va_cpy f f 1 0 19 j = f (j + 1) := fun f j hj => by rw [pk_cpy_in (by omega) (by omega), show 1 + (j - 0) = j + 1 by omega]
    refine ⟨_, 19, e, fun k k1 k2 k3 => ?_, ?_, ?_, ?_, Or.inr ⟨rfl, rfl, fun j hj => ⟨?_, ?_⟩⟩⟩
    · rw [xu_off k1, xu_off k3, xu_off k2, xu_off k1, xur_off k3, xur_off k2]
    · rw [xu_at]
    · rw [xu_cell (by omega), xu_cell (by omega), xu_at]
    · rw [xu_cell (by omega), xu_at]
    · rw [xu_cell (by omega), xu_cell (by omega), xu_at2 (by omega), xu_cell (by omega), xur_off (by omega), xur_at]; exact cpy _ j hj
    · rw [xu_cell (by omega), xu_at2 (by omega), xu_cell (by omega), xu_cell (by omega), xur_at, xur_off (by omega)]; exact cpy _ j hj
/-- a step more that may be undone -/
theorem un_push {nw nb tp : Nat} {I J I' J1 J' : Nat → Nat → Int32} {u u' : Nat} {x1 x2 : Int32} (hw : nw ≤ 6) (hb : nb ≤ 8) (hu : u ≤ 20) (hun : ∀ k, k < u → UNs nw nb tp J (I 90 k) (I 91 k) (vM (3 + k) J) (vM (if k + 1 = u then 0 else 4 + k) J)) (hI : I' 89 0 = nI (u' + 1)) (hI1 : I' 90 u' = x1) (hI2 : I' 91 u' = x2) (hIs : (u < 20 ∧ u' = u ∧ ∀ j, j < u → I' 90 j = I 90 j ∧ I' 91 j = I 91 j) ∨ (u = 20 ∧ u' = 19 ∧ ∀ j, j < 19 → I' 90 j = I 90 (j + 1) ∧ I' 91 j = I 91 (j + 1))) (hJ49 : J' 99 49 = nI (u' + 1)) (hG : J' 103 = J 103) (hJ0 : VE (vM (3 + u') J1) (vM 0 J)) (hJs : (u < 20 ∧ u' = u ∧ ∀ j, j < u → VE (vM (3 + j) J1) (vM (3 + j) J)) ∨ (u = 20 ∧ u' = 19 ∧ ∀ j, j < 19 → VE (vM (3 + j) J1) (vM (4 + j) J))) (hJ1 : ∀ s, 3 ≤ s → VE (vM s J') (vM s J1)) (hnew : UNs nw nb tp J x1 x2 (vM 0 J) (vM 0 J')) : UN nw nb tp I' J' := by
  have hu' : u' < 20 := by rcases hIs with ⟨a, b, _⟩ | ⟨a, b, _⟩ <;> omega
  refine ⟨u' + 1, by omega, hI, hJ49, fun k hk => ?_⟩
  by_cases z : k = u'
  · subst z
    rw [hI1, hI2, if_pos rfl]
    exact ve_uns hw hb hG hnew ((hJ1 _ (by omega)).trans hJ0) VE.refl
  · rw [if_neg (by omega)]
    rcases hIs with ⟨a1, a2, a3⟩ | ⟨a1, a2, a3⟩
    · rcases hJs with ⟨b1, b2, b3⟩ | ⟨b1, _, _⟩
      · subst a2
        obtain ⟨r1, r2⟩ := a3 k (by omega)
        rw [r1, r2]
        refine ve_uns hw hb hG (hun k (by omega)) ((hJ1 _ (by omega)).trans (b3 k (by omega))) ?_
        by_cases y : k + 1 = u'
        · rw [if_pos y, show 4 + k = 3 + u' by omega]
          exact (hJ1 _ (by omega)).trans hJ0
        · rw [if_neg y, show 4 + k = 3 + (k + 1) by omega]
          exact (hJ1 _ (by omega)).trans (b3 (k + 1) (by omega))
      · omega
    · rcases hJs with ⟨b1, _, _⟩ | ⟨b1, b2, b3⟩
      · omega
      · subst a2
        obtain ⟨r1, r2⟩ := a3 k (by omega)
        rw [r1, r2]
        have z1 := hun (k + 1) (by omega)
        rw [show 3 + (k + 1) = 4 + k by omega] at z1
        refine ve_uns hw hb hG z1 ((hJ1 _ (by omega)).trans (b3 k (by omega))) ?_
        by_cases y : k + 1 + 1 = u
        · rw [if_pos y, show 4 + k = 3 + 19 by omega]
          exact (hJ1 _ (by omega)).trans hJ0
        · rw [if_neg y, show 4 + (k + 1) = 4 + k + 1 by omega]
          have z2 := b3 (k + 1) (by omega)
          rw [show 3 + (k + 1) = 4 + k by omega, show 4 + (k + 1) = 4 + k + 1 by omega] at z2
          exact (hJ1 _ (by omega)).trans z2

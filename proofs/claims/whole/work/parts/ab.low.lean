/-! LEVEL 2: text. What a plan and a scene hold by the lower halves alone -/
theorem lw_move {X h : Nat} {I J I' J' : Nat → Nat → Int32} {k : Nat} (hk : k < 3) (hI : ∀ j, j < 18 → I' (X + j) = I (X + j)) (m3 : ∀ q i, 113 ≤ q → q ≤ 114 → i < 3 → J' q i = J q (3 * h + i)) (m64 : ∀ q i, 115 ≤ q → q ≤ 116 → i < 64 → J' q i = J q (64 * h + i)) (z : LW X h I J k) : LW X 0 I' J' k := by
  unfold LW at z ⊢
  rw [hI 13 (by omega), hI 14 (by omega), hI 15 (by omega), hI 16 (by omega), hI 17 (by omega), show 3 * 0 + k = k by omega, m3 113 k (by omega) (by omega) hk, m3 114 k (by omega) (by omega) hk]
  rcases z with z | ⟨z1, a, b, z2, z3, z4, z5, z6, z7, z8, z9⟩
  · exact Or.inl z
  · refine Or.inr ⟨z1, a, b, z2, z3, z4, z5, z6, z7, fun i i1 i2 => ?_, ?_⟩
    · rw [show 64 * 0 + i = i by omega, m64 115 i (by omega) (by omega) (by omega), m64 116 i (by omega) (by omega) (by omega)]; exact z8 i i1 i2
    · refine post_congr (b - a) a 0 (fun j j1 j2 => ?_) z9
      rw [show 64 * 0 + j = j by omega, m64 115 j (by omega) (by omega) (by omega), m64 116 j (by omega) (by omega) (by omega)]; exact ⟨rfl, rfl⟩
theorem pr_move {X h nw nb nr tp : Nat} {I J I' J' : Nat → Nat → Int32} (hh : PR X h nw nb nr tp I J) (hI : ∀ j, j < 18 → I' (X + j) = I (X + j)) (m8 : ∀ q i, 101 ≤ q → q ≤ 104 → i < 8 → J' q i = J q (8 * h + i)) (m6 : ∀ q i, 105 ≤ q → q ≤ 109 → i < 6 → J' q i = J q (6 * h + i)) (m12 : ∀ q i, 110 ≤ q → q ≤ 112 → i < 12 → J' q i = J q (12 * h + i)) (m3 : ∀ q i, 113 ≤ q → q ≤ 114 → i < 3 → J' q i = J q (3 * h + i)) (m64 : ∀ q i, 115 ≤ q → q ≤ 116 → i < 64 → J' q i = J q (64 * h + i)) : PR X 0 nw nb nr tp I' J' := by
  have hI0 : I' X = I X := hI 0 (by omega)
  have w6 := pr_w6 hh; have b8 := pr_b8 hh; have r12 := pr_r12 hh
  have n8 : ∀ k, k < 8 → J' 101 (8 * 0 + k) = J 101 (8 * h + k) := fun k hk => by rw [show 8 * 0 + k = k by omega]; exact m8 101 k (by omega) (by omega) hk
  have e102 : ∀ i, i < nb → J' 102 (8 * 0 + i) = J 102 (8 * h + i) := fun i hi => by rw [show 8 * 0 + i = i by omega]; exact m8 102 i (by omega) (by omega) (by omega)
  have e103 : ∀ i, i < nb → J' 103 (8 * 0 + i) = J 103 (8 * h + i) := fun i hi => by rw [show 8 * 0 + i = i by omega]; exact m8 103 i (by omega) (by omega) (by omega)
  have e104 : ∀ i, i < nb → J' 104 (8 * 0 + i) = J 104 (8 * h + i) := fun i hi => by rw [show 8 * 0 + i = i by omega]; exact m8 104 i (by omega) (by omega) (by omega)
  have e6 : ∀ q i, 105 ≤ q → q ≤ 109 → i < nw → J' q (6 * 0 + i) = J q (6 * h + i) := fun q i q1 q2 hi => by rw [show 6 * 0 + i = i by omega]; exact m6 q i q1 q2 (by omega)
  have e12 : ∀ q i, 110 ≤ q → q ≤ 112 → i < nr → J' q (12 * 0 + i) = J q (12 * h + i) := fun q i q1 q2 hi => by rw [show 12 * 0 + i = i by omega]; exact m12 q i q1 q2 (by omega)
  refine ⟨pr_pl hh, w6, b8, r12, pr_t2 hh, pr_t60 hh, ?_, ?_, ?_, ?_, (n8 0 (by omega)).trans (pr_mT hh), (n8 1 (by omega)).trans (pr_mB hh), (n8 2 (by omega)).trans (pr_mW hh), (n8 3 (by omega)).trans (pr_mR hh), ?_, ?_, ?_, ?_, fun i hi => ?_, fun i hi => ?_, fun i hi => ?_, fun i j hi hj => ?_, fun i hi => ?_, fun k hk => ?_, fun i hi => ?_, fun i hi => ?_, fun i hi => ?_, fun i hi => ?_, fun i hi => ?_, fun i hi => ?_, fun i hi => ?_, fun k hk => lw_move hk hI m3 m64 (pr_lw hh k hk)⟩
  · rw [hI0]; exact pr_cT hh
  · rw [hI0]; exact pr_cB hh
  · rw [hI0]; exact pr_cW hh
  · rw [hI0]; exact pr_cR hh
  · rw [hI0, n8 4 (by omega)]; exact pr_pi hh
  · rw [hI0, n8 5 (by omega)]; exact pr_ca hh
  · rw [hI0, n8 6 (by omega)]; exact pr_se hh
  · rw [hI 13 (by omega), n8 7 (by omega)]; exact pr_kn hh
  · rw [hI 1 (by omega), e102 i hi]; exact pr_bn hh i hi
  · rw [hI 2 (by omega), e103 i hi]; exact pr_bs hh i hi
  · rw [e103 i hi]; exact pr_br hh i hi
  · rw [e103 i hi, e103 j hj]; exact pr_bd hh i j hi hj
  · rw [hI 3 (by omega), e104 i hi]; exact pr_bc hh i hi
  · rw [hI 4 (by omega), pr_ba hh k hk]; exact findI_congr nb 0 (fun j _ hj => (e103 j (by omega)).symm)
  · rw [hI 5 (by omega), e6 105 i (by omega) (by omega) hi]; exact pr_wn hh i hi
  · rw [hI 6 (by omega), e6 106 i (by omega) (by omega) hi]; exact pr_ws hh i hi
  · rw [hI 7 (by omega), e6 107 i (by omega) (by omega) hi]; exact pr_wd hh i hi
  · rw [hI 8 (by omega), e6 108 i (by omega) (by omega) hi]; exact pr_wp hh i hi
  · rw [hI 9 (by omega), e6 109 i (by omega) (by omega) hi]; exact pr_wm hh i hi
  · rw [hI 10 (by omega), hI 11 (by omega), hI 12 (by omega), e12 110 i (by omega) (by omega) hi, e12 111 i (by omega) (by omega) hi, e12 112 i (by omega) (by omega) hi]; exact pr_rr hh i hi
  · rw [e12 112 i (by omega) (by omega) hi]; exact pr_rm hh i hi
theorem sc_low {nw nb nr e tp tl : Nat} {mt : Nat → Nat → Prop} {fl : Prop} {G : Nat → Nat → Int32} {xw : Int32} {X : Nat → Nat → Int32} {nu : Int64} {Y : Nat → Nat → Int32} (hs : SC nw nb nr e tp tl mt fl G xw X nu Y) {G' : Nat → Nat → Int32} (he : e = 0) (hw : nw ≤ 6) (hb : nb ≤ 8) (hr : nr ≤ 12) (h50 : G' 99 50 = G 99 50) (h51 : G 99 51 = -1) (h51' : G' 99 51 = -1) (m8 : ∀ q i, 101 ≤ q → q ≤ 104 → i < 8 → G' q i = G q i) (m6 : ∀ q i, 105 ≤ q → q ≤ 109 → i < 6 → G' q i = G q i) (m12 : ∀ q i, 110 ≤ q → q ≤ 112 → i < 12 → G' q i = G q i) : SC nw nb nr e tp tl mt fl G' xw X nu Y := by
  subst he
  refine ⟨(sc_mi hs :), (sc_ta hs :), (sc_pi hs :), (sc_nu hs :), (sc_cw hs :), (sc_st hs :), (sc_sp hs :), (sc_dn hs :), ?_, (sc_lf hs :), (sc_la hs :), (sc_sa hs :), (sc_me hs :), ?_, (sc_wo hs :), ?_, (sc_sn hs :), (sc_e1 hs :), (sc_rc hs :), ?_, ?_, (sc_rz hs :), (sc_x0 hs :), ?_⟩
  · intro i hi; rw [pac_m1 (by omega) h51', m6 108 i (by omega) (by omega) (by omega), ← pac_m1 (G := G) (by omega) h51]; exact sc_pa hs i hi
  · intro b hb'; rw [h50, m8 104 b (by omega) (by omega) (by omega)]; exact sc_se hs b hb'
  · intro i hi h2
    obtain ⟨b, b1, b2, b3⟩ := sc_so hs i hi h2
    exact ⟨b, b1, b2, by rw [m8 103 b (by omega) (by omega) (by omega)]; exact b3⟩
  · intro r hr'; rw [m12 110 r (by omega) (by omega) (by omega), m12 111 r (by omega) (by omega) (by omega), m12 112 r (by omega) (by omega) (by omega)]; exact sc_rr hs r hr'
  · intro r hr'; rw [h50]; exact sc_rt hs r hr'
  · intro z; omega
theorem uns_low {nw nb tp : Nat} {G G' : Nat → Nat → Int32} {w b : Int32} {Y Y' : Nat → Nat → Int32} (hb : nb ≤ 8) (m8 : ∀ q i, 101 ≤ q → q ≤ 104 → i < 8 → G' q i = G q i) (h : UNs nw nb tp G w b Y Y') : UNs nw nb tp G' w b Y Y' := by
  obtain ⟨u1, u7⟩ := h
  refine ⟨u1, ?_⟩
  rcases u7 with u | ⟨p, v1, v2, v3, v4, v5⟩
  · exact Or.inl u
  · refine Or.inr ⟨p, v1, v2, v3, v4, ?_⟩
    rcases v5 with v5 | ⟨a, y1, y2, y3, y4, y5, b', y6, y7, y8⟩
    · exact Or.inl v5
    · exact Or.inr ⟨a, y1, y2, y3, y4, y5, b', y6, y7, by rw [m8 103 b' (by omega) (by omega) (by omega)]; exact y8⟩
theorem rq_low {P nw nb nr tp : Nat} {c m c' m' : xD} (h : RQ P nw nb nr tp c m) (hc : RefOK c' P) (hm : RefOK m' P) (eL : c'.2.1 = c.2.1) (cR : ∀ k, k ≠ 0 → k ≠ 40 → k ≠ 42 → k ≠ 43 → k ≠ 44 → (k < 23 - P ∨ 23 - P + 18 ≤ k) → c'.1 k = c.1 k) (c11 : c'.1 0 11 = c.1 0 11) (mR : ∀ k, k ≠ 99 → k ≠ 100 → (k < 101 ∨ 116 < k) → m'.1 k = m.1 k) (m9 : ∀ k, 31 < k → m'.1 99 k = m.1 99 k) (m8 : ∀ q i, 101 ≤ q → q ≤ 104 → i < 8 → m'.1 q i = m.1 q i) (m6 : ∀ q i, 105 ≤ q → q ≤ 109 → i < 6 → m'.1 q i = m.1 q i) (m12 : ∀ q i, 110 ≤ q → q ≤ 112 → i < 12 → m'.1 q i = m.1 q i) (m3 : ∀ q i, 113 ≤ q → q ≤ 114 → i < 3 → m'.1 q i = m.1 q i) (m64 : ∀ q i, 115 ≤ q → q ≤ 116 → i < 64 → m'.1 q i = m.1 q i) (hta : TAP c'.1 m'.1) (hfa : c'.1 0 2 = m'.1 99 28 ∧ c'.1 0 3 = m'.1 99 29) : RQ P nw nb nr tp c' m' := by
  have hp := pr_pl (rq_pr h)
  have hpl : P = 2 ∨ P = 21 := hp
  have hw6 := pr_w6 (rq_pr h); have hb8 := pr_b8 (rq_pr h); have hr12 := pr_r12 (rq_pr h)
  have v : ∀ s j, j < 13 → vM s m'.1 j = vM s m.1 j := fun s j hj => by
    funext p
    show m'.1 (119 + j) _ = m.1 (119 + j) _
    rw [mR (119 + j) (by omega) (by omega) (by omega)]
  have g51 : m'.1 99 51 = -1 := (m9 51 (by omega)).trans (rq_po h)
  have scx : ∀ q s, (q = 45 ∨ q = 59) → SC nw nb nr 0 tp 0 (fun _ _ => True) True m.1 (-1) (vC q c.1) (c.2.1 q 3) (vM s m.1) → SC nw nb nr 0 tp 0 (fun _ _ => True) True m'.1 (-1) (vC q c'.1) (c'.2.1 q 3) (vM s m'.1) := by
    intro q s hq hs
    have hs' := sc_low hs rfl hw6 hb8 hr12 (m9 50 (by omega)) (rq_po h) g51 m8 m6 m12
    rw [eL]
    refine sc_congr hs' hw6 hb8 hr12 rfl (fun _ _ => rfl) (fun z => by omega) (fun _ _ _ => rfl) (fun k hk => ?_) (fun j j1 j2 k hk => ?_) (fun j hj => by rw [v s j (by omega)]) (fun j p j1 j2 _ => by rw [v s j (by omega)]) (fun b _ => by rw [v s 12 (by omega)])
    · show c'.1 q k = c.1 q k; rw [cR q (by omega) (by omega) (by omega) (by omega) (by omega) (by omega)]
    · show c'.1 (q + j) k = c.1 (q + j) k; rw [cR (q + j) (by omega) (by omega) (by omega) (by omega) (by omega) (by omega)]
  refine ⟨hc, hm, pr_move (h := 0) (rq_pr h) (fun j hj => cR _ (by omega) (by omega) (by omega) (by omega) (by omega) (by omega)) (fun q i q1 q2 hi => by rw [Nat.mul_zero, Nat.zero_add]; exact m8 q i q1 q2 hi) (fun q i q1 q2 hi => by rw [Nat.mul_zero, Nat.zero_add]; exact m6 q i q1 q2 hi) (fun q i q1 q2 hi => by rw [Nat.mul_zero, Nat.zero_add]; exact m12 q i q1 q2 hi) (fun q i q1 q2 hi => by rw [Nat.mul_zero, Nat.zero_add]; exact m3 q i q1 q2 hi) (fun q i q1 q2 hi => by rw [Nat.mul_zero, Nat.zero_add]; exact m64 q i q1 q2 hi), scx 45 0 (Or.inl rfl) (rq_sn h), (m9 50 (by omega)).trans (rq_tw h), g51, (m9 53 (by omega)).trans (rq_ew h), ?_, ?_, ?_, hta, hfa, ?_⟩
  · rw [c11, m9 48 (by omega)]
    rcases rq_im h with z | ⟨z1, z2, z3⟩
    · exact Or.inl z
    · exact Or.inr ⟨z1, z2, scx 59 2 (Or.inr rfl) z3⟩
  · obtain ⟨u, u1, u2, u3, u4⟩ := rq_un h
    refine ⟨u, u1, ?_, ?_, fun k hk => ?_⟩
    · rw [cR 89 (by omega) (by omega) (by omega) (by omega) (by omega) (by omega)]; exact u2
    · rw [m9 49 (by omega)]; exact u3
    · rw [cR 90 (by omega) (by omega) (by omega) (by omega) (by omega) (by omega), cR 91 (by omega) (by omega) (by omega) (by omega) (by omega) (by omega)]
      have z := uns_low hb8 m8 (u4 k hk)
      refine uns_congr hw6 hb8 rfl z ⟨fun j hj => by rw [v _ j (by omega)], fun j p j1 j2 _ => by rw [v _ j (by omega)], fun b _ => by rw [v _ 12 (by omega)]⟩ ⟨fun j hj => by rw [v _ j (by omega)], fun j p j1 j2 _ => by rw [v _ j (by omega)], fun b _ => by rw [v _ 12 (by omega)]⟩
  · have z := rq_se h
    unfold SE at z ⊢
    rw [cR 92 (by omega) (by omega) (by omega) (by omega) (by omega) (by omega), cR 93 (by omega) (by omega) (by omega) (by omega) (by omega) (by omega), cR 94 (by omega) (by omega) (by omega) (by omega) (by omega) (by omega), cR 95 (by omega) (by omega) (by omega) (by omega) (by omega) (by omega), cR 96 (by omega) (by omega) (by omega) (by omega) (by omega) (by omega), cR 97 (by omega) (by omega) (by omega) (by omega) (by omega) (by omega), m9 57 (by omega), m9 58 (by omega), mR 133 (by omega) (by omega) (by omega), mR 134 (by omega) (by omega) (by omega), mR 135 (by omega) (by omega) (by omega), mR 136 (by omega) (by omega) (by omega), mR 137 (by omega) (by omega) (by omega)]
    exact z
  · rw [cR 41 (by omega) (by omega) (by omega) (by omega) (by omega) (by omega)]; exact rq_wd h

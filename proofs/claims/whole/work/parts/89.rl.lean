/-! LEVEL 2: the relation of the whole heap, call by call -/
theorem sc_congr {nw nb nr e tp tl : Nat} {mt : Nat → Nat → Prop} {fl : Prop} {G : Nat → Nat → Int32} {xw : Int32} {X : Nat → Nat → Int32} {nu : Int64} {Y : Nat → Nat → Int32} (hs : SC nw nb nr e tp tl mt fl G xw X nu Y) {G' X' Y' : Nat → Nat → Int32} (hw : nw ≤ 6) (hb : nb ≤ 8) (hr : nr ≤ 12) (h50 : G' 99 50 = G 99 50) (hpa : ∀ i, i < nw → (if nI i = G' 99 51 then G' 99 52 else G' 108 i) = (if nI i = G 99 51 then G 99 52 else G 108 i)) (hx : e = 1 → G' 99 54 = G 99 54 ∧ G' 99 55 = G 99 55) (hG : ∀ k, 101 ≤ k → k ≤ 116 → G' k = G k) (hX0 : ∀ k, (k = 0 ∨ k = 1 ∨ k = 2 ∨ k = 4 ∨ k = 14) → X' 0 k = X 0 k) (hX : ∀ j, 1 ≤ j → j < 14 → ∀ k, k < rln j → X' j k = X j k) (hY0 : ∀ j, j < 5 → Y' j 0 = Y j 0) (hY1 : ∀ j p, 5 ≤ j → j < 12 → p < 6 → Y' j p = Y j p) (hY2 : ∀ b, b < 8 → Y' 12 b = Y 12 b) : SC nw nb nr e tp tl mt fl G' xw X' nu Y' := by
  have r6 : ∀ j, 1 ≤ j → j < 8 → ∀ i, i < nw → X' j i = X j i := fun j j1 j2 i hi => hX j j1 (by omega) i (by unfold rln; rw [if_pos j2]; omega)
  have r8 : ∀ j, 8 ≤ j → j < 10 → ∀ i, i < nb → X' j i = X j i := fun j j1 j2 i hi => hX j (by omega) (by omega) i (by unfold rln; rw [if_neg (by omega), if_pos j2]; omega)
  have r13 : ∀ j, 10 ≤ j → j < 14 → ∀ i, i ≤ nr → X' j i = X j i := fun j j1 j2 i hi => hX j (by omega) (by omega) i (by unfold rln; rw [if_neg (by omega), if_neg (by omega)]; omega)
  have y6 : ∀ j, 5 ≤ j → j < 12 → ∀ i, i < nw → Y' j i = Y j i := fun j j1 j2 i hi => hY1 j i j1 j2 (by omega)
  refine ⟨?_, ?_, ?_, ?_, ?_, ?_, ?_, ?_, ?_, ?_, ?_, ?_, ?_, ?_, ?_, ?_, ?_, ?_, ?_, ?_, ?_, ?_, ?_, ?_⟩
  · rw [hX0 0 (by omega), hY0 0 (by omega)]; exact sc_mi hs
  · rw [hX0 1 (by omega), hY0 2 (by omega)]; exact sc_ta hs
  · rw [hX0 2 (by omega), hY0 3 (by omega)]; exact sc_pi hs
  · rw [hY0 1 (by omega)]; exact sc_nu hs
  · rw [hX0 4 (by omega)]; exact sc_cw hs
  · intro i hi; rw [r6 1 (by omega) (by omega) i hi, y6 5 (by omega) (by omega) i hi]; exact sc_st hs i hi
  · intro i hi; rw [r6 2 (by omega) (by omega) i hi, y6 6 (by omega) (by omega) i hi]; exact sc_sp hs i hi
  · intro i hi; rw [r6 3 (by omega) (by omega) i hi, y6 7 (by omega) (by omega) i hi]; exact sc_dn hs i hi
  · intro i hi; rw [r6 4 (by omega) (by omega) i hi, hpa i hi]; exact sc_pa hs i hi
  · intro i hi; rw [y6 5 (by omega) (by omega) i hi, r6 5 (by omega) (by omega) i hi, y6 9 (by omega) (by omega) i hi]; exact sc_lf hs i hi
  · intro f i hi; rw [y6 5 (by omega) (by omega) i hi, r6 5 (by omega) (by omega) i hi, y6 9 (by omega) (by omega) i hi]; exact sc_la hs f i hi
  · intro i hi; rw [r6 6 (by omega) (by omega) i hi, y6 10 (by omega) (by omega) i hi]; exact sc_sa hs i hi
  · intro i hi; rw [r6 7 (by omega) (by omega) i hi, y6 11 (by omega) (by omega) i hi]; exact sc_me hs i hi
  · intro b hb'; rw [r8 8 (by omega) (by omega) b hb', h50, hG 104 (by omega) (by omega)]; exact sc_se hs b hb'
  · intro b hb'; rw [r8 9 (by omega) (by omega) b hb', hY2 b (by omega)]; exact sc_wo hs b hb'
  · intro i hi; rw [y6 5 (by omega) (by omega) i hi, y6 8 (by omega) (by omega) i hi, y6 6 (by omega) (by omega) i hi, hG 103 (by omega) (by omega)]; exact sc_so hs i hi
  · intro i hi; rw [y6 5 (by omega) (by omega) i hi, y6 8 (by omega) (by omega) i hi]; exact sc_sn hs i hi
  · exact sc_e1 hs
  · rw [hX0 14 (by omega)]; exact sc_rc hs
  · intro r hr'; rw [r13 10 (by omega) (by omega) r (by omega), r13 11 (by omega) (by omega) r (by omega), r13 12 (by omega) (by omega) r (by omega), hG 110 (by omega) (by omega), hG 111 (by omega) (by omega), hG 112 (by omega) (by omega)]; exact sc_rr hs r hr'
  · intro r hr'; rw [r13 13 (by omega) (by omega) r (by omega), h50, hY0 4 (by omega)]; exact sc_rt hs r hr'
  · rw [hY0 4 (by omega)]; exact sc_rz hs
  · exact sc_x0 hs
  · intro h1; rw [r13 10 (by omega) (by omega) nr (by omega), r13 11 (by omega) (by omega) nr (by omega), r13 12 (by omega) (by omega) nr (by omega), r13 13 (by omega) (by omega) nr (by omega), (hx h1).1, (hx h1).2]; exact sc_x1 hs h1
theorem lw_congr {P h : Nat} {I J I' J' : Nat → Nat → Int32} {k : Nat} (hI : ∀ j, j < 18 → I' (P + j) = I (P + j)) (hJ : ∀ j, 101 ≤ j → j ≤ 116 → J' j = J j) : LW P h I' J' k = LW P h I J k := by
  unfold LW
  rw [hI 13 (by omega), hI 14 (by omega), hI 15 (by omega), hI 16 (by omega), hI 17 (by omega), hJ 113 (by omega) (by omega), hJ 114 (by omega) (by omega), hJ 115 (by omega) (by omega), hJ 116 (by omega) (by omega)]
theorem pr_congr {P h nw nb nr tp : Nat} {I J I' J' : Nat → Nat → Int32} (hh : PR P h nw nb nr tp I J) (hI : ∀ j, j < 18 → I' (P + j) = I (P + j)) (hJ : ∀ j, 101 ≤ j → j ≤ 116 → J' j = J j) : PR P h nw nb nr tp I' J' := by
  have hI0 : I' P = I P := hI 0 (by omega)
  unfold PR at hh ⊢
  simp only [lw_congr (P := P) (h := h) hI hJ]
  rw [hI0, hI 1 (by omega), hI 2 (by omega), hI 3 (by omega), hI 4 (by omega), hI 5 (by omega), hI 6 (by omega), hI 7 (by omega), hI 8 (by omega), hI 9 (by omega), hI 10 (by omega), hI 11 (by omega), hI 12 (by omega), hI 13 (by omega), hJ 101 (by omega) (by omega), hJ 102 (by omega) (by omega), hJ 103 (by omega) (by omega), hJ 104 (by omega) (by omega), hJ 105 (by omega) (by omega), hJ 106 (by omega) (by omega), hJ 107 (by omega) (by omega), hJ 108 (by omega) (by omega), hJ 109 (by omega) (by omega), hJ 110 (by omega) (by omega), hJ 111 (by omega) (by omega), hJ 112 (by omega) (by omega)]
  exact hh
/-- one step that may be undone: Y before it, Y' behind it -/
def UNs (nw nb tp : Nat) (G : Nat → Nat → Int32) (who bef : Int32) (Y Y' : Nat → Nat → Int32) : Prop := (Y 0 0 = Y' 0 0 ∧ Y 1 0 = Y' 1 0 ∧ Y 2 0 = Y' 2 0 ∧ Y 4 0 = Y' 4 0 ∧ (∀ i, i < nw → Y 6 i = Y' 6 i ∧ Y 7 i = Y' 7 i ∧ Y 10 i = Y' 10 i ∧ Y 11 i = Y' 11 i) ∧ (∀ b, b < nb → Y 12 b = Y' 12 b)) ∧ ((who = -1 ∧ (∃ a, a < tp ∧ a ≠ 0 ∧ Y 3 0 = nI a ∧ bef = nI a) ∧ ∀ i, i < nw → Y 5 i = Y' 5 i ∧ Y 8 i = Y' 8 i ∧ Y 9 i = Y' 9 i) ∨ (∃ p, p < nw ∧ who = nI p ∧ Y 3 0 = Y' 3 0 ∧ (∀ i, i < nw → i ≠ p → Y 5 i = Y' 5 i ∧ Y 8 i = Y' 8 i ∧ Y 9 i = Y' 9 i) ∧ ((bef = 0 ∧ Y 5 p = 1 ∧ Y 8 p = -1 ∧ Y 9 p = 0) ∨ (∃ a, 1 ≤ a ∧ a ≤ 30 ∧ bef = nI a ∧ Y 5 p = 2 ∧ Y 9 p = nI a ∧ ∃ b, b < nb ∧ Y 8 p = nI b ∧ G 103 b = Y' 6 p))))
def UN (nw nb tp : Nat) (I J : Nat → Nat → Int32) : Prop := ∃ u, u ≤ 20 ∧ I 89 0 = nI u ∧ J 99 49 = nI u ∧ ∀ k, k < u → UNs nw nb tp J (I 90 k) (I 91 k) (vM (3 + k) J) (vM (if k + 1 = u then 0 else 4 + k) J)
def SE (nb : Nat) (I J : Nat → Nat → Int32) : Prop := ∃ n, n ≤ 24 ∧ I 92 0 = nI n ∧ J 99 57 = nI n ∧ I 92 1 = J 99 58 ∧ (J 99 58 = -1 ∨ ∃ k, k ≤ n ∧ J 99 58 = nI k) ∧ ∀ i, i < n → I 93 i = J 137 i ∧ ((J 137 i = -1 ∧ (∃ a, 1 ≤ a ∧ a ≤ 60 ∧ I 94 i = nI a ∧ J 133 i = nI a) ∧ (∃ b, b < nb ∧ I 95 i = nI b ∧ J 134 i = nI b) ∧ I 96 i = J 135 i ∧ I 97 i = J 136 i ∧ (J 136 i = 0 ∨ J 136 i = 1)) ∨ (∃ j, j < i ∧ J 137 i = nI j))
def sgn (a : Nat) : Int32 := if a < 128 then nI a else nI a - 256
def TAP (I J : Nat → Nat → Int32) : Prop := ∃ t, t ≤ 700 ∧ I 0 1 = nI t ∧ J 99 2 = nI t ∧ ∀ i, i < t → ∃ a, a < 256 ∧ J 100 i = nI a ∧ I 1 i = sgn a
def wdl : List Int32 := [658548288, 72813824, 773205170, 609865728, 546355680, 102117376, 642945024, 404455424, 647646208, 672541696, 777046016, 522190848, 48365568, 486146048, 538022912, 721420288, 658685952, 788084736, 223752192, 639238144, 446125701]
def RQ (P nw nb nr tp : Nat) (c m : xD) : Prop := (RefOK c P) ∧ (RefOK m P) ∧ (PR P 0 nw nb nr tp c.1 m.1) ∧ (SC nw nb nr 0 tp 0 (fun _ _ => True) True m.1 (-1) (vC 45 c.1) (c.2.1 45 3) (vM 0 m.1)) ∧ (m.1 99 50 = 0) ∧ (m.1 99 51 = -1) ∧ (m.1 99 53 = -1) ∧ ((c.1 0 11 = 0 ∧ m.1 99 48 = 0) ∨ (c.1 0 11 = 1 ∧ m.1 99 48 = 1 ∧ SC nw nb nr 0 tp 0 (fun _ _ => True) True m.1 (-1) (vC 59 c.1) (c.2.1 59 3) (vM 2 m.1))) ∧ (UN nw nb tp c.1 m.1) ∧ (SE nb c.1 m.1) ∧ (TAP c.1 m.1) ∧ (c.1 0 2 = m.1 99 28 ∧ c.1 0 3 = m.1 99 29) ∧ (∀ i, i < 21 → c.1 41 i = wdl.getD i 0)
theorem rq_rc {P nw nb nr tp : Nat} {c m : xD} (hh : RQ P nw nb nr tp c m) : RefOK c P := hh.1
theorem rq_rm {P nw nb nr tp : Nat} {c m : xD} (hh : RQ P nw nb nr tp c m) : RefOK m P := hh.2.1
theorem rq_pr {P nw nb nr tp : Nat} {c m : xD} (hh : RQ P nw nb nr tp c m) : PR P 0 nw nb nr tp c.1 m.1 := hh.2.2.1
theorem rq_sn {P nw nb nr tp : Nat} {c m : xD} (hh : RQ P nw nb nr tp c m) : SC nw nb nr 0 tp 0 (fun _ _ => True) True m.1 (-1) (vC 45 c.1) (c.2.1 45 3) (vM 0 m.1) := hh.2.2.2.1
theorem rq_tw {P nw nb nr tp : Nat} {c m : xD} (hh : RQ P nw nb nr tp c m) : m.1 99 50 = 0 := hh.2.2.2.2.1
theorem rq_po {P nw nb nr tp : Nat} {c m : xD} (hh : RQ P nw nb nr tp c m) : m.1 99 51 = -1 := hh.2.2.2.2.2.1
theorem rq_ew {P nw nb nr tp : Nat} {c m : xD} (hh : RQ P nw nb nr tp c m) : m.1 99 53 = -1 := hh.2.2.2.2.2.2.1
theorem rq_im {P nw nb nr tp : Nat} {c m : xD} (hh : RQ P nw nb nr tp c m) : (c.1 0 11 = 0 ∧ m.1 99 48 = 0) ∨ (c.1 0 11 = 1 ∧ m.1 99 48 = 1 ∧ SC nw nb nr 0 tp 0 (fun _ _ => True) True m.1 (-1) (vC 59 c.1) (c.2.1 59 3) (vM 2 m.1)) := hh.2.2.2.2.2.2.2.1
theorem rq_un {P nw nb nr tp : Nat} {c m : xD} (hh : RQ P nw nb nr tp c m) : UN nw nb tp c.1 m.1 := hh.2.2.2.2.2.2.2.2.1
theorem rq_se {P nw nb nr tp : Nat} {c m : xD} (hh : RQ P nw nb nr tp c m) : SE nb c.1 m.1 := hh.2.2.2.2.2.2.2.2.2.1
theorem rq_ta {P nw nb nr tp : Nat} {c m : xD} (hh : RQ P nw nb nr tp c m) : TAP c.1 m.1 := hh.2.2.2.2.2.2.2.2.2.2.1
theorem rq_fa {P nw nb nr tp : Nat} {c m : xD} (hh : RQ P nw nb nr tp c m) : c.1 0 2 = m.1 99 28 ∧ c.1 0 3 = m.1 99 29 := hh.2.2.2.2.2.2.2.2.2.2.2.1
theorem rq_wd {P nw nb nr tp : Nat} {c m : xD} (hh : RQ P nw nb nr tp c m) : ∀ i, i < 21 → c.1 41 i = wdl.getD i 0 := hh.2.2.2.2.2.2.2.2.2.2.2.2
def Rel (d : xD) : Prop := ∃ P nw nb nr tp, RQ P nw nb nr tp d d
/-- what a call that only tries may change, on the class's side, on the reference's -/
def CF (P : Nat) (c c' : xD) : Prop := c'.2.2 = c.2.2 ∧ (∀ k, k < 98 → (k < 73 ∨ 87 ≤ k) → c'.1 k = c.1 k) ∧ (∀ k, k < 98 → k ≠ 73 → k ≠ 88 → k ≠ P + 18 → c'.2.1 k = c.2.1 k)
def MF (m m' : xD) : Prop := m'.2.2 = m.2.2 ∧ (∀ k, 99 < k → k < 138 → (k < 119 ∨ 133 ≤ k) → m'.1 k = m.1 k) ∧ (∀ k, k ≠ 0 → k ≠ 34 → k ≠ 50 → k ≠ 51 → k ≠ 52 → k ≠ 53 → k ≠ 54 → k ≠ 55 → m'.1 99 k = m.1 99 k) ∧ m'.1 99 50 = 0 ∧ m'.1 99 51 = -1 ∧ m'.1 99 53 = -1 ∧ (∀ s, s ≠ 1 → (∀ j, j < 5 → vM s m'.1 j 0 = vM s m.1 j 0) ∧ (∀ j p, 5 ≤ j → j < 12 → p < 6 → vM s m'.1 j p = vM s m.1 j p) ∧ (∀ b, b < 8 → vM s m'.1 12 b = vM s m.1 12 b))
theorem pac_m1 {G : Nat → Nat → Int32} {i : Nat} (hi : i < 2 ^ 31) (h : G 99 51 = -1) : (if nI i = G 99 51 then G 99 52 else G 108 i) = G 108 i := by rw [h, if_neg (nI_ne_m1 hi)]
theorem uns_congr {nw nb tp : Nat} {G G' : Nat → Nat → Int32} {w b : Int32} {Y Y' Z Z' : Nat → Nat → Int32} (hw : nw ≤ 6) (hb : nb ≤ 8) (hG : G' 103 = G 103) (h : UNs nw nb tp G w b Y Y') (a : (∀ j, j < 5 → Z j 0 = Y j 0) ∧ (∀ j p, 5 ≤ j → j < 12 → p < 6 → Z j p = Y j p) ∧ (∀ b, b < 8 → Z 12 b = Y 12 b)) (a' : (∀ j, j < 5 → Z' j 0 = Y' j 0) ∧ (∀ j p, 5 ≤ j → j < 12 → p < 6 → Z' j p = Y' j p) ∧ (∀ b, b < 8 → Z' 12 b = Y' 12 b)) : UNs nw nb tp G' w b Z Z' := by
  obtain ⟨a1, a2, a3⟩ := a
  obtain ⟨b1, b2, b3⟩ := a'
  obtain ⟨⟨u1, u2, u3, u4, u5, u6⟩, u7⟩ := h
  refine ⟨⟨?_, ?_, ?_, ?_, fun i hi => ?_, fun i hi => ?_⟩, ?_⟩
  · rw [a1 0 (by omega), b1 0 (by omega)]; exact u1
  · rw [a1 1 (by omega), b1 1 (by omega)]; exact u2
  · rw [a1 2 (by omega), b1 2 (by omega)]; exact u3
  · rw [a1 4 (by omega), b1 4 (by omega)]; exact u4
  · rw [a2 6 i (by omega) (by omega) (by omega), b2 6 i (by omega) (by omega) (by omega), a2 7 i (by omega) (by omega) (by omega), b2 7 i (by omega) (by omega) (by omega), a2 10 i (by omega) (by omega) (by omega), b2 10 i (by omega) (by omega) (by omega), a2 11 i (by omega) (by omega) (by omega), b2 11 i (by omega) (by omega) (by omega)]; exact u5 i hi
  · rw [a3 i (by omega), b3 i (by omega)]; exact u6 i hi
  · have hrow : ∀ i, i < nw → Z 5 i = Y 5 i ∧ Z 8 i = Y 8 i ∧ Z 9 i = Y 9 i ∧ Z' 5 i = Y' 5 i ∧ Z' 8 i = Y' 8 i ∧ Z' 9 i = Y' 9 i := fun i hi => ⟨a2 5 i (by omega) (by omega) (by omega), a2 8 i (by omega) (by omega) (by omega), a2 9 i (by omega) (by omega) (by omega), b2 5 i (by omega) (by omega) (by omega), b2 8 i (by omega) (by omega) (by omega), b2 9 i (by omega) (by omega) (by omega)⟩
    rcases u7 with ⟨v1, v2, v3⟩ | ⟨p, v1, v2, v3, v4, v5⟩
    · refine Or.inl ⟨v1, ?_, fun i hi => ?_⟩
      · rw [a1 3 (by omega)]; exact v2
      · obtain ⟨r1, r2, r3, r4, r5, r6⟩ := hrow i hi
        rw [r1, r2, r3, r4, r5, r6]; exact v3 i hi
    · refine Or.inr ⟨p, v1, v2, ?_, fun i hi hp => ?_, ?_⟩
      · rw [a1 3 (by omega), b1 3 (by omega)]; exact v3
      · obtain ⟨r1, r2, r3, r4, r5, r6⟩ := hrow i hi
        rw [r1, r2, r3, r4, r5, r6]; exact v4 i hi hp
      · obtain ⟨r1, r2, r3, r4, r5, r6⟩ := hrow p v1
        rw [r1, r2, r3, b2 6 p (by omega) (by omega) (by omega), hG]; exact v5
theorem rl_frame {P nw nb nr tp : Nat} {c m c' m' : xD} (h : RQ P nw nb nr tp c m) (hc : CF P c c') (hm : MF m m') : RQ P nw nb nr tp c' m' := by
  obtain ⟨c1, c2, c3⟩ := hc
  obtain ⟨m1, m2, m3, m4, m5, m6, m7⟩ := hm
  have hp := pr_pl (rq_pr h)
  have hpr := isPl_le hp
  have hw6 := pr_w6 (rq_pr h); have hb8 := pr_b8 (rq_pr h); have hr12 := pr_r12 (rq_pr h)
  have scx : ∀ q s, (q = 45 ∨ q = 59) → s ≠ 1 → SC nw nb nr 0 tp 0 (fun _ _ => True) True m.1 (-1) (vC q c.1) (c.2.1 q 3) (vM s m.1) → SC nw nb nr 0 tp 0 (fun _ _ => True) True m'.1 (-1) (vC q c'.1) (c'.2.1 q 3) (vM s m'.1) := by
    intro q s hq hs1 hs
    rw [c3 q (by omega) (by omega) (by omega) (by omega)]
    obtain ⟨s1, s2, s3⟩ := m7 s hs1
    refine sc_congr hs hw6 hb8 hr12 ?_ (fun i hi => ?_) (fun z => by omega) (fun k k1 k2 => m2 k (by omega) (by omega) (by omega)) (fun k hk => ?_) (fun j j1 j2 k hk => ?_) s1 s2 s3
    · rw [m4, rq_tw h]
    · rw [pac_m1 (by omega) m5, pac_m1 (by omega) (rq_po h), m2 108 (by omega) (by omega) (by omega)]
    · show c'.1 q k = c.1 q k; rw [c2 q (by omega) (by omega)]
    · show c'.1 (q + j) k = c.1 (q + j) k; rw [c2 (q + j) (by omega) (by omega)]
  refine ⟨(rq_rc h).same c1, (rq_rm h).same m1, pr_congr (rq_pr h) (fun j hj => c2 _ (by omega) (by omega)) (fun j j1 j2 => m2 j (by omega) (by omega) (by omega)), scx 45 0 (Or.inl rfl) (by omega) (rq_sn h), m4, m5, m6, ?_, ?_, ?_, ?_, ?_, ?_⟩
  · rw [c2 0 (by omega) (by omega), m3 48 (by omega) (by omega) (by omega) (by omega) (by omega) (by omega) (by omega) (by omega)]
    rcases rq_im h with z | ⟨z1, z2, z3⟩
    · exact Or.inl z
    · exact Or.inr ⟨z1, z2, scx 59 2 (Or.inr rfl) (by omega) z3⟩
  · obtain ⟨u, u1, u2, u3, u4⟩ := rq_un h
    refine ⟨u, u1, ?_, ?_, fun k hk => ?_⟩
    · rw [c2 89 (by omega) (by omega)]; exact u2
    · rw [m3 49 (by omega) (by omega) (by omega) (by omega) (by omega) (by omega) (by omega) (by omega)]; exact u3
    · rw [c2 90 (by omega) (by omega), c2 91 (by omega) (by omega)]
      refine uns_congr hw6 hb8 (m2 103 (by omega) (by omega) (by omega)) (u4 k hk) (m7 (3 + k) (by omega)) (m7 _ ?_)
      by_cases z : k + 1 = u
      · rw [if_pos z]; omega
      · rw [if_neg z]; omega
  · obtain ⟨n, n1, n2, n3, n4, n5, n6⟩ := rq_se h
    unfold SE
    rw [c2 92 (by omega) (by omega), c2 93 (by omega) (by omega), c2 94 (by omega) (by omega), c2 95 (by omega) (by omega), c2 96 (by omega) (by omega), c2 97 (by omega) (by omega), m3 57 (by omega) (by omega) (by omega) (by omega) (by omega) (by omega) (by omega) (by omega), m3 58 (by omega) (by omega) (by omega) (by omega) (by omega) (by omega) (by omega) (by omega), m2 137 (by omega) (by omega) (by omega), m2 133 (by omega) (by omega) (by omega), m2 134 (by omega) (by omega) (by omega), m2 135 (by omega) (by omega) (by omega), m2 136 (by omega) (by omega) (by omega)]
    exact rq_se h
  · have z := rq_ta h
    unfold TAP at z ⊢
    rw [c2 0 (by omega) (by omega), c2 1 (by omega) (by omega), m3 2 (by omega) (by omega) (by omega) (by omega) (by omega) (by omega) (by omega) (by omega), m2 100 (by omega) (by omega) (by omega)]
    exact z
  · rw [c2 0 (by omega) (by omega), m3 28 (by omega) (by omega) (by omega) (by omega) (by omega) (by omega) (by omega) (by omega), m3 29 (by omega) (by omega) (by omega) (by omega) (by omega) (by omega) (by omega) (by omega)]
    exact rq_fa h
  · rw [c2 41 (by omega) (by omega)]; exact rq_wd h

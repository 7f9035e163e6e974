/-! LEVEL 2: a scene that has begun stands to a slot that has started -/
theorem bt_0 : ∀ r : Fin 32, bt 0 r.val = false := by decide +kernel
theorem toL_lN {a : Nat} (h : a < 2 ^ 31) : (nI a).toInt64 = lN a := by
  apply Int64.toInt_inj.mp
  rw [Int32.toInt_toInt64, nI_toInt h, lN_toInt (by omega)]
theorem sc_beg {P q s nw nb nr tp : Nat} {c c' m m' : xD} {I : Nat → Nat → Int32} (hpr : PR P 0 nw nb nr tp c.1 m.1) (hb : BG P q nr c c') (hm : MS s nw m m') (h50 : m.1 99 50 = 0) (hI : ∀ k, k ≠ q + 4 → I k = c'.1 k) (h4 : ∀ i, i < nw → I (q + 4) i = (if nI i = m.1 99 51 then m.1 99 52 else m.1 108 i)) : SC nw nb nr 0 tp 0 (fun _ _ => True) True m'.1 (-1) (vC q I) (c'.2.1 q 3) (vM s m'.1) := by
  have hw6 := pr_w6 hpr; have hb8 := pr_b8 hpr; have hr12 := pr_r12 hpr
  obtain ⟨b1, b2, b3, ⟨b40, b41, b42, b44, b414⟩, ⟨b5, b53⟩, b6, b7, b8⟩ := hb
  obtain ⟨m1, m2, m3, m4, m5, m6, ⟨s0, s1, s2, s3, s4⟩, m8, m9⟩ := hm
  have g : ∀ k, (k < 119 ∨ 132 ≤ k) → m'.1 k = m.1 k := m3
  have x0 : ∀ k, vC q I 0 k = c'.1 q k := fun k => by show I (q + 0) k = _; rw [hI _ (by omega)]; rfl
  have xj : ∀ j k, j ≠ 4 → vC q I j k = c'.1 (q + j) k := fun j k hj => by show I (q + j) k = _; rw [hI _ (by omega)]
  have ry : ∀ j i, 5 ≤ j → j < 12 → vM s m'.1 j i = m'.1 (119 + j) (6 * s + i) := fun j i j1 j2 => by
    show m'.1 (119 + j) (stj j * s + i) = _
    rw [show stj j = 6 by unfold stj; rw [if_neg (by omega), if_pos (by omega)]]
  have r5 : ∀ i, vM s m'.1 5 i = m'.1 124 (6 * s + i) := fun i => ry 5 i (by omega) (by omega)
  have r6 : ∀ i, vM s m'.1 6 i = m'.1 125 (6 * s + i) := fun i => ry 6 i (by omega) (by omega)
  have r7 : ∀ i, vM s m'.1 7 i = m'.1 126 (6 * s + i) := fun i => ry 7 i (by omega) (by omega)
  have r8 : ∀ i, vM s m'.1 8 i = m'.1 127 (6 * s + i) := fun i => ry 8 i (by omega) (by omega)
  have r9 : ∀ i, vM s m'.1 9 i = m'.1 128 (6 * s + i) := fun i => ry 9 i (by omega) (by omega)
  have r10 : ∀ i, vM s m'.1 10 i = m'.1 129 (6 * s + i) := fun i => ry 10 i (by omega) (by omega)
  have r11 : ∀ i, vM s m'.1 11 i = m'.1 130 (6 * s + i) := fun i => ry 11 i (by omega) (by omega)
  have q0 : ∀ j, j < 5 → vM s m'.1 j 0 = m'.1 (119 + j) s := fun j hj => by
    show m'.1 (119 + j) (stj j * s + 0) = _
    rw [show stj j = 1 by unfold stj; rw [if_pos hj], Nat.one_mul, Nat.add_zero]
  have g99 : m'.1 99 = m.1 99 := g 99 (by omega)
  refine ⟨?_, ⟨0, by omega, by omega, ?_, ?_⟩, ?_, ?_, ?_, fun i hi => ?_, fun i hi => ?_, fun i hi => ?_, fun i hi => ?_, fun i hi h2 => ?_, fun _ i hi => ⟨?_, fun _ => ?_⟩, fun i hi => ?_, fun i hi j hj _ => ?_, fun b hb => ?_, fun b hb => ⟨0, by omega, ?_, ?_⟩, fun i hi h2 => ?_, fun i hi _ => ?_, by omega, ?_, fun r hr => ?_, fun r hr => ?_, fun r _ hr => ?_, fun _ => rfl, fun h => by omega⟩
  · rw [x0, q0 0 (by omega), b40, s0]
  · rw [x0, b41]; rfl
  · rw [q0 2 (by omega), s2]; rfl
  · obtain ⟨a, a1, a2, a3⟩ := pr_pi hpr
    refine ⟨a, a1, ?_, ?_⟩
    · rw [q0 3 (by omega), s3]; exact a2
    · rw [x0, b42]; exact a3
  · obtain ⟨a, a1, a2, a3⟩ := pr_se hpr
    refine ⟨a, by omega, ?_, ?_⟩
    · rw [q0 1 (by omega), s1]; exact a2
    · rw [b53, a3]; exact toL_lN (by omega)
  · rw [x0, b44]; exact pr_cW hpr
  · rw [xj 1 i (by omega), (b6 i (by omega)).1, r5, (m8 i (by omega)).1]
  · obtain ⟨a, a1, a2, a3⟩ := pr_ws hpr i hi
    have a3 : m.1 106 i = nI a := by rw [← a3, Nat.mul_zero, Nat.zero_add]
    refine ⟨a, a1, ?_, ?_⟩
    · rw [xj 2 i (by omega), (b6 i (by omega)).2.1]; exact a2
    · rw [r6, (m8 i (by omega)).2.1, if_pos hi]; exact a3
  · have z := pr_wd hpr i hi
    rw [Nat.mul_zero, Nat.zero_add] at z
    rw [xj 3 i (by omega), (b6 i (by omega)).2.2.1, r7, (m8 i (by omega)).2.2.1, if_pos hi]; exact z
  · rw [g99, g 108 (by omega)]; exact h4 i hi
  · rw [r5, (m8 i (by omega)).1] at h2; exact absurd h2 (by decide)
  · rw [xj 5 i (by omega), (b6 i (by omega)).2.2.2.2.1, r9, (m8 i (by omega)).2.2.2.2.1]
  · rw [r9, (m8 i (by omega)).2.2.2.2.1]
  · rw [xj 6 i (by omega), (b6 i (by omega)).2.2.2.2.2.1, r10, (m8 i (by omega)).2.2.2.2.2.1]
  · rw [xj 7 i (by omega), (b6 i (by omega)).2.2.2.2.2.2, r11, (m8 i (by omega)).2.2.2.2.2.2]
  · obtain ⟨a, a1, a2, a3, a4⟩ := pr_bc hpr b hb
    rw [Nat.mul_zero, Nat.zero_add] at a4
    rw [xj 8 b (by omega), (b7 b (by omega)).1, g99, h50, if_neg (by decide), g 104 (by omega), a3, a4]
  · rw [xj 9 b (by omega), (b7 b (by omega)).2]; rfl
  · show m'.1 131 (8 * s + b) = nI 0
    rw [m9 b (by omega)]; rfl
  · rw [r5, (m8 i (by omega)).1] at h2; exact absurd h2 (by decide)
  · rw [r8, (m8 i (by omega)).2.2.2.1]
  · rw [x0, b414]; rfl
  · obtain ⟨z1, z2, z3⟩ := pr_rr hpr r hr
    rw [Nat.mul_zero, Nat.zero_add] at z1 z2 z3
    obtain ⟨y1, y2, y3, y4⟩ := b8 r hr
    rw [xj 10 r (by omega), xj 11 r (by omega), xj 12 r (by omega), y1, y2, y3, g 110 (by omega), g 111 (by omega), g 112 (by omega)]
    exact ⟨z1, z2, z3⟩
  · obtain ⟨y1, y2, y3, y4⟩ := b8 r hr
    rw [xj 13 r (by omega), y4, g99, h50, if_neg (by decide), q0 4 (by omega), s4, bt_0 ⟨r, by omega⟩]; rfl
  · rw [q0 4 (by omega), s4]; exact bt_0 ⟨r, hr⟩
theorem pr_beg {P q s nw nb nr tp : Nat} {c c' m m' : xD} {I : Nat → Nat → Int32} (hpr : PR P 0 nw nb nr tp c.1 m.1) (hq : isSc q) (hb : BG P q nr c c') (hm : MS s nw m m') (hI : ∀ k, k ≠ q + 4 → I k = c'.1 k) : PR P 0 nw nb nr tp I m'.1 := by
  have hqr := isSc_ge hq
  have hp := isPl_le (pr_pl hpr)
  exact pr_congr hpr (fun j hj => by rw [hI _ (by omega)]; exact hb.2.1 _ (by omega)) (fun k k1 k2 => hm.2.2.1 k (by omega))

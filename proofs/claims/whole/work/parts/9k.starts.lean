/-! LEVEL 2: a slot starts -/
theorem starts_b {P s : Nat} {L : Nat → Nat → Int64} {R : Nat → Nat → Option Nat} (hR : ∀ I, RefOK (I, L, R) P) (hs : s < 23) : ∀ n b F (I : Nat → Nat → Int32), b + n = 8 → n < F → ∃ I', xloop (fun _ _ _ _ => none) (b_X10_starts_163 shA) F 99 (nI s) (nI b) (I, L, R) = some (I', L, R) ∧ (∀ k, k ≠ 131 → I' k = I k) ∧ (∀ i, (i < 8 * s + b ∨ 8 * s + 8 ≤ i) → I' 131 i = I 131 i) ∧ (∀ j, b ≤ j → j < 8 → I' 131 (8 * s + j) = 0) := by
  intro n
  induction n with
  | zero =>
    intro b F I h1 h2
    obtain ⟨F, rfl⟩ : ∃ G, F = G + 1 := ⟨F - 1, by omega⟩
    refine ⟨I, ?_, fun _ _ => rfl, fun _ _ => rfl, fun j j1 j2 => by omega⟩
    rw [loop_s, b_X10_starts_163, if_pos (show (8 : Int32) ≤ nI b from nI_le (a := 8) (by omega) (by omega))]
    rfl
  | succ n ih =>
    intro b F I h1 h2
    obtain ⟨F, rfl⟩ : ∃ G, F = G + 1 := ⟨F - 1, by omega⟩
    obtain ⟨I', k1, k2, k3, k4⟩ := ih (b + 1) F (xu I 131 (8 * s + b) 0) (by omega) (by omega)
    refine ⟨I', ?_, fun k hk => (k2 k hk).trans (xu_off hk), fun i hi => (k3 i (by omega)).trans (xu_at2 (by omega)), fun j j1 j2 => ?_⟩
    · rw [loop_s, b_X10_starts_163, if_neg (show ¬ (8 : Int32) ≤ nI b from nI_ge (b := 8) (by omega) (by omega)), gR_of sA_99 (rf_99_47 (hR I)), Option.bind_some, m8_, nI_add, sI_of sA_131 (by omega) (by omega), Option.bind_some, nI_1]
      exact k1
    · by_cases e : j = b
      · subst e; rw [k3 _ (by omega), xu_at]
      · exact k4 j (by omega) j2
theorem starts_p {P s nw : Nat} {L : Nat → Nat → Int64} {R : Nat → Nat → Option Nat} (hR : ∀ I, RefOK (I, L, R) P) (hs : s < 23) (hw : nw ≤ 6) : ∀ n p F (I : Nat → Nat → Int32), p + n = 6 → n < F → I 101 2 = nI nw → ∃ I', xloop (fun _ _ _ _ => none) (b_X10_starts_48 shA) F 99 (nI s) (nI p) (I, L, R) = k_X10_starts_161 shA 99 (nI s) (I', L, R) ∧ (∀ k, (k < 124 ∨ 131 ≤ k) → I' k = I k) ∧ (∀ k i, 124 ≤ k → k < 131 → (i < 6 * s + p ∨ 6 * s + 6 ≤ i) → I' k i = I k i) ∧ (∀ j, p ≤ j → j < 6 → I' 124 (6 * s + j) = 0 ∧ I' 125 (6 * s + j) = (if j < nw then I 106 j else 0) ∧ I' 126 (6 * s + j) = (if j < nw then I 107 j else 0) ∧ I' 127 (6 * s + j) = -1 ∧ I' 128 (6 * s + j) = 0 ∧ I' 129 (6 * s + j) = 0 ∧ I' 130 (6 * s + j) = 0) := by
  intro n
  induction n with
  | zero =>
    intro p F I h1 h2 h3
    obtain ⟨F, rfl⟩ : ∃ G, F = G + 1 := ⟨F - 1, by omega⟩
    refine ⟨I, ?_, fun _ _ => rfl, fun _ _ _ _ _ => rfl, fun j j1 j2 => by omega⟩
    rw [loop_s, b_X10_starts_48, if_pos (show (6 : Int32) ≤ nI p from nI_le (a := 6) (by omega) (by omega))]
  | succ n ih =>
    intro p F I h1 h2 h3
    obtain ⟨F, rfl⟩ : ∃ G, F = G + 1 := ⟨F - 1, by omega⟩
    obtain ⟨J, hJ⟩ : ∃ J, J = xu (xu (xu (xu (xu (xu (xu I 124 (6 * s + p) 0) 125 (6 * s + p) (if p < nw then I 106 p else 0)) 126 (6 * s + p) (if p < nw then I 107 p else 0)) 127 (6 * s + p) (-1)) 128 (6 * s + p) 0) 129 (6 * s + p) 0) 130 (6 * s + p) 0 := ⟨_, rfl⟩
    have j0 : ∀ k, (k < 124 ∨ 131 ≤ k) → J k = I k := fun k hk => by
      rw [hJ, xu_off (by omega), xu_off (by omega), xu_off (by omega), xu_off (by omega), xu_off (by omega), xu_off (by omega), xu_off (by omega)]
    have j1 : ∀ k i, 124 ≤ k → k < 131 → i ≠ 6 * s + p → J k i = I k i := fun k i k1 k2 hi => by
      rw [hJ]
      rcases (show k = 124 ∨ k = 125 ∨ k = 126 ∨ k = 127 ∨ k = 128 ∨ k = 129 ∨ k = 130 by omega) with e | e | e | e | e | e | e <;> subst e <;> simp (disch := omega) only [xu_cell, xu_at2]
    have j2 : J 124 (6 * s + p) = 0 ∧ J 125 (6 * s + p) = (if p < nw then I 106 p else 0) ∧ J 126 (6 * s + p) = (if p < nw then I 107 p else 0) ∧ J 127 (6 * s + p) = -1 ∧ J 128 (6 * s + p) = 0 ∧ J 129 (6 * s + p) = 0 ∧ J 130 (6 * s + p) = 0 := by
      rw [hJ]
      simp (disch := omega) only [xu_cell, xu_at]
      exact ⟨trivial, trivial, trivial, trivial, trivial, trivial, trivial⟩
    obtain ⟨I', k1, k2, k3, k4⟩ := ih (p + 1) F J (by omega) (by omega) (by rw [j0 101 (by omega)]; exact h3)
    refine ⟨I', ?_, fun k hk => (k2 k hk).trans (j0 k hk), fun k i a1 a2 hi => (k3 k i a1 a2 (by omega)).trans (j1 k i a1 a2 (by omega)), fun j q1 q2 => ?_⟩
    · have h3' : (I, L, R).1 101 2 = nI nw := h3
      have t126 : ∀ (K : Nat → Nat → Int32) (v : Int32), k_X10_starts_126 shA (xloop (fun _ _ _ _ => none) (b_X10_starts_48 shA) F) 99 (nI s) (nI p) (nI (6 * s + p)) 126 (nI (6 * s + p)) v (K, L, R) = xloop (fun _ _ _ _ => none) (b_X10_starts_48 shA) F 99 (nI s) (nI (p + 1)) (xu (xu (xu (xu (xu K 126 (6 * s + p) v) 127 (6 * s + p) (-1)) 128 (6 * s + p) 0) 129 (6 * s + p) 0) 130 (6 * s + p) 0, L, R) := by
        intro K v
        unfold k_X10_starts_126
        rw [sI_of sA_126 (by omega) (by omega), Option.bind_some, gR_of sA_99 (rf_99_43 (hR _)), Option.bind_some, sI_of sA_127 (by omega) (by omega), Option.bind_some, gR_of sA_99 (rf_99_44 (hR _)), Option.bind_some, sI_of sA_128 (by omega) (by omega), Option.bind_some, gR_of sA_99 (rf_99_45 (hR _)), Option.bind_some, sI_of sA_129 (by omega) (by omega), Option.bind_some, gR_of sA_99 (rf_99_46 (hR _)), Option.bind_some, sI_of sA_130 (by omega) (by omega), Option.bind_some, nI_1]
      rw [loop_s, b_X10_starts_48, if_neg (show ¬ (6 : Int32) ≤ nI p from nI_ge (b := 6) (by omega) (by omega)), gR_of sA_99 (rf_99_3 (hR I)), Option.bind_some, aN_2, Option.bind_some, h3', m6_, nI_add]
      by_cases c : p < nw
      · rw [if_neg (nI_ge c (by omega)), k_X10_starts_76, gR_of sA_99 (rf_99_40 (hR _)), Option.bind_some, sI_of sA_124 (by omega) (by omega), Option.bind_some, gR_of sA_99 (rf_99_41 (hR _)), Option.bind_some, if_neg one_ne_zero32, gR_of sA_99 (rf_99_8 (hR _)), Option.bind_some, aI_of sA_106 (by omega) (by omega), Option.bind_some, k_X10_starts_105, sI_of sA_125 (by omega) (by omega), Option.bind_some, gR_of sA_99 (rf_99_42 (hR _)), Option.bind_some, if_neg one_ne_zero32, gR_of sA_99 (rf_99_9 (hR _)), Option.bind_some, aI_of sA_107 (by omega) (by omega), Option.bind_some, t126, ← k1, hJ, if_pos c, if_pos c]
        dsimp only
        rw [xu_cell (show 106 ≠ 124 by omega), xu_cell (show 107 ≠ 125 by omega), xu_cell (show 107 ≠ 124 by omega)]
      · rw [if_pos (nI_le (by omega) (by omega)), k_X10_starts_76, gR_of sA_99 (rf_99_40 (hR _)), Option.bind_some, sI_of sA_124 (by omega) (by omega), Option.bind_some, gR_of sA_99 (rf_99_41 (hR _)), Option.bind_some, if_pos rfl, k_X10_starts_105, sI_of sA_125 (by omega) (by omega), Option.bind_some, gR_of sA_99 (rf_99_42 (hR _)), Option.bind_some, if_pos rfl, t126, ← k1, hJ, if_neg c, if_neg c]
    · by_cases e : j = p
      · subst e
        rw [k3 124 _ (by omega) (by omega) (by omega), k3 125 _ (by omega) (by omega) (by omega), k3 126 _ (by omega) (by omega) (by omega), k3 127 _ (by omega) (by omega) (by omega), k3 128 _ (by omega) (by omega) (by omega), k3 129 _ (by omega) (by omega) (by omega), k3 130 _ (by omega) (by omega) (by omega)]
        exact j2
      · have z := k4 j (by omega) q2
        rw [j0 106 (by omega), j0 107 (by omega)] at z
        exact z
def MS (s nw : Nat) (m m' : xD) : Prop := m'.2.2 = m.2.2 ∧ m'.2.1 = m.2.1 ∧ (∀ k, (k < 119 ∨ 132 ≤ k) → m'.1 k = m.1 k) ∧ (∀ k i, 119 ≤ k → k < 124 → i ≠ s → m'.1 k i = m.1 k i) ∧ (∀ k i, 124 ≤ k → k < 131 → (i < 6 * s ∨ 6 * s + 6 ≤ i) → m'.1 k i = m.1 k i) ∧ (∀ i, (i < 8 * s ∨ 8 * s + 8 ≤ i) → m'.1 131 i = m.1 131 i) ∧ (m'.1 119 s = 0 ∧ m'.1 120 s = m.1 101 6 ∧ m'.1 121 s = 0 ∧ m'.1 122 s = m.1 101 4 ∧ m'.1 123 s = 0) ∧ (∀ j, j < 6 → m'.1 124 (6 * s + j) = 0 ∧ m'.1 125 (6 * s + j) = (if j < nw then m.1 106 j else 0) ∧ m'.1 126 (6 * s + j) = (if j < nw then m.1 107 j else 0) ∧ m'.1 127 (6 * s + j) = -1 ∧ m'.1 128 (6 * s + j) = 0 ∧ m'.1 129 (6 * s + j) = 0 ∧ m'.1 130 (6 * s + j) = 0) ∧ (∀ b, b < 8 → m'.1 131 (8 * s + b) = 0)
theorem aN_4' {d : xD} : xaI .int shA d 101 (4 : Int32) = some (d.1 101 4) := aI_of (i := 4) sA_101 (by decide) (by decide)
theorem aN_6' {d : xD} : xaI .int shA d 101 (6 : Int32) = some (d.1 101 6) := aI_of (i := 6) sA_101 (by decide) (by decide)
theorem e_starts {P s nw : Nat} {m : xD} (hRm : RefOK m P) (hs : s < 23) (hw : nw ≤ 6) (h2 : m.1 101 2 = nI nw) : ∃ m', f_X10_starts shA 99 (nI s) m = some m' ∧ MS s nw m m' := by
  obtain ⟨I, L, R⟩ := m
  have hR : ∀ I, RefOK (I, L, R) P := fun I => hRm.same rfl
  dsimp only at h2
  obtain ⟨J, hJ⟩ : ∃ J, J = xu (xu (xu (xu (xu I 119 s 0) 120 s (I 101 6)) 121 s 0) 122 s (I 101 4)) 123 s 0 := ⟨_, rfl⟩
  have j0 : ∀ k, (k < 119 ∨ 124 ≤ k) → J k = I k := fun k hk => by
    rw [hJ, xu_off (by omega), xu_off (by omega), xu_off (by omega), xu_off (by omega), xu_off (by omega)]
  have j1 : ∀ k i, 119 ≤ k → k < 124 → i ≠ s → J k i = I k i := fun k i k1 k2 hi => by
    rw [hJ]
    rcases (show k = 119 ∨ k = 120 ∨ k = 121 ∨ k = 122 ∨ k = 123 by omega) with e | e | e | e | e <;> subst e <;> simp (disch := omega) only [xu_cell, xu_at2]
  have j2 : J 119 s = 0 ∧ J 120 s = I 101 6 ∧ J 121 s = 0 ∧ J 122 s = I 101 4 ∧ J 123 s = 0 := by
    rw [hJ]
    simp (disch := omega) only [xu_cell, xu_at]
    exact ⟨trivial, trivial, trivial, trivial, trivial⟩
  obtain ⟨I1, a1, a2, a3, a4⟩ := starts_p (L := L) (R := R) hR hs hw 6 0 xF J (by omega) (xF_big (by omega)) (by rw [j0 101 (by omega)]; exact h2)
  obtain ⟨I2, b1, b2, b3, b4⟩ := starts_b (L := L) (R := R) hR hs 8 0 xF I1 (by omega) (xF_big (by omega))
  rw [nI_0] at a1 b1
  refine ⟨(I2, L, R), ?_, rfl, rfl, fun k hk => ?_, fun k i k1 k2 hi => ?_, fun k i k1 k2 hi => ?_, fun i hi => ?_, ?_, fun j hj => ?_, fun b hb => b4 b (by omega) hb⟩
  · have v1 : (xu I 119 s 0) 101 6 = I 101 6 := xu_cell (by omega)
    have v2 : (xu (xu (xu I 119 s 0) 120 s (I 101 6)) 121 s 0) 101 4 = I 101 4 := by simp (disch := omega) only [xu_cell]
    unfold f_X10_starts
    rw [gR_of sA_99 (rf_99_35 (hR _)), Option.bind_some, sI_of sA_119 hs (by omega), Option.bind_some, gR_of sA_99 (rf_99_36 (hR _)), Option.bind_some, gR_of sA_99 (rf_99_3 (hR _)), Option.bind_some, aN_6', Option.bind_some]
    dsimp only
    rw [v1, sI_of sA_120 hs (by omega), Option.bind_some, gR_of sA_99 (rf_99_37 (hR _)), Option.bind_some, sI_of sA_121 hs (by omega), Option.bind_some, gR_of sA_99 (rf_99_38 (hR _)), Option.bind_some, gR_of sA_99 (rf_99_3 (hR _)), Option.bind_some, aN_4', Option.bind_some]
    dsimp only
    rw [v2, sI_of sA_122 hs (by omega), Option.bind_some, gR_of sA_99 (rf_99_39 (hR _)), Option.bind_some, sI_of sA_123 hs (by omega), Option.bind_some]
    dsimp only
    rw [← hJ, a1]
    exact b1
  · dsimp only; rw [b2 k (by omega), a2 k (by omega), j0 k (by omega)]
  · dsimp only; rw [b2 k (by omega), a2 k (by omega), j1 k i k1 k2 hi]
  · dsimp only; rw [b2 k (by omega), a3 k i k1 k2 (by omega), j0 k (by omega)]
  · dsimp only; rw [b3 i (by omega), a2 131 (by omega), j0 131 (by omega)]
  · dsimp only; rw [b2 119 (by omega), b2 120 (by omega), b2 121 (by omega), b2 122 (by omega), b2 123 (by omega), a2 119 (by omega), a2 120 (by omega), a2 121 (by omega), a2 122 (by omega), a2 123 (by omega)]; exact j2
  · dsimp only
    have z := a4 j (by omega) hj
    rw [j0 106 (by omega), j0 107 (by omega)] at z
    rw [b2 124 (by omega), b2 125 (by omega), b2 126 (by omega), b2 127 (by omega), b2 128 (by omega), b2 129 (by omega), b2 130 (by omega)]
    exact z

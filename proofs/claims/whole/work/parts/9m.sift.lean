/-! LEVEL 2: what is seen, sifted -/
theorem sB0 {I : Nat → Nat → Int32} {L : Nat → Nat → Int64} {R : Nat → Nat → Option Nat} {i : Nat} (hi : i < 24) : xsI .boolean shA (I, L, R) 98 (nI i) 0 = some (xu I 98 i 0, L, R) := sB_of sA_98 hi (by omega) (Or.inl rfl)
theorem sB1 {I : Nat → Nat → Int32} {L : Nat → Nat → Int64} {R : Nat → Nat → Option Nat} {i : Nat} (hi : i < 24) : xsI .boolean shA (I, L, R) 98 (nI i) 1 = some (xu I 98 i 1, L, R) := sB_of sA_98 hi (by omega) (Or.inr rfl)
theorem sD0 {I : Nat → Nat → Int32} {L : Nat → Nat → Int64} {R : Nat → Nat → Option Nat} {i : Nat} (hi : i < 24) : xsI .boolean shA (I, L, R) 138 (nI i) 0 = some (xu I 138 i 0, L, R) := sB_of sA_138 hi (by omega) (Or.inl rfl)
theorem sD1 {I : Nat → Nat → Int32} {L : Nat → Nat → Int64} {R : Nat → Nat → Option Nat} {i : Nat} (hi : i < 24) : xsI .boolean shA (I, L, R) 138 (nI i) 1 = some (xu I 138 i 1, L, R) := sB_of sA_138 hi (by omega) (Or.inr rfl)
theorem siftC_fill {P K : Nat} {L : Nat → Nat → Int64} {R : Nat → Nat → Option Nat} (hR : ∀ I, RefOK (I, L, R) P) (hK : K ≤ 24) : ∀ k i I F, i + k = 24 → k < F → (∀ j, j < i → I 98 j = if K ≤ j then 0 else 1) → ∃ I', xloop (fun _ _ _ _ => none) (b_X5_sift_7 shA) F 92 (nI K) (nI i) (I, L, R) = k_X5_sift_35 shA 92 (nI K) (I', L, R) ∧ (∀ q, q ≠ 98 → I' q = I q) ∧ ∀ j, j < 24 → I' 98 j = if K ≤ j then 0 else 1 := by
  intro k
  induction k with
  | zero =>
    intro i I F h1 h2 h3
    obtain ⟨F, rfl⟩ : ∃ G, F = G + 1 := ⟨F - 1, by omega⟩
    have e : i = 24 := by omega
    subst e
    exact ⟨I, by rw [loop_s, b_X5_sift_7, if_pos (show (24 : Int32) ≤ nI 24 by decide)], fun _ _ => rfl, h3⟩
  | succ k ih =>
    intro i I F h1 h2 h3
    obtain ⟨F, rfl⟩ : ∃ G, F = G + 1 := ⟨F - 1, by omega⟩
    obtain ⟨I', e1, e2, e3⟩ := ih (i + 1) (xu I 98 i (if K ≤ i then 0 else 1)) F (by omega) (by omega) (fun j hj => by
      rw [xu_is]
      by_cases e : j = i
      · rw [if_pos e, e]
      · rw [if_neg e]; exact h3 j (by omega))
    refine ⟨I', ?_, fun q hq => by rw [e2 q hq, xu_off hq], e3⟩
    rw [loop_s, b_X5_sift_7, if_neg (show ¬ (24 : Int32) ≤ nI i from nI_ge (b := 24) (by omega) (by omega)), gR_of sA_92 (rf_92_7 (hR I)), Option.bind_some, ← e1]
    unfold k_X5_sift_28
    by_cases c : K ≤ i
    · rw [if_pos (nI_le c (by omega)), if_pos c, sB0 (by omega), Option.bind_some, nI_1]
    · rw [if_neg (nI_ge (by omega) (by omega)), if_neg c, sB1 (by omega), Option.bind_some, nI_1]
theorem e_known {m : xD} {n : Nat} {v : Int32} (h57 : m.1 99 57 = nI n) (h58 : m.1 99 58 = v) : f_X10_knownMany shA 99 m = some (if v = -1 then nI n else v, m) := by
  unfold f_X10_knownMany k_X10_knownMany_19
  rw [gI_of sA_99, Option.bind_some, h58]
  by_cases c : v = -1
  · rw [if_pos c, if_pos c, gI_of sA_99, Option.bind_some, h57]
  · rw [if_neg c, if_neg c, Option.bind_some]
theorem e_knownC {c : xD} {n : Nat} {v : Int32} (h0 : c.1 92 0 = nI n) (h1 : c.1 92 1 = v) : f_X5_howManyKnown shA 92 c = some (if v = -1 then nI n else v, c) := by
  unfold f_X5_howManyKnown k_X5_howManyKnown_19
  rw [gI_of sA_92, Option.bind_some, h1]
  by_cases e : v = -1
  · rw [if_pos e, if_pos e, gI_of sA_92, Option.bind_some, h0]
  · rw [if_neg e, if_neg e, Option.bind_some]
theorem siftM_fill {P K : Nat} {x1 : Int32} {L : Nat → Nat → Int64} {R : Nat → Nat → Option Nat} (hR : ∀ I, RefOK (I, L, R) P) (hK : K ≤ 24) : ∀ k i I F, i + k = K → k < F → (∀ J : Nat → Nat → Int32, J 99 = I 99 → f_X10_knownMany shA 99 (J, L, R) = some (nI K, (J, L, R))) → (∀ j, j < i → I 138 j = 0) → ∃ I', xloop (fun _ _ _ _ _ => none) (b_X10_paces_19 shA) F 99 x1 0 (nI i) (I, L, R) = k_X10_paces_40 shA 99 x1 0 (I', L, R) ∧ (∀ q, q ≠ 138 → I' q = I q) ∧ ∀ j, j < K → I' 138 j = 0 := by
  intro k
  induction k with
  | zero =>
    intro i I F h1 h2 hk h3
    obtain ⟨F, rfl⟩ : ∃ G, F = G + 1 := ⟨F - 1, by omega⟩
    have e : i = K := by omega
    subst e
    exact ⟨I, by rw [loop_s, b_X10_paces_19, on_of sA_99, hk I rfl, Option.bind_some, if_pos (nI_le (by omega) (by omega))], fun _ _ => rfl, h3⟩
  | succ k ih =>
    intro i I F h1 h2 hk h3
    obtain ⟨F, rfl⟩ : ∃ G, F = G + 1 := ⟨F - 1, by omega⟩
    obtain ⟨I', e1, e2, e3⟩ := ih (i + 1) (xu I 138 i 0) F (by omega) (by omega) (fun J hJ => hk J (by rw [hJ, xu_off (by omega)])) (fun j hj => by
      rw [xu_is]
      by_cases e : j = i
      · rw [if_pos e]
      · rw [if_neg e]; exact h3 j (by omega))
    refine ⟨I', ?_, fun q hq => by rw [e2 q hq, xu_off hq], e3⟩
    rw [loop_s, b_X10_paces_19, on_of sA_99, hk I rfl, Option.bind_some, if_neg (nI_ge (by omega) (by omega)), gR_of sA_99 (rf_99_64 (hR I)), Option.bind_some, ← e1]
    dsimp only
    rw [sD0 (by omega), Option.bind_some, nI_1]
/-- the two marks, of the class and of the reference -/
def SF (K : Nat) (I J : Nat → Nat → Int32) : Prop := (∀ i, i < K → (I 98 i = 1 ∧ J 138 i = 0) ∨ (I 98 i = 0 ∧ J 138 i = 1)) ∧ ∀ i, K ≤ i → i < 24 → I 98 i = 0
theorem sift_lock {P nb K n : Nat} {x1 : Int32} {Lc Lm : Nat → Nat → Int64} {Rc Rm : Nat → Nat → Option Nat} (hRc : ∀ I, RefOK (I, Lc, Rc) P) (hRm : ∀ I, RefOK (I, Lm, Rm) P) (hK : K ≤ n) (hn : n ≤ 24) : ∀ k I J F F', k ≤ K → k < F → k < F' → (∀ i, i < n → I 93 i = J 137 i ∧ (J 137 i = -1 ∨ ∃ j, j < i ∧ J 137 i = nI j)) → SF K I J → ∃ I' J', xloop (fun _ _ _ => none) (b_X5_sift_39 shA) F 92 (nI k + (-1)) (I, Lc, Rc) = some (I', Lc, Rc) ∧ xloop (fun _ _ _ _ _ => none) (b_X10_paces_47 shA) F' 99 x1 0 (nI k + (-1)) (J, Lm, Rm) = k_X10_paces_88 shA 99 x1 0 (J', Lm, Rm) ∧ (∀ q, q ≠ 98 → I' q = I q) ∧ (∀ q, q ≠ 138 → J' q = J q) ∧ SF K I' J' := by
  intro k
  induction k with
  | zero =>
    intro I J F F' h1 h2 h3 hs hf
    obtain ⟨F, rfl⟩ : ∃ G, F = G + 1 := ⟨F - 1, by omega⟩
    obtain ⟨F', rfl⟩ : ∃ G, F' = G + 1 := ⟨F' - 1, by omega⟩
    refine ⟨I, J, ?_, ?_, fun _ _ => rfl, fun _ _ => rfl, hf⟩
    · rw [loop_s, b_X5_sift_39, if_pos (by decide)]; rfl
    · rw [loop_s, b_X10_paces_47, if_pos (by decide)]
  | succ k ih =>
    intro I J F F' h1 h2 h3 hs hf
    obtain ⟨F, rfl⟩ : ∃ G, F = G + 1 := ⟨F - 1, by omega⟩
    obtain ⟨F', rfl⟩ : ∃ G, F' = G + 1 := ⟨F' - 1, by omega⟩
    have ih0 := ih I J F F' (by omega) (by omega) (by omega) hs hf
    obtain ⟨s1, s2⟩ := hs k (by omega)
    rw [loop_s, loop_s, b_X5_sift_39, b_X10_paces_47, nI_m1, if_neg (show ¬ nI k < 0 from nI_pos (by omega)), if_neg (show ¬ nI k < 0 from nI_pos (by omega)), gR_of sA_92 (rf_92_7 (hRc I)), gR_of sA_99 (rf_99_64 (hRm J))]
    simp only [Option.bind_some]
    rw [aB_of sA_98 (by omega) (by omega), aB_of sA_138 (by omega) (by omega)]
    simp only [Option.bind_some]
    unfold k_X5_sift_74 k_X10_paces_82
    rcases hf.1 k (by omega) with ⟨z1, z2⟩ | ⟨z1, z2⟩
    · rw [z1, z2, if_neg one_ne_zero32, if_pos rfl, gR_of sA_92 (rf_92_2 (hRc I)), gR_of sA_99 (rf_99_63 (hRm J))]
      simp only [Option.bind_some]
      rw [aI_of sA_93 (by omega) (by omega), aI_of sA_137 (by omega) (by omega)]
      simp only [Option.bind_some]
      rw [s1]
      rcases s2 with y | ⟨j, hj, y⟩
      · rw [if_pos y, if_pos y]; exact ih0
      · rw [y, if_neg (nI_ne_m1 (by omega)), if_neg (nI_ne_m1 (by omega)), sB0 (by omega), Option.bind_some, sD1 (by omega), Option.bind_some]
        obtain ⟨I', J', e1, e2, e3, e4, e5⟩ := ih (xu I 98 j 0) (xu J 138 j 1) F F' (by omega) (by omega) (by omega) (by rw [xu_off (by omega), xu_off (by omega)]; exact hs) (by
          refine ⟨fun i hi => ?_, fun i i1 i2 => ?_⟩
          · rw [xu_is, xu_is]
            by_cases e : i = j
            · rw [if_pos e, if_pos e]; exact Or.inr ⟨rfl, rfl⟩
            · rw [if_neg e, if_neg e]; exact hf.1 i hi
          · rw [xu_at2 (by omega)]; exact hf.2 i i1 i2)
        exact ⟨I', J', e1, e2, fun q hq => by rw [e3 q hq, xu_off hq], fun q hq => by rw [e4 q hq, xu_off hq], e5⟩
    · rw [z1, z2, if_pos rfl, if_neg one_ne_zero32]; exact ih0

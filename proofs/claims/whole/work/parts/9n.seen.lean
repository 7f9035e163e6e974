/-! LEVEL 2: what is seen, against a trial -/
def SN (nb n K : Nat) (c m : xD) : Prop := (K ≤ n ∧ n ≤ 24) ∧ c.1 92 0 = nI n ∧ f_X10_knownMany shA 99 m = some (nI K, m) ∧ SF K c.1 m.1 ∧ ∀ i, i < n → c.1 93 i = m.1 137 i ∧ ((m.1 137 i = -1 ∧ (∃ a, 1 ≤ a ∧ a ≤ 60 ∧ c.1 94 i = nI a ∧ m.1 133 i = nI a) ∧ (∃ b, b < nb ∧ c.1 95 i = nI b ∧ m.1 134 i = nI b) ∧ c.1 96 i = m.1 135 i ∧ c.1 97 i = m.1 136 i) ∨ (∃ j, j < i ∧ m.1 137 i = nI j))
theorem sn_congr {nb n K : Nat} {c m c' m' : xD} (h : SN nb n K c m) (hc : ∀ k, 92 ≤ k → k < 99 → c'.1 k = c.1 k) (hm : ∀ k, 133 ≤ k → k < 139 → m'.1 k = m.1 k) (h57 : m'.1 99 57 = m.1 99 57) (h58 : m'.1 99 58 = m.1 99 58) : SN nb n K c' m' := by
  obtain ⟨a1, a2, a3, a4, a5⟩ := h
  refine ⟨a1, by rw [hc 92 (by omega) (by omega)]; exact a2, ?_, ?_, ?_⟩
  · unfold f_X10_knownMany k_X10_knownMany_19 at a3 ⊢
    rw [gI_of sA_99, Option.bind_some, gI_of sA_99, Option.bind_some] at a3
    rw [gI_of sA_99, Option.bind_some, gI_of sA_99, Option.bind_some, h57, h58]
    by_cases z : m.1 99 58 = -1
    · rw [if_pos z] at a3 ⊢
      have := Option.some.inj a3
      rw [(Prod.mk.inj this).1]
    · rw [if_neg z] at a3 ⊢
      rw [Option.bind_some] at a3 ⊢
      have := Option.some.inj a3
      rw [(Prod.mk.inj this).1]
  · unfold SF at a4 ⊢
    rw [hc 98 (by omega) (by omega), hm 138 (by omega) (by omega)]; exact a4
  · rw [hc 93 (by omega) (by omega), hc 94 (by omega) (by omega), hc 95 (by omega) (by omega), hc 96 (by omega) (by omega), hc 97 (by omega) (by omega), hm 133 (by omega) (by omega), hm 134 (by omega) (by omega), hm 135 (by omega) (by omega), hm 136 (by omega) (by omega), hm 137 (by omega) (by omega)]; exact a5
def knS (K : Nat) (J : Nat → Nat → Int32) (i : Nat) : Bool := decide (i < K ∧ J 138 i = 0 ∧ J 137 i = -1)
theorem e_isKnown {P nb n K : Nat} {c m : xD} (hR : RefOK c P) (h : SN nb n K c m) {i : Nat} (hi : i < n) : f_X5_isKnownSight shA 92 (nI i) c = some (if knS K m.1 i then 1 else 0, c) := by
  obtain ⟨⟨a0, a1⟩, a2, a3, a4, a5⟩ := h
  obtain ⟨s1, s2⟩ := a5 i hi
  unfold f_X5_isKnownSight k_X5_isKnownSight_23 k_X5_isKnownSight_24 knS
  rw [gR_of sA_92 (rf_92_7 hR), Option.bind_some, aB_of sA_98 (by omega) (by omega), Option.bind_some]
  by_cases c1 : i < K
  · rcases a4.1 i c1 with ⟨z1, z2⟩ | ⟨z1, z2⟩
    · rw [z1, if_neg one_ne_zero32, gR_of sA_92 (rf_92_2 hR), Option.bind_some, aI_of sA_93 (by omega) (by omega), Option.bind_some, s1]
      by_cases c2 : m.1 137 i = -1
      · rw [if_pos c2, decide_eq_true ⟨c1, z2, c2⟩, xz_1, Option.bind_some]; rfl
      · rw [if_neg c2, decide_eq_false (fun z => c2 z.2.2), xz_0, Option.bind_some]; rfl
    · rw [z1, if_pos rfl, decide_eq_false (fun z => by rw [z2] at z; exact absurd z.2.1 (by decide)), xz_0, Option.bind_some]; rfl
  · rw [a4.2 i (by omega) (by omega), if_pos rfl, decide_eq_false (fun z => c1 z.1), xz_0, Option.bind_some]; rfl
def lmx (kn : Nat → Bool) (mi : Nat → Int32) : Nat → Nat → Int32 → Int32
  | _, 0, a => a
  | i, k + 1, a => lmx kn mi (i + 1) k (if kn i then (if a < mi i then mi i else a) else a)
theorem lmx_no {kn : Nat → Bool} {mi : Nat → Int32} : ∀ k i a, (∀ j, i ≤ j → kn j = false) → lmx kn mi i k a = a := by
  intro k
  induction k with
  | zero => intro i a _; rfl
  | succ k ih => intro i a h; rw [lmx, h i (by omega)]; exact ih (i + 1) a (fun j hj => h j (by omega))
theorem lmx_add {kn : Nat → Bool} {mi : Nat → Int32} : ∀ k l i a, lmx kn mi i (k + l) a = lmx kn mi (i + k) l (lmx kn mi i k a) := by
  intro k
  induction k with
  | zero => intro l i a; rw [Nat.zero_add, Nat.add_zero]; rfl
  | succ k ih => intro l i a; rw [show k + 1 + l = (k + l) + 1 by omega, lmx, lmx, ih, show i + 1 + k = i + (k + 1) by omega]
theorem lmx_le {kn : Nat → Bool} {mi : Nat → Int32} : ∀ k i l, l ≤ 60 → (∀ j, i ≤ j → j < i + k → kn j = true → ∃ a, a ≤ 60 ∧ mi j = nI a) → ∃ l', l' ≤ 60 ∧ lmx kn mi i k (nI l) = nI l' := by
  intro k
  induction k with
  | zero => intro i l hl _; exact ⟨l, hl, rfl⟩
  | succ k ih =>
    intro i l hl h
    rw [lmx]
    cases t : kn i with
    | false => exact ih (i + 1) l hl (fun j j1 j2 => h j (by omega) (by omega))
    | true =>
      obtain ⟨a, a1, a2⟩ := h i (by omega) (by omega) t
      rw [if_pos rfl, a2]
      by_cases c : nI l < nI a
      · rw [if_pos c]; exact ih (i + 1) a a1 (fun j j1 j2 => h j (by omega) (by omega))
      · rw [if_neg c]; exact ih (i + 1) l hl (fun j j1 j2 => h j (by omega) (by omega))
theorem knS_mi {nb n K : Nat} {c m : xD} (h : SN nb n K c m) {i : Nat} (hk : knS K m.1 i = true) : (∃ a, 1 ≤ a ∧ a ≤ 60 ∧ c.1 94 i = nI a ∧ m.1 133 i = nI a) ∧ (∃ b, b < nb ∧ c.1 95 i = nI b ∧ m.1 134 i = nI b) ∧ c.1 96 i = m.1 135 i ∧ c.1 97 i = m.1 136 i := by
  have z := of_decide_eq_true hk
  obtain ⟨⟨a0, a1⟩, a2, a3, a4, a5⟩ := h
  rcases (a5 i (by omega)).2 with ⟨_, y⟩ | ⟨j, j1, j2⟩
  · exact y
  · rw [z.2.2] at j2; exact absurd j2.symm (nI_ne_m1 (by omega))
theorem lastC_loop {P nb n K : Nat} {c m : xD} (hR : RefOK c P) (h : SN nb n K c m) : ∀ k i F a, i + k = n → k < F → xloop (fun _ _ _ _ => none) (b_X5_lastMinute_4 shA) F 92 a (nI i) c = some (lmx (knS K m.1) (m.1 133) i k a, c) := by
  have hn := h.1.2
  intro k
  induction k with
  | zero =>
    intro i F a h1 h2
    obtain ⟨F, rfl⟩ : ∃ G, F = G + 1 := ⟨F - 1, by omega⟩
    rw [loop_s, b_X5_lastMinute_4, gI_of sA_92, Option.bind_some, h.2.1, if_pos (nI_le (by omega) (by omega))]; rfl
  | succ k ih =>
    intro i F a h1 h2
    obtain ⟨F, rfl⟩ : ∃ G, F = G + 1 := ⟨F - 1, by omega⟩
    rw [loop_s, b_X5_lastMinute_4, gI_of sA_92, Option.bind_some, h.2.1, if_neg (nI_ge (by omega) (by omega)), on_of sA_92, e_isKnown hR h (show i < n by omega), Option.bind_some, lmx]
    unfold k_X5_lastMinute_31
    dsimp only
    cases t : knS K m.1 i with
    | false => rw [if_pos (by decide), nI_1]; exact ih (i + 1) F a (by omega) (by omega)
    | true =>
      obtain ⟨⟨b, b1, b2, b3, b4⟩, _⟩ := knS_mi h t
      rw [if_neg (by decide), gR_of sA_92 (rf_92_3 hR), Option.bind_some, aI_of sA_94 (by omega) (by omega), Option.bind_some, nI_1, b3, ← b4, if_pos rfl]
      exact ih (i + 1) F _ (by omega) (by omega)
theorem e_lastC {P nb n K : Nat} {c m : xD} (hR : RefOK c P) (h : SN nb n K c m) : f_X5_lastMinute shA 92 c = some (lmx (knS K m.1) (m.1 133) 0 K 0, c) := by
  have z := lastC_loop hR h n 0 xF 0 (by omega) (by have := h.1.2; unfold xF; omega)
  rw [nI_0] at z
  unfold f_X5_lastMinute
  rw [z, show n = K + (n - K) by have := h.1.1; omega, lmx_add, lmx_no (kn := knS K m.1) _ (0 + K) _ (fun j hj => decide_eq_false (fun y => by omega))]
theorem lastM_loop {P nb n K : Nat} {c m : xD} {x1 : Int32} (hR : RefOK m P) (h : SN nb n K c m) : ∀ k i F a, i + k = K → k < F → xloop (fun _ _ _ _ _ => none) (b_X10_paces_90 shA) F 99 x1 a (nI i) m = k_X10_paces_134 shA 99 x1 (lmx (knS K m.1) (m.1 133) i k a) m := by
  have hn := h.1
  intro k
  induction k with
  | zero =>
    intro i F a h1 h2
    obtain ⟨F, rfl⟩ : ∃ G, F = G + 1 := ⟨F - 1, by omega⟩
    rw [loop_s, b_X10_paces_90, on_of sA_99, h.2.2.1, Option.bind_some, if_pos (nI_le (by omega) (by omega))]; rfl
  | succ k ih =>
    intro i F a h1 h2
    obtain ⟨F, rfl⟩ : ∃ G, F = G + 1 := ⟨F - 1, by omega⟩
    rw [loop_s, b_X10_paces_90, on_of sA_99, h.2.2.1, Option.bind_some, if_neg (nI_ge (by omega) (by omega)), gR_of sA_99 (rf_99_64 hR), Option.bind_some, aB_of sA_138 (by omega) (by omega), Option.bind_some, lmx]
    unfold k_X10_paces_128
    dsimp only
    by_cases c1 : m.1 138 i = 0
    · rw [if_pos c1, gR_of sA_99 (rf_99_63 hR), Option.bind_some, aI_of sA_137 (by omega) (by omega), Option.bind_some]
      by_cases c2 : m.1 137 i = -1
      · have t : knS K m.1 i = true := decide_eq_true ⟨by omega, c1, c2⟩
        rw [if_pos c2, gR_of sA_99 (rf_99_59 hR), Option.bind_some, aI_of sA_133 (by omega) (by omega), Option.bind_some, nI_1, t, if_pos rfl]
        exact ih (i + 1) F _ (by omega) (by omega)
      · rw [if_neg c2, nI_1, show knS K m.1 i = false from decide_eq_false (fun z => c2 z.2.2)]
        exact ih (i + 1) F a (by omega) (by omega)
    · rw [if_neg c1, nI_1, show knS K m.1 i = false from decide_eq_false (fun z => c1 z.2.1)]
      exact ih (i + 1) F a (by omega) (by omega)
theorem agreesC_tail {P nb n K : Nat} {c m : xD} {x1 : Int32} (hR : RefOK c P) (h : SN nb n K c m) : ∀ k i F, i + k = n → K ≤ i → k < F → xloop (fun _ _ _ _ _ => none) (b_X5_agrees_2 shA) F 92 x1 (73 + 9) (nI i) c = some (1, c) := by
  have hn := h.1
  intro k
  induction k with
  | zero =>
    intro i F h1 h3 h2
    obtain ⟨F, rfl⟩ : ∃ G, F = G + 1 := ⟨F - 1, by omega⟩
    rw [loop_s, b_X5_agrees_2, gI_of sA_92, Option.bind_some, h.2.1, if_pos (nI_le (by omega) (by omega))]; rfl
  | succ k ih =>
    intro i F h1 h3 h2
    obtain ⟨F, rfl⟩ : ∃ G, F = G + 1 := ⟨F - 1, by omega⟩
    rw [loop_s, b_X5_agrees_2, gI_of sA_92, Option.bind_some, h.2.1, if_neg (nI_ge (by omega) (by omega)), on_of sA_92, e_isKnown hR h (show i < n by omega), Option.bind_some]
    unfold k_X5_agrees_61
    dsimp only
    rw [show knS K m.1 i = false from decide_eq_false (fun z => by omega), if_pos (by decide), nI_1]
    exact ih (i + 1) F (by omega) (by omega) (by omega)
theorem agrees_lock {P nb n K : Nat} {c m : xD} {x1 : Int32} (hRc : RefOK c P) (hRm : RefOK m P) (hb8 : nb ≤ 8) (h : SN nb n K c m) (wo : ∀ b, b < nb → c.1 (73 + 9) b = m.1 131 (8 + b)) : ∀ k i F F', i + k = K → n - i < F → k < F' → ∃ b : Bool, xloop (fun _ _ _ _ _ => none) (b_X5_agrees_2 shA) F 92 x1 (73 + 9) (nI i) c = some (if b then 1 else 0, c) ∧ xloop (fun _ _ _ _ => none) (b_X10_isSo_2 shA) F' 99 x1 (nI i) m = some (if b then 1 else 0, m) := by
  have hn := h.1
  intro k
  induction k with
  | zero =>
    intro i F F' h1 h2 h3
    obtain ⟨F', rfl⟩ : ∃ G, F' = G + 1 := ⟨F' - 1, by omega⟩
    refine ⟨true, agreesC_tail hRc h (n - i) i F (by omega) (by omega) h2, ?_⟩
    rw [loop_s, b_X10_isSo_2, on_of sA_99, h.2.2.1, Option.bind_some, if_pos (nI_le (by omega) (by omega))]; rfl
  | succ k ih =>
    intro i F F' h1 h2 h3
    obtain ⟨F, rfl⟩ : ∃ G, F = G + 1 := ⟨F - 1, by omega⟩
    obtain ⟨F', rfl⟩ : ∃ G, F' = G + 1 := ⟨F' - 1, by omega⟩
    have ih0 := ih (i + 1) F F' (by omega) (by omega) (by omega)
    rw [loop_s, loop_s, b_X5_agrees_2, b_X10_isSo_2, gI_of sA_92, Option.bind_some, h.2.1, if_neg (nI_ge (by omega) (by omega)), on_of sA_92, e_isKnown hRc h (show i < n by omega), on_of sA_99, h.2.2.1]
    simp only [Option.bind_some]
    rw [if_neg (nI_ge (by omega) (by omega)), gR_of sA_99 (rf_99_64 hRm), Option.bind_some, aB_of sA_138 (by omega) (by omega), Option.bind_some]
    unfold k_X5_agrees_50 k_X5_agrees_61 k_X5_agrees_59 k_X10_isSo_70 k_X10_isSo_81 k_X10_isSo_79
    rw [nI_1]
    by_cases c1 : m.1 138 i = 0
    · rw [if_pos c1, gR_of sA_99 (rf_99_63 hRm), Option.bind_some, aI_of sA_137 (by omega) (by omega), Option.bind_some]
      by_cases c2 : m.1 137 i = -1
      · have t : knS K m.1 i = true := decide_eq_true ⟨by omega, c1, c2⟩
        obtain ⟨⟨a, a1, a2, a3, a4⟩, ⟨b, b1, b2, b3⟩, e6, e7⟩ := knS_mi h t
        rw [t, if_pos c2, if_neg (show ¬ (if true = true then (1 : Int32) else 0) = 0 by decide), gR_of sA_92 (rf_92_3 hRc), Option.bind_some, aI_of sA_94 (by omega) (by omega), Option.bind_some, a3, gR_of sA_99 (rf_99_59 hRm), Option.bind_some, aI_of sA_133 (by omega) (by omega), Option.bind_some, a4]
        by_cases c3 : nI a = x1
        · have sh82 : shA[73 + 9]? = some (.inr (.int, 8)) := ss_9 sc73
          rw [if_pos c3, if_pos c3, gR_of sA_92 (rf_92_4 hRc), Option.bind_some, aI_of sA_95 (by omega) (by omega), Option.bind_some, b2, aI_of sh82 (by omega) (by omega), Option.bind_some, gR_of sA_92 (rf_92_5 hRc), Option.bind_some, aI_of sA_96 (by omega) (by omega), Option.bind_some, gR_of sA_99 (rf_99_47 hRm), Option.bind_some, gR_of sA_99 (rf_99_60 hRm), Option.bind_some, aI_of sA_134 (by omega) (by omega), Option.bind_some, b3, show (8 : Int32) + nI b = nI (8 + b) from nI_add 8 b, aI_of sA_131 (by omega) (by omega), Option.bind_some, gR_of sA_99 (rf_99_61 hRm), Option.bind_some, aI_of sA_135 (by omega) (by omega), Option.bind_some, wo b b1, e6]
          have fin : ∀ y : Int32, ∃ b : Bool, (if y = m.1 136 i then xloop (fun _ _ _ _ _ => none) (b_X5_agrees_2 shA) F 92 x1 (73 + 9) (nI (i + 1)) c else some (0, c)) = some (if b then 1 else 0, c) ∧ (if y = m.1 136 i then xloop (fun _ _ _ _ => none) (b_X10_isSo_2 shA) F' 99 x1 (nI (i + 1)) m else some (0, m)) = some (if b then 1 else 0, m) := by
            intro y
            by_cases q : y = m.1 136 i
            · rw [if_pos q, if_pos q]; exact ih0
            · rw [if_neg q, if_neg q]; exact ⟨false, rfl, rfl⟩
          by_cases c4 : m.1 131 (8 + b) < m.1 135 i
          · rw [if_pos c4, if_pos c4, gR_of sA_92 (rf_92_6 hRc), Option.bind_some, aB_of sA_97 (by omega) (by omega), Option.bind_some, gR_of sA_99 (rf_99_62 hRm), Option.bind_some, aB_of sA_136 (by omega) (by omega), Option.bind_some, e7]; exact fin 0
          · rw [if_neg c4, if_neg c4, gR_of sA_92 (rf_92_6 hRc), Option.bind_some, aB_of sA_97 (by omega) (by omega), Option.bind_some, gR_of sA_99 (rf_99_62 hRm), Option.bind_some, aB_of sA_136 (by omega) (by omega), Option.bind_some, e7]; exact fin 1
        · rw [if_neg c3, if_neg c3]; exact ih0
      · rw [if_neg c2, show knS K m.1 i = false from decide_eq_false (fun z => c2 z.2.2), if_pos (show (if false = true then (1 : Int32) else 0) = 0 by decide)]; exact ih0
    · rw [if_neg c1, show knS K m.1 i = false from decide_eq_false (fun z => c1 z.2.1), if_pos (show (if false = true then (1 : Int32) else 0) = 0 by decide)]; exact ih0

/-! LEVEL 2: text. Words -/
def wtx : List (List Nat) := [[115, 116, 97, 105, 114], [98, 101, 110, 99, 104], [119, 97, 108, 107, 101, 114], [114, 101, 115, 116], [112, 105, 97, 110, 111], [99, 97, 108, 108], [115, 101, 101, 100], [108, 97, 119], [115, 105, 116, 115], [116, 97, 108, 107], [119, 101, 97, 114], [111, 114], [97, 110, 100], [110, 111, 116], [112, 97, 99, 101], [117, 112], [115, 116, 101, 112], [119, 111, 114, 110], [102, 117, 108, 108], [115, 97, 116], [109, 105, 110, 117, 116, 101]]
def wst : List Nat := [0, 6, 12, 19, 24, 30, 35, 40, 44, 49, 54, 59, 62, 66, 70, 75, 78, 83, 88, 93, 97, 104]
def wL (i : Nat) : Nat := (wtx.getD i []).length
def wC (i j : Nat) : Nat := (wtx.getD i []).getD j 0
def wS (i : Nat) : Nat := wst.getD i 0
theorem wx_1 : ∀ i : Fin 21, wL i.val ≤ 6 ∧ 1 ≤ wL i.val ∧ wS (i.val + 1) = wS i.val + wL i.val + 1 ∧ wS i.val + wL i.val < 104 ∧ xBYT.getD (wS i.val + wL i.val) 0 = 32 := by decide +kernel
theorem wx_2 : ∀ i : Fin 21, ∀ j : Fin 6, j.val < wL i.val → xBYT.getD (wS i.val + j.val) 0 = nI (wC i.val j.val) ∧ 97 ≤ wC i.val j.val ∧ wC i.val j.val ≤ 122 := by decide +kernel
def E6 (f : Nat → Nat) : Nat := f 0 * 33554432 + f 1 * 1048576 + f 2 * 32768 + f 3 * 1024 + f 4 * 32 + f 5
def wD (i k : Nat) : Nat := if k < wL i then wC i k - 96 else 0
theorem wx_3 : ∀ i : Fin 21, wdl.getD i.val 0 = nI (E6 (wD i.val)) := by decide +kernel
def dg (B : Nat → Nat) (p l k : Nat) : Nat := if k < l then B (p + k) - 96 else 0
theorem xch_at {k : Nat} (h : k < 104) : xch (nI k) = some (xBYT.getD k 0) := by
  have h1 : ¬ (nI k < 0 ∨ 104 ≤ (nI k).toNatClampNeg) := nI_in h (by omega)
  unfold xch
  rw [if_neg h1, nI_clamp (by omega)]
/-- the run of l letters from p on is the word i -/
def WM (B : Nat → Nat) (p l i : Nat) : Prop := l = wL i ∧ ∀ j, j < l → B (p + j) = wC i j
theorem E6_inj {f g : Nat → Nat} (hf : ∀ k, k < 6 → f k < 32) (hg : ∀ k, k < 6 → g k < 32) (e : E6 f = E6 g) : ∀ k, k < 6 → f k = g k := by
  unfold E6 at e
  have f0 := hf 0 (by omega); have f1 := hf 1 (by omega); have f2 := hf 2 (by omega); have f3 := hf 3 (by omega); have f4 := hf 4 (by omega); have f5 := hf 5 (by omega)
  have g0 := hg 0 (by omega); have g1 := hg 1 (by omega); have g2 := hg 2 (by omega); have g3 := hg 3 (by omega); have g4 := hg 4 (by omega); have g5 := hg 5 (by omega)
  have a0 : f 0 = g 0 := by omega
  have a1 : f 1 = g 1 := by omega
  have a2 : f 2 = g 2 := by omega
  have a3 : f 3 = g 3 := by omega
  have a4 : f 4 = g 4 := by omega
  have a5 : f 5 = g 5 := by omega
  intro k hk
  rcases (show k = 0 ∨ k = 1 ∨ k = 2 ∨ k = 3 ∨ k = 4 ∨ k = 5 by omega) with rfl | rfl | rfl | rfl | rfl | rfl
  · exact a0
  · exact a1
  · exact a2
  · exact a3
  · exact a4
  · exact a5
theorem E6_lt {f : Nat → Nat} (hf : ∀ k, k < 6 → f k < 32) : E6 f < 2 ^ 30 := by
  unfold E6
  have f0 := hf 0 (by omega); have f1 := hf 1 (by omega); have f2 := hf 2 (by omega); have f3 := hf 3 (by omega); have f4 := hf 4 (by omega); have f5 := hf 5 (by omega)
  omega
theorem E6_congr {f g : Nat → Nat} (h : ∀ k, k < 6 → f k = g k) : E6 f = E6 g := by
  unfold E6
  rw [h 0 (by omega), h 1 (by omega), h 2 (by omega), h 3 (by omega), h 4 (by omega), h 5 (by omega)]
theorem wm_iff {B : Nat → Nat} {p l i : Nat} (hi : i < 21) (hl : l ≤ 6) (hB : ∀ j, j < l → 97 ≤ B (p + j) ∧ B (p + j) ≤ 122) : (wdl.getD i 0 = nI (E6 (dg B p l)) ↔ WM B p l i) := by
  obtain ⟨w1, w2, _⟩ := wx_1 ⟨i, hi⟩
  dsimp only at w1 w2
  have w3 : ∀ j, j < wL i → 97 ≤ wC i j ∧ wC i j ≤ 122 := fun j hj => (wx_2 ⟨i, hi⟩ ⟨j, by omega⟩ hj).2
  have d1 : ∀ k, k < 6 → dg B p l k < 32 := fun k _ => by
    unfold dg
    by_cases c : k < l
    · rw [if_pos c]; have := hB k c; omega
    · rw [if_neg c]; omega
  have d2 : ∀ k, k < 6 → wD i k < 32 := fun k _ => by
    unfold wD
    by_cases c : k < wL i
    · rw [if_pos c]; have := w3 k c; omega
    · rw [if_neg c]; omega
  have e3 := wx_3 ⟨i, hi⟩
  dsimp only at e3
  rw [e3, nI_eq (by have := E6_lt d2; omega) (by have := E6_lt d1; omega)]
  constructor
  · intro e
    have k := E6_inj d2 d1 e
    have hl2 : l = wL i := by
      rcases Nat.lt_trichotomy l (wL i) with z | z | z
      · exfalso
        have := k l (by omega)
        unfold wD dg at this
        rw [if_pos z, if_neg (by omega)] at this
        have := w3 l z; omega
      · exact z
      · exfalso
        have := k (wL i) (by omega)
        unfold wD dg at this
        rw [if_neg (by omega), if_pos z] at this
        have := hB (wL i) z; omega
    refine ⟨hl2, fun j hj => ?_⟩
    have := k j (by omega)
    unfold wD dg at this
    rw [if_pos (by omega), if_pos hj] at this
    have := w3 j (by omega); have := hB j hj; omega
  · rintro ⟨rfl, e⟩
    apply E6_congr
    intro k hk
    unfold wD dg
    by_cases c : k < wL i
    · rw [if_pos c, if_pos c, e k c]
    · rw [if_neg c, if_neg c]
theorem wd_skip {J : Nat → Nat → Int32} {L' : Nat → Nat → Int64} {R' : Nat → Nat → Option Nat} {i : Nat} (hi : i < 21) {rc : Nat → Int32 → Int32 → xD → Option (Int32 × xD)} : ∀ g j F, j + g = wL i → g < F → xloop (fun _ _ _ _ => none) (b_X10_word_97 shA rc) F 99 (nI i) (nI (wS i + j)) (J, L', R') = rc 99 (nI (i + 1)) (nI (wS (i + 1))) (J, L', R') := by
  obtain ⟨w1, w2, w4, w5, w6⟩ := wx_1 ⟨i, hi⟩
  dsimp only at w1 w2 w4 w5 w6
  intro g
  induction g with
  | zero =>
    intro j F h1 h2
    obtain ⟨F, rfl⟩ : ∃ G, F = G + 1 := ⟨F - 1, by omega⟩
    rw [loop_s]
    generalize xloop (fun _ _ _ _ => none) (b_X10_word_97 shA rc) F = rd
    rw [b_X10_word_97, xch_at (by omega), Option.bind_some, show j = wL i by omega, w6, if_pos rfl, k_X10_word_114, nI_1, nI_1, w4]
  | succ g ih =>
    intro j F h1 h2
    obtain ⟨F, rfl⟩ : ∃ G, F = G + 1 := ⟨F - 1, by omega⟩
    obtain ⟨z1, z2, z3⟩ := wx_2 ⟨i, hi⟩ ⟨j, by omega⟩ (show j < wL i by omega)
    dsimp only at z1 z2 z3
    rw [loop_s, b_X10_word_97, xch_at (by omega), Option.bind_some, z1, if_neg (show ¬ nI (wC i j) = 32 from fun z => absurd ((nI_eq (b := 32) (by omega) (by omega)).mp z) (by omega)), nI_1]
    exact ih (j + 1) F (by omega) (by omega)
theorem wd_one {P : Nat} {L' : Nat → Nat → Int64} {R' : Nat → Nat → Option Nat} (hR' : ∀ I, RefOK (I, L', R') P) {n : Nat} {B : Nat → Nat} {I J : Nat → Nat → Int32} (h : TB n B I J) {K : Nat → Nat → Int32} (e5 : K 100 = J 100) {p l : Nat} (hp : p + l ≤ n) (ep : K 99 23 = nI p) (ea : K 99 22 = nI (p + l)) (hB : ∀ j, j < l → 97 ≤ B (p + j) ∧ B (p + j) ≤ 122) {i : Nat} (hi : i < 21) {rc : Nat → Int32 → Int32 → xD → Option (Int32 × xD)} : ∀ g j F, j + g = wL i → j ≤ l → (∀ j', j' < j → B (p + j') = wC i j') → g < F → (WM B p l i ∧ xloop (fun _ _ _ _ _ => none) (b_X10_word_15 shA rc) F 99 (nI i) (nI (wS i)) (nI j) (K, L', R') = some (nI i, (K, L', R'))) ∨ (¬ WM B p l i ∧ xloop (fun _ _ _ _ _ => none) (b_X10_word_15 shA rc) F 99 (nI i) (nI (wS i)) (nI j) (K, L', R') = rc 99 (nI (i + 1)) (nI (wS (i + 1))) (K, L', R')) := by
  have h7 := tb_n7 h
  obtain ⟨w1, w2, w4, w5, w6⟩ := wx_1 ⟨i, hi⟩
  dsimp only at w1 w2 w4 w5 w6
  have sk := wd_skip (J := K) (L' := L') (R' := R') hi (rc := rc) (wL i) 0 xF (by omega) (by unfold xF; omega)
  rw [Nat.add_zero] at sk
  intro g
  induction g with
  | zero =>
    intro j F h1 h2 h3 h4
    obtain ⟨F, rfl⟩ : ∃ G, F = G + 1 := ⟨F - 1, by omega⟩
    rw [loop_s]
    generalize xloop (fun _ _ _ _ _ => none) (b_X10_word_15 shA rc) F = rd
    rw [b_X10_word_15, nI_add, xch_at (by omega), Option.bind_some, show j = wL i by omega, w6, if_pos rfl, k_X10_word_69, nI_add, xch_at (by omega), Option.bind_some, w6, if_pos rfl]
    simp only [gI_of sA_99, Option.bind_some, ep, ea, nI_add, sk, k_X10_word_95]
    by_cases c : l = wL i
    · subst c
      left
      refine ⟨⟨rfl, fun j' hj' => h3 j' (by omega)⟩, ?_⟩
      rw [if_pos rfl]
    · right
      refine ⟨fun z => c z.1, ?_⟩
      rw [if_neg (fun z => by have := (nI_eq (by omega) (by omega)).mp z; omega)]
  | succ g ih =>
    intro j F h1 h2 h3 h4
    obtain ⟨F, rfl⟩ : ∃ G, F = G + 1 := ⟨F - 1, by omega⟩
    obtain ⟨z1, z2, z3⟩ := wx_2 ⟨i, hi⟩ ⟨j, by omega⟩ (show j < wL i by omega)
    dsimp only at z1 z2 z3
    have n32 : ¬ nI (wC i j) = 32 := fun z => absurd ((nI_eq (b := 32) (by omega) (by omega)).mp z) (by omega)
    have hk : k_X10_word_69 shA rc 99 (nI i) (nI (wS i)) (nI j) (K, L', R') = rc 99 (nI (i + 1)) (nI (wS (i + 1))) (K, L', R') := by
      rw [k_X10_word_69, nI_add, xch_at (by omega), Option.bind_some, z1, if_neg n32, sk]
    rw [loop_s, b_X10_word_15]
    simp only [nI_add, xch_at (show wS i + j < 104 by omega), Option.bind_some, z1, if_neg n32, gI_of sA_99, ep, ea, hk, gR_of sA_99 (rf_99_1 (hR' _))]
    by_cases c : j < l
    · rw [if_neg (nI_ge (by omega) (by omega)), aI_of sA_100 (by omega) (by omega), Option.bind_some]
      dsimp only
      have ek : K 100 (p + j) = nI (B (p + j)) := by rw [e5, (tb_by h (p + j) (by omega)).2.1]
      by_cases c2 : B (p + j) = wC i j
      · rw [if_pos (show K 100 (p + j) = nI (wC i j) by rw [ek, c2]), nI_1]
        refine ih (j + 1) F (by omega) (by omega) (fun j' hj' => ?_) (by omega)
        by_cases c3 : j' = j
        · subst c3; exact c2
        · exact h3 j' (by omega)
      · rw [if_neg (show ¬ K 100 (p + j) = nI (wC i j) from fun z => c2 ((nI_eq (by have := hB j c; omega) (by omega)).mp (ek.symm.trans z)))]
        exact Or.inr ⟨fun z => c2 (z.2 j c), rfl⟩
    · rw [if_pos (nI_le (by omega) (by omega))]
      exact Or.inr ⟨fun z => by have := z.1; omega, rfl⟩
theorem wd_all {P : Nat} {L' : Nat → Nat → Int64} {R' : Nat → Nat → Option Nat} (hR' : ∀ I, RefOK (I, L', R') P) {n : Nat} {B : Nat → Nat} {I J : Nat → Nat → Int32} (h : TB n B I J) {K : Nat → Nat → Int32} (e5 : K 100 = J 100) {p l : Nat} (hp : p + l ≤ n) (ep : K 99 23 = nI p) (ea : K 99 22 = nI (p + l)) (hB : ∀ j, j < l → 97 ≤ B (p + j) ∧ B (p + j) ≤ 122) : ∀ g i F, i + g = 21 → g < F → (∃ j, i ≤ j ∧ j < 21 ∧ WM B p l j ∧ xloop (fun _ _ _ _ => none) (b_X10_word_4 shA) F 99 (nI i) (nI (wS i)) (K, L', R') = some (nI j, (K, L', R'))) ∨ ((∀ j, i ≤ j → j < 21 → ¬ WM B p l j) ∧ xloop (fun _ _ _ _ => none) (b_X10_word_4 shA) F 99 (nI i) (nI (wS i)) (K, L', R') = some (-1, (K, L', R'))) := by
  intro g
  induction g with
  | zero =>
    intro i F h1 h2
    obtain ⟨F, rfl⟩ : ∃ G, F = G + 1 := ⟨F - 1, by omega⟩
    right
    refine ⟨fun j j1 j2 => by omega, ?_⟩
    rw [loop_s, b_X10_word_4, show i = 21 by omega, if_pos (by decide)]
    rfl
  | succ g ih =>
    intro i F h1 h2
    obtain ⟨F, rfl⟩ : ∃ G, F = G + 1 := ⟨F - 1, by omega⟩
    obtain ⟨w1, w2, w4, w5, w6⟩ := wx_1 ⟨i, by omega⟩
    dsimp only at w1 w2 w4 w5 w6
    rw [loop_s, b_X10_word_4, if_neg (show ¬ (104 : Int32) ≤ nI (wS i) from nI_ge (b := 104) (by omega) (by omega))]
    rcases wd_one hR' h e5 hp ep ea hB (show i < 21 by omega) (rc := xloop (fun _ _ _ _ => none) (b_X10_word_4 shA) F) (wL i) 0 xF (by omega) (by omega) (fun j' hj' => by omega) (by unfold xF; omega) with ⟨y1, y2⟩ | ⟨y1, y2⟩
    · rw [nI_0] at y2
      exact Or.inl ⟨i, by omega, by omega, y1, y2⟩
    · rw [nI_0] at y2
      rw [y2]
      rcases ih (i + 1) F (by omega) (by omega) with ⟨j, j1, j2, j3, j4⟩ | ⟨j1, j2⟩
      · exact Or.inl ⟨j, by omega, j2, j3, j4⟩
      · refine Or.inr ⟨fun j q1 q2 => ?_, j2⟩
        by_cases c : j = i
        · subst c; exact y1
        · exact j1 j (by omega) q2
theorem kw_all {P : Nat} {L : Nat → Nat → Int64} {R : Nat → Nat → Option Nat} (hR : ∀ I, RefOK (I, L, R) P) {n : Nat} {B : Nat → Nat} {I J : Nat → Nat → Int32} (h : TB n B I J) {K : Nat → Nat → Int32} (e5 : K 41 = I 41) : ∀ g i F, i + g = 21 → g < F → (∃ j, i ≤ j ∧ j < 21 ∧ wdl.getD j 0 = K 40 2 ∧ (∀ j', i ≤ j' → j' < j → ¬ wdl.getD j' 0 = K 40 2) ∧ xloop (fun _ _ _ => none) (b_X7_kindOfWord_2 shA) F 40 (nI i) (K, L, R) = some (nI j, (K, L, R))) ∨ ((∀ j, i ≤ j → j < 21 → ¬ wdl.getD j 0 = K 40 2) ∧ xloop (fun _ _ _ => none) (b_X7_kindOfWord_2 shA) F 40 (nI i) (K, L, R) = some (21, (K, L, R))) := by
  intro g
  induction g with
  | zero =>
    intro i F h1 h2
    obtain ⟨F, rfl⟩ : ∃ G, F = G + 1 := ⟨F - 1, by omega⟩
    right
    refine ⟨fun j j1 j2 => by omega, ?_⟩
    rw [loop_s, b_X7_kindOfWord_2, show i = 21 by omega, if_pos (by decide)]
    rfl
  | succ g ih =>
    intro i F h1 h2
    obtain ⟨F, rfl⟩ : ∃ G, F = G + 1 := ⟨F - 1, by omega⟩
    rw [loop_s, b_X7_kindOfWord_2, if_neg (show ¬ (21 : Int32) ≤ nI i from nI_ge (b := 21) (by omega) (by omega)), gR_of sA_40 (rf_40_6 (hR _)), Option.bind_some, aI_of sA_41 (by omega) (by omega), Option.bind_some, gI_of sA_40, Option.bind_some]
    dsimp only
    have ek : K 41 i = wdl.getD i 0 := by rw [e5, tb_wd h i (by omega)]
    by_cases c : wdl.getD i 0 = K 40 2
    · rw [if_pos (show K 41 i = K 40 2 from ek.trans c)]
      exact Or.inl ⟨i, by omega, by omega, c, fun j' j1 j2 => by omega, rfl⟩
    · rw [if_neg (show ¬ K 41 i = K 40 2 from fun z => c (ek.symm.trans z)), nI_1]
      rcases ih (i + 1) F (by omega) (by omega) with ⟨j, j1, j2, j3, j4, j5⟩ | ⟨j1, j2⟩
      · refine Or.inl ⟨j, by omega, j2, j3, fun j' q1 q2 => ?_, j5⟩
        by_cases c2 : j' = i
        · subst c2; exact c
        · exact j4 j' (by omega) q2
      · refine Or.inr ⟨fun j q1 q2 => ?_, j2⟩
        by_cases c2 : j = i
        · subst c2; exact c
        · exact j1 j (by omega) q2
theorem nI_or (a b : Nat) : nI a ||| nI b = nI (a ||| b) := by
  apply Int32.toBitVec_inj.mp
  rw [Int32.toBitVec_or]
  show BitVec.ofNat 32 a ||| BitVec.ofNat 32 b = BitVec.ofNat 32 (a ||| b)
  apply BitVec.eq_of_toNat_eq
  rw [BitVec.toNat_or, BitVec.toNat_ofNat, BitVec.toNat_ofNat, BitVec.toNat_ofNat, Nat.or_mod_two_pow]
theorem or_add {i a b : Nat} (h : b < 2 ^ i) : a * 2 ^ i ||| b = a * 2 ^ i + b := by
  rw [Nat.mul_comm]; exact (Nat.two_pow_add_eq_or_of_lt h a).symm
def Ek (f : Nat → Nat) : Nat → Nat
  | 0 => 0
  | k + 1 => Ek f k * 32 + f k
theorem Ek_6 (f : Nat → Nat) : Ek f 6 = E6 f := by unfold Ek Ek Ek Ek Ek Ek Ek E6; omega
theorem Ek_lt {f : Nat → Nat} : ∀ k, (∀ j, j < k → f j < 32) → Ek f k < 32 ^ k := by
  intro k
  induction k with
  | zero => intro _; unfold Ek; decide
  | succ k ih =>
    intro h
    have h1 := ih (fun j hj => h j (by omega))
    have h2 := h k (by omega)
    unfold Ek
    rw [Nat.pow_succ]
    omega
theorem nm_loop {P : Nat} {L' : Nat → Nat → Int64} {R' : Nat → Nat → Option Nat} (hR' : ∀ I, RefOK (I, L', R') P) {n : Nat} {B : Nat → Nat} {I J : Nat → Nat → Int32} (h : TB n B I J) {p l : Nat} (hp : p + l ≤ n) (hl : l ≤ 6) (hB : ∀ j, j < l → 97 ≤ B (p + j) ∧ B (p + j) ≤ 122) : ∀ g k (K : Nat → Nat → Int32) F, k + g = 6 → K 100 = J 100 → K 99 23 = nI p → K 99 22 = nI (p + l) → K 99 25 = nI (Ek (dg B p l) k) → g < F → ∃ K', xloop (fun _ _ _ => none) (b_X10_name_7 shA) F 99 (nI k) (K, L', R') = some (K', L', R') ∧ (∀ q, q ≠ 99 → K' q = K q) ∧ (∀ j, j ≠ 25 → K' 99 j = K 99 j) ∧ K' 99 25 = nI (E6 (dg B p l)) := by
  have h7 := tb_n7 h
  have d1 : ∀ k, dg B p l k < 32 := fun k => by
    unfold dg
    by_cases c : k < l
    · rw [if_pos c]; have := hB k c; omega
    · rw [if_neg c]; omega
  intro g
  induction g with
  | zero =>
    intro k K F h1 e5 ep ea ev h2
    obtain ⟨F, rfl⟩ : ∃ G, F = G + 1 := ⟨F - 1, by omega⟩
    refine ⟨K, ?_, fun _ _ => rfl, fun _ _ => rfl, ?_⟩
    · rw [loop_s, b_X10_name_7, show k = 6 by omega, if_pos (by decide)]; rfl
    · rw [ev, show k = 6 by omega, Ek_6]
  | succ g ih =>
    intro k K F h1 e5 ep ea ev h2
    obtain ⟨F, rfl⟩ : ∃ G, F = G + 1 := ⟨F - 1, by omega⟩
    have hlt : Ek (dg B p l) k < 33554432 := by
      have z := Ek_lt (f := dg B p l) k (fun j _ => d1 j)
      have z2 : (32 : Nat) ^ k ≤ 32 ^ 5 := Nat.pow_le_pow_right (by omega) (by omega)
      have z3 : (32 : Nat) ^ 5 = 33554432 := by decide
      omega
    have sh5 : nI (Ek (dg B p l) k) <<< ((5 : Int32) &&& 31) = nI (Ek (dg B p l) k * 2 ^ 5) := pk_shlN _ 5 (by decide) (by omega)
    have vv : ∀ x, x < 32 → nI (Ek (dg B p l) k) <<< ((5 : Int32) &&& 31) ||| nI x = nI (Ek (dg B p l) k * 32 + x) := fun x hx => by
      rw [sh5, nI_or, or_add (i := 5) (by omega)]
    obtain ⟨K', p1, p2, p3, p4⟩ := ih (k + 1) (xu K 99 25 (nI (Ek (dg B p l) k * 32 + dg B p l k))) F (by omega) ((xu_off (by omega)).trans e5) ((xu_at2 (by omega)).trans ep) ((xu_at2 (by omega)).trans ea) xu_at (by omega)
    refine ⟨K', ?_, fun q hq => (p2 q hq).trans (xu_off hq), fun j hj => (p3 j hj).trans (xu_at2 hj), p4⟩
    rw [← p1, loop_s]
    generalize xloop (fun _ _ _ => none) (b_X10_name_7 shA) F = rc
    rw [b_X10_name_7, if_neg (show ¬ (6 : Int32) ≤ nI k from nI_ge (b := 6) (by omega) (by omega))]
    simp only [gI_of sA_99, Option.bind_some, ep, ea, ev, nI_add, gR_of sA_99 (rf_99_1 (hR' _)), k_X10_name_53, pM_25, nI_1]
    by_cases c : k < l
    · have hb := hB k c
      rw [if_neg (nI_ge (by omega) (by omega)), aI_of sA_100 (by omega) (by omega), Option.bind_some]
      dsimp only
      rw [e5, (tb_by h (p + k) (by omega)).2.1, show nI (B (p + k)) - (97 : Int32) = nI (B (p + k) - 97) from pk_sub (b := 97) (by omega), show nI (B (p + k) - 97) + (1 : Int32) = nI (B (p + k) - 97 + 1) from nI_1 _, show B (p + k) - 97 + 1 = dg B p l k by unfold dg; rw [if_pos c]; omega, vv _ (d1 k)]
    · rw [if_pos (nI_le (by omega) (by omega))]
      have z := vv (dg B p l k) (d1 k)
      have z0 : dg B p l k = 0 := by unfold dg; rw [if_neg c]
      rw [z0, nI_0] at z
      rw [z0, z]
theorem wv_step {B : Nat → Nat} {p l : Nat} (hl : l < 6) (hB : ∀ j, j < l + 1 → 97 ≤ B (p + j) ∧ B (p + j) ≤ 122) : nI (E6 (dg B p l)) ||| ((sgn (B (p + l)) - (97 : Int32)) + (1 : Int32)) <<< (((25 : Int32) - ((5 : Int32) * nI l)) &&& 31) = nI (E6 (dg B p (l + 1))) := by
  have hb := hB l (by omega)
  have d1 : ∀ k, dg B p l k < 32 := fun k => by
    unfold dg
    by_cases c : k < l
    · rw [if_pos c]; have := hB k (by omega); omega
    · rw [if_neg c]; omega
  have d3 : ∀ k, k < l → dg B p (l + 1) k = dg B p l k := fun k hk => by unfold dg; rw [if_pos (by omega), if_pos hk]
  have d4 : ∀ k, l ≤ k → dg B p l k = 0 := fun k hk => by unfold dg; rw [if_neg (by omega)]
  have d5 : ∀ k, l < k → dg B p (l + 1) k = 0 := fun k hk => by unfold dg; rw [if_neg (by omega)]
  have d6 : dg B p (l + 1) l = B (p + l) - 96 := by unfold dg; rw [if_pos (by omega)]
  have e1 : (sgn (B (p + l)) - (97 : Int32)) + (1 : Int32) = nI (B (p + l) - 96) := by
    rw [sg_nI (by omega), show nI (B (p + l)) - (97 : Int32) = nI (B (p + l) - 97) from pk_sub (b := 97) (by omega), show nI (B (p + l) - 97) + (1 : Int32) = nI (B (p + l) - 97 + 1) from nI_1 _, show B (p + l) - 97 + 1 = B (p + l) - 96 by omega]
  rw [e1]
  generalize hx : B (p + l) - 96 = x at d6
  have hx2 : x < 32 := by omega
  unfold E6
  rcases (show l = 0 ∨ l = 1 ∨ l = 2 ∨ l = 3 ∨ l = 4 ∨ l = 5 by omega) with rfl | rfl | rfl | rfl | rfl | rfl
  · rw [pk_shlN _ 25 (by decide) (by omega), nI_or, d6, d4 0 (by omega), d4 1 (by omega), d4 2 (by omega), d4 3 (by omega), d4 4 (by omega), d4 5 (by omega), d5 1 (by omega), d5 2 (by omega), d5 3 (by omega), d5 4 (by omega), d5 5 (by omega)]
    congr 1
    simp
  · have y0 := d1 0
    rw [pk_shlN _ 20 (by decide) (by omega), nI_or, d6, d3 0 (by omega), d4 1 (by omega), d4 2 (by omega), d4 3 (by omega), d4 4 (by omega), d4 5 (by omega), d5 2 (by omega), d5 3 (by omega), d5 4 (by omega), d5 5 (by omega)]
    congr 1
    have z := or_add (i := 25) (a := dg B p 1 0) (b := x * 2 ^ 20) (by omega)
    rw [show dg B p 1 0 * 33554432 + 0 * 1048576 + 0 * 32768 + 0 * 1024 + 0 * 32 + 0 = dg B p 1 0 * 2 ^ 25 by omega, z]
    omega
  · have y0 := d1 0; have y1 := d1 1
    rw [pk_shlN _ 15 (by decide) (by omega), nI_or, d6, d3 0 (by omega), d3 1 (by omega), d4 2 (by omega), d4 3 (by omega), d4 4 (by omega), d4 5 (by omega), d5 3 (by omega), d5 4 (by omega), d5 5 (by omega)]
    congr 1
    have z := or_add (i := 20) (a := dg B p 2 0 * 32 + dg B p 2 1) (b := x * 2 ^ 15) (by omega)
    rw [show dg B p 2 0 * 33554432 + dg B p 2 1 * 1048576 + 0 * 32768 + 0 * 1024 + 0 * 32 + 0 = (dg B p 2 0 * 32 + dg B p 2 1) * 2 ^ 20 by omega, z]
    omega
  · have y0 := d1 0; have y1 := d1 1; have y2 := d1 2
    rw [pk_shlN _ 10 (by decide) (by omega), nI_or, d6, d3 0 (by omega), d3 1 (by omega), d3 2 (by omega), d4 3 (by omega), d4 4 (by omega), d4 5 (by omega), d5 4 (by omega), d5 5 (by omega)]
    congr 1
    have z := or_add (i := 15) (a := (dg B p 3 0 * 32 + dg B p 3 1) * 32 + dg B p 3 2) (b := x * 2 ^ 10) (by omega)
    rw [show dg B p 3 0 * 33554432 + dg B p 3 1 * 1048576 + dg B p 3 2 * 32768 + 0 * 1024 + 0 * 32 + 0 = ((dg B p 3 0 * 32 + dg B p 3 1) * 32 + dg B p 3 2) * 2 ^ 15 by omega, z]
    omega
  · have y0 := d1 0; have y1 := d1 1; have y2 := d1 2; have y3 := d1 3
    rw [pk_shlN _ 5 (by decide) (by omega), nI_or, d6, d3 0 (by omega), d3 1 (by omega), d3 2 (by omega), d3 3 (by omega), d4 4 (by omega), d4 5 (by omega), d5 5 (by omega)]
    congr 1
    have z := or_add (i := 10) (a := ((dg B p 4 0 * 32 + dg B p 4 1) * 32 + dg B p 4 2) * 32 + dg B p 4 3) (b := x * 2 ^ 5) (by omega)
    rw [show dg B p 4 0 * 33554432 + dg B p 4 1 * 1048576 + dg B p 4 2 * 32768 + dg B p 4 3 * 1024 + 0 * 32 + 0 = (((dg B p 4 0 * 32 + dg B p 4 1) * 32 + dg B p 4 2) * 32 + dg B p 4 3) * 2 ^ 10 by omega, z]
    omega
  · have y0 := d1 0; have y1 := d1 1; have y2 := d1 2; have y3 := d1 3; have y4 := d1 4
    rw [pk_shlN _ 0 (by decide) (by omega), nI_or, d6, d3 0 (by omega), d3 1 (by omega), d3 2 (by omega), d3 3 (by omega), d3 4 (by omega), d4 5 (by omega)]
    congr 1
    have z := or_add (i := 5) (a := (((dg B p 5 0 * 32 + dg B p 5 1) * 32 + dg B p 5 2) * 32 + dg B p 5 3) * 32 + dg B p 5 4) (b := x * 2 ^ 0) (by omega)
    rw [show dg B p 5 0 * 33554432 + dg B p 5 1 * 1048576 + dg B p 5 2 * 32768 + dg B p 5 3 * 1024 + dg B p 5 4 * 32 + 0 = ((((dg B p 5 0 * 32 + dg B p 5 1) * 32 + dg B p 5 2) * 32 + dg B p 5 3) * 32 + dg B p 5 4) * 2 ^ 5 by omega, z]
    omega
theorem wv_loop {P : Nat} {L : Nat → Nat → Int64} {R : Nat → Nat → Option Nat} (hR : ∀ I, RefOK (I, L, R) P) {n : Nat} {B : Nat → Nat} {I J : Nat → Nat → Int32} (h : TB n B I J) {p e : Nat} (he : e ≤ n) (hB : ∀ i, p ≤ i → i < e → 97 ≤ B i ∧ B i ≤ 122) (hE : e < n → ¬ (97 ≤ B e ∧ B e ≤ 122)) : ∀ g l (K : Nat → Nat → Int32) F, p + l + g = e → K 1 = I 1 → K 40 7 = nI n → K 40 8 = nI (p + l) → (l ≤ 6 → K 40 2 = nI (E6 (dg B p l))) → g < F → ∃ K', xloop (fun _ _ _ => none) (b_X7_readWord_2 shA) F 40 (nI l) (K, L, R) = k_X7_readWord_66 shA 40 (nI (l + g)) (K', L, R) ∧ (∀ q, q ≠ 40 → K' q = K q) ∧ (∀ j, j ≠ 2 → j ≠ 8 → K' 40 j = K 40 j) ∧ K' 40 8 = nI e ∧ (l + g ≤ 6 → K' 40 2 = nI (E6 (dg B p (l + g)))) := by
  have h7 := tb_n7 h
  intro g
  induction g with
  | zero =>
    intro l K F h1 e5 e7 ea ev h2
    obtain ⟨F, rfl⟩ : ∃ G, F = G + 1 := ⟨F - 1, by omega⟩
    refine ⟨K, ?_, fun _ _ => rfl, fun _ _ _ => rfl, by rw [ea]; congr 1, ev⟩
    rw [loop_s]
    generalize xloop (fun _ _ _ => none) (b_X7_readWord_2 shA) F = rc
    rw [b_X7_readWord_2, Nat.add_zero]
    simp only [gI_of sA_40, Option.bind_some, ea, e7, gR_of sA_40 (rf_40_5 (hR _))]
    by_cases c : p + l < n
    · have hne := hE (by omega)
      rw [show e = p + l by omega] at hne
      rw [if_neg (nI_ge c (by omega)), c_byte hR h e5 c, Option.bind_some, lx_let (tb_by h _ c).1, Option.bind_some, if_neg hne]
      rfl
    · rw [if_pos (nI_le (by omega) (by omega))]
  | succ g ih =>
    intro l K F h1 e5 e7 ea ev h2
    obtain ⟨F, rfl⟩ : ∃ G, F = G + 1 := ⟨F - 1, by omega⟩
    have hb := hB (p + l) (by omega) (by omega)
    have key : ∃ v, (f_X7_bitsOfLetter shA (sgn (B (p + l))) (nI l) (K, L, R)) = some (v, (K, L, R)) ∧ (l + 1 ≤ 6 → K 40 2 ||| v = nI (E6 (dg B p (l + 1)))) := by
      unfold f_X7_bitsOfLetter k_X7_bitsOfLetter_23
      by_cases c : l < 6
      · rw [if_neg (show ¬ (6 : Int32) ≤ nI l from nI_ge (b := 6) c (by omega))]
        refine ⟨_, rfl, fun _ => ?_⟩
        rw [ev (by omega)]
        exact wv_step c (fun j hj => hB (p + j) (by omega) (by omega))
      · rw [if_pos (show (6 : Int32) ≤ nI l from nI_le (a := 6) (by omega) (by omega))]
        exact ⟨_, rfl, fun z => by omega⟩
    obtain ⟨v, k1, k2⟩ := key
    obtain ⟨K', p1, p2, p3, p4, p5⟩ := ih (l + 1) (xu (xu K 40 2 (K 40 2 ||| v)) 40 8 (nI (p + l + 1))) F (by omega) ((xu_off (by omega)).trans ((xu_off (by omega)).trans e5)) ((xu_at2 (by omega)).trans ((xu_at2 (by omega)).trans e7)) xu_at (fun z => (xu_at2 (by omega)).trans (xu_at.trans (k2 z))) (by omega)
    rw [show l + 1 + g = l + (g + 1) by omega] at p1 p5
    refine ⟨K', ?_, fun q hq => (p2 q hq).trans ((xu_off hq).trans (xu_off hq)), fun j j1 j2 => (p3 j j1 j2).trans ((xu_at2 j2).trans (xu_at2 j1)), p4, p5⟩
    rw [← p1, loop_s]
    generalize xloop (fun _ _ _ => none) (b_X7_readWord_2 shA) F = rc
    rw [b_X7_readWord_2]
    simp only [gI_of sA_40, Option.bind_some, ea, e7, gR_of sA_40 (rf_40_5 (hR _)), c_byte hR h e5 (show p + l < n by omega), lx_let (tb_by h (p + l) (by omega)).1, if_pos hb, k1, pT_40 (show 2 = 0 ∨ 2 = 1 ∨ 2 = 2 ∨ 2 = 3 ∨ 2 = 4 ∨ 2 = 7 ∨ 2 = 8 by omega), pT_40 (show 8 = 0 ∨ 8 = 1 ∨ 8 = 2 ∨ 8 = 3 ∨ 8 = 4 ∨ 8 = 7 ∨ 8 = 8 by omega)]
    rw [if_neg (nI_ge (by omega) (by omega)), if_neg (by decide), xu_at2 (by omega), ea, nI_1, nI_1]

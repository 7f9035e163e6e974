/-! LEVEL 2: text. The tokens, the class's against the reference's -/
theorem sg_1 : ∀ a : Fin 256, (sgn a.val < 97 ↔ (a.val < 97 ∨ 128 ≤ a.val)) ∧ (122 < sgn a.val ↔ (122 < a.val ∧ a.val < 128)) ∧ (sgn a.val < 48 ↔ (a.val < 48 ∨ 128 ≤ a.val)) ∧ (57 < sgn a.val ↔ (57 < a.val ∧ a.val < 128)) := by decide +kernel
theorem sg_2 : ∀ c : Fin 128, ∀ a : Fin 256, (sgn a.val = nI c.val ↔ a.val = c.val) := by decide +kernel
theorem sg_eq {a c : Nat} (ha : a < 256) (hc : c < 128) : sgn a = nI c ↔ a = c := sg_2 ⟨c, hc⟩ ⟨a, ha⟩
theorem sg_nI {a : Nat} (ha : a < 128) : sgn a = nI a := by unfold sgn; rw [if_pos ha]
theorem lx_let {a : Nat} (ha : a < 256) (d : xD) : f_X7_isLetter shA (sgn a) d = some (if 97 ≤ a ∧ a ≤ 122 then 1 else 0, d) := by
  obtain ⟨h1, h2, _, _⟩ := sg_1 ⟨a, ha⟩
  dsimp only at h1 h2
  unfold f_X7_isLetter k_X7_isLetter_16 k_X7_isLetter_17
  by_cases c1 : a < 97 ∨ 128 ≤ a
  · rw [if_pos (h1.mpr c1), if_neg (show ¬ (97 ≤ a ∧ a ≤ 122) by omega)]; rfl
  · rw [if_neg (fun z => c1 (h1.mp z))]
    by_cases c2 : 122 < a
    · rw [if_pos (h2.mpr ⟨c2, by omega⟩), if_neg (show ¬ (97 ≤ a ∧ a ≤ 122) by omega)]; rfl
    · rw [if_neg (fun z => c2 (h2.mp z).1), if_pos (show 97 ≤ a ∧ a ≤ 122 by omega)]; rfl
theorem lx_dig {a : Nat} (ha : a < 256) (d : xD) : f_X7_isDigit shA (sgn a) d = some (if 48 ≤ a ∧ a ≤ 57 then 1 else 0, d) := by
  obtain ⟨_, _, h1, h2⟩ := sg_1 ⟨a, ha⟩
  dsimp only at h1 h2
  unfold f_X7_isDigit k_X7_isDigit_16 k_X7_isDigit_17
  by_cases c1 : a < 48 ∨ 128 ≤ a
  · rw [if_pos (h1.mpr c1), if_neg (show ¬ (48 ≤ a ∧ a ≤ 57) by omega)]; rfl
  · rw [if_neg (fun z => c1 (h1.mp z))]
    by_cases c2 : 57 < a
    · rw [if_pos (h2.mpr ⟨c2, by omega⟩), if_neg (show ¬ (48 ≤ a ∧ a ≤ 57) by omega)]; rfl
    · rw [if_neg (fun z => c2 (h2.mp z).1), if_pos (show 48 ≤ a ∧ a ≤ 57 by omega)]; rfl
theorem lm_let {a : Nat} (ha : a < 256) (d : xD) : f_X10_isSmall shA (nI a) d = some (if 97 ≤ a ∧ a ≤ 122 then 1 else 0, d) := by
  have h1 : nI a < 97 ↔ a < 97 := nI_ltI (b := 97) (by omega) (by omega)
  have h2 : (122 : Int32) < nI a ↔ 122 < a := nI_ltI (a := 122) (by omega) (by omega)
  unfold f_X10_isSmall k_X10_isSmall_16 k_X10_isSmall_17
  by_cases c1 : a < 97
  · rw [if_pos (h1.mpr c1), if_neg (show ¬ (97 ≤ a ∧ a ≤ 122) by omega)]; rfl
  · rw [if_neg (fun z => c1 (h1.mp z))]
    by_cases c2 : 122 < a
    · rw [if_pos (h2.mpr c2), if_neg (show ¬ (97 ≤ a ∧ a ≤ 122) by omega)]; rfl
    · rw [if_neg (fun z => c2 (h2.mp z)), if_pos (show 97 ≤ a ∧ a ≤ 122 by omega)]; rfl
theorem lm_dig {a : Nat} (ha : a < 256) (d : xD) : f_X10_isDigit shA (nI a) d = some (if 48 ≤ a ∧ a ≤ 57 then 1 else 0, d) := by
  have h1 : nI a < 48 ↔ a < 48 := nI_ltI (b := 48) (by omega) (by omega)
  have h2 : (57 : Int32) < nI a ↔ 57 < a := nI_ltI (a := 57) (by omega) (by omega)
  unfold f_X10_isDigit k_X10_isDigit_16 k_X10_isDigit_17
  by_cases c1 : a < 48
  · rw [if_pos (h1.mpr c1), if_neg (show ¬ (48 ≤ a ∧ a ≤ 57) by omega)]; rfl
  · rw [if_neg (fun z => c1 (h1.mp z))]
    by_cases c2 : 57 < a
    · rw [if_pos (h2.mpr c2), if_neg (show ¬ (48 ≤ a ∧ a ≤ 57) by omega)]; rfl
    · rw [if_neg (fun z => c2 (h2.mp z)), if_pos (show 48 ≤ a ∧ a ≤ 57 by omega)]; rfl
theorem lm_let1 (d : xD) : f_X10_isSmall shA (-1) d = some (0, d) := rfl
theorem lm_dig1 (d : xD) : f_X10_isDigit shA (-1) d = some (0, d) := rfl
def TB (n : Nat) (B : Nat → Nat) (I J : Nat → Nat → Int32) : Prop := (n ≤ 700) ∧ (I 40 7 = nI n) ∧ (J 99 21 = nI n) ∧ (∀ i, i < n → B i < 256 ∧ J 100 i = nI (B i) ∧ I 1 i = sgn (B i)) ∧ (∀ i, i < 21 → I 41 i = wdl.getD i 0)
theorem tb_n7 {n : Nat} {B : Nat → Nat} {I J : Nat → Nat → Int32} (hh : TB n B I J) : n ≤ 700 := hh.1
theorem tb_cl {n : Nat} {B : Nat → Nat} {I J : Nat → Nat → Int32} (hh : TB n B I J) : I 40 7 = nI n := hh.2.1
theorem tb_ml {n : Nat} {B : Nat → Nat} {I J : Nat → Nat → Int32} (hh : TB n B I J) : J 99 21 = nI n := hh.2.2.1
theorem tb_by {n : Nat} {B : Nat → Nat} {I J : Nat → Nat → Int32} (hh : TB n B I J) : ∀ i, i < n → B i < 256 ∧ J 100 i = nI (B i) ∧ I 1 i = sgn (B i) := hh.2.2.2.1
theorem tb_wd {n : Nat} {B : Nat → Nat} {I J : Nat → Nat → Int32} (hh : TB n B I J) : ∀ i, i < 21 → I 41 i = wdl.getD i 0 := hh.2.2.2.2
theorem tb_congr {n : Nat} {B : Nat → Nat} {I J I' J' : Nat → Nat → Int32} (h : TB n B I J) (e1 : I' 40 7 = I 40 7) (e2 : I' 1 = I 1) (e3 : I' 41 = I 41) (e4 : J' 99 21 = J 99 21) (e5 : J' 100 = J 100) : TB n B I' J' := by
  refine ⟨tb_n7 h, e1.trans (tb_cl h), e4.trans (tb_ml h), fun i hi => ?_, fun i hi => ?_⟩
  · rw [e5, e2]; exact tb_by h i hi
  · rw [e3]; exact tb_wd h i hi
theorem m_here {P : Nat} {L' : Nat → Nat → Int64} {R' : Nat → Nat → Option Nat} (hR' : ∀ I, RefOK (I, L', R') P) {n : Nat} {B : Nat → Nat} {I J : Nat → Nat → Int32} (h : TB n B I J) {K : Nat → Nat → Int32} (e4 : K 99 21 = J 99 21) (e5 : K 100 = J 100) {a : Nat} (ha : a ≤ n) (e : K 99 22 = nI a) : f_X10_here shA 99 (K, L', R') = some (if a < n then nI (B a) else -1, (K, L', R')) := by
  have h7 := tb_n7 h
  unfold f_X10_here k_X10_here_24
  simp only [gI_of sA_99, Option.bind_some, gR_of sA_99 (rf_99_1 (hR' _)), e, e4, tb_ml h]
  by_cases c : a < n
  · rw [if_neg (nI_ge c (by omega)), if_pos c, aI_of sA_100 (by omega) (by omega), Option.bind_some]
    dsimp only
    rw [e5, (tb_by h a c).2.1]
  · rw [if_pos (nI_le (by omega) (by omega)), if_neg c]
theorem c_byte {P : Nat} {L : Nat → Nat → Int64} {R : Nat → Nat → Option Nat} (hR : ∀ I, RefOK (I, L, R) P) {n : Nat} {B : Nat → Nat} {I J : Nat → Nat → Int32} (h : TB n B I J) {K : Nat → Nat → Int32} (e5 : K 1 = I 1) {a : Nat} (ha : a < n) : xaI .byte shA (K, L, R) 1 (nI a) = some (sgn (B a)) := by
  have h7 := tb_n7 h
  rw [aI_of sA_1 (by omega) (by omega)]
  dsimp only
  rw [e5, (tb_by h a ha).2.2]
theorem pT_40 {k : Nat} (hk : k = 0 ∨ k = 1 ∨ k = 2 ∨ k = 3 ∨ k = 4 ∨ k = 7 ∨ k = 8) {d : xD} {v : Int32} : xpI 7 shA d 40 k v = some (xu d.1 40 k v, d.2.1, d.2.2) := by
  rcases hk with rfl | rfl | rfl | rfl | rfl | rfl | rfl <;> exact pI_of sA_40 rfl
theorem lx_skip {P P' : Nat} {L L' : Nat → Nat → Int64} {R R' : Nat → Nat → Option Nat} (hR : ∀ I, RefOK (I, L, R) P) (hR' : ∀ I, RefOK (I, L', R') P') {n : Nat} {B : Nat → Nat} : ∀ g a I J F F', TB n B I J → a + g = n → I 40 8 = nI a → J 99 22 = nI a → g < F → g < F' → ∃ a', a ≤ a' ∧ a' ≤ n ∧ xloop (fun _ _ => none) (b_X7_next_0 shA) F 40 (I, L, R) = k_X7_next_52 shA 40 (xu I 40 8 (nI a'), L, R) ∧ xloop (fun _ _ => none) (b_X10_token_0 shA) F' 99 (J, L', R') = k_X10_token_31 shA 99 (xu J 99 22 (nI a'), L', R') := by
  intro g
  induction g with
  | zero =>
    intro a I J F F' h h1 e1 e2 h2 h3
    have h7 := tb_n7 h
    obtain ⟨F, rfl⟩ : ∃ G, F = G + 1 := ⟨F - 1, by omega⟩
    obtain ⟨F', rfl⟩ : ∃ G, F' = G + 1 := ⟨F' - 1, by omega⟩
    have ex : xu I 40 8 (nI a) = I := by rw [← e1, xu_self]
    have ey : xu J 99 22 (nI a) = J := by rw [← e2, xu_self]
    refine ⟨a, by omega, by omega, ?_, ?_⟩
    · rw [loop_s, b_X7_next_0, ex]
      simp only [gI_of sA_40, Option.bind_some, e1, tb_cl h]
      rw [if_pos (nI_le (by omega) (by omega))]
    · rw [loop_s, b_X10_token_0, ey]
      simp only [on_of sA_99, m_here hR' h rfl rfl (show a ≤ n by omega) e2, Option.bind_some]
      rw [if_neg (show ¬ a < n by omega), if_neg (show ¬ (-1 : Int32) = 10 by decide), if_neg (show ¬ (-1 : Int32) = 32 by decide)]
  | succ g ih =>
    intro a I J F F' h h1 e1 e2 h2 h3
    have h7 := tb_n7 h
    obtain ⟨F, rfl⟩ : ∃ G, F = G + 1 := ⟨F - 1, by omega⟩
    obtain ⟨F', rfl⟩ : ∃ G, F' = G + 1 := ⟨F' - 1, by omega⟩
    have hb := (tb_by h a (by omega)).1
    have s10 : sgn (B a) = 10 ↔ B a = 10 := sg_eq (c := 10) hb (by omega)
    have s32 : sgn (B a) = 32 ↔ B a = 32 := sg_eq (c := 32) hb (by omega)
    have n10 : nI (B a) = 10 ↔ B a = 10 := nI_eq (b := 10) (by omega) (by omega)
    have n32 : nI (B a) = 32 ↔ B a = 32 := nI_eq (b := 32) (by omega) (by omega)
    have hc : xloop (fun _ _ => none) (b_X7_next_0 shA) (F + 1) 40 (I, L, R) = if B a = 10 ∨ B a = 32 then xloop (fun _ _ => none) (b_X7_next_0 shA) F 40 (xu I 40 8 (nI (a + 1)), L, R) else k_X7_next_52 shA 40 (I, L, R) := by
      rw [loop_s]
      generalize xloop (fun _ _ => none) (b_X7_next_0 shA) F = rc
      rw [b_X7_next_0]
      simp only [gI_of sA_40, Option.bind_some, e1, tb_cl h, gR_of sA_40 (rf_40_5 (hR _)), c_byte hR h rfl (show a < n by omega), k_X7_next_39, nI_1, pT_40 (show 8 = 0 ∨ 8 = 1 ∨ 8 = 2 ∨ 8 = 3 ∨ 8 = 4 ∨ 8 = 7 ∨ 8 = 8 by omega), s10, s32]
      rw [if_neg (nI_ge (by omega) (by omega))]
      by_cases z : B a = 10
      · rw [if_pos z, if_pos (Or.inl z)]
      · rw [if_neg z]
        by_cases z2 : B a = 32
        · rw [if_pos z2, if_pos (Or.inr z2)]
        · rw [if_neg z2, if_neg (by omega)]
    have hm : xloop (fun _ _ => none) (b_X10_token_0 shA) (F' + 1) 99 (J, L', R') = if B a = 10 ∨ B a = 32 then xloop (fun _ _ => none) (b_X10_token_0 shA) F' 99 (xu J 99 22 (nI (a + 1)), L', R') else k_X10_token_31 shA 99 (J, L', R') := by
      rw [loop_s]
      generalize xloop (fun _ _ => none) (b_X10_token_0 shA) F' = rc
      rw [b_X10_token_0]
      simp only [on_of sA_99, m_here hR' h rfl rfl (show a ≤ n by omega) e2, Option.bind_some, if_pos (show a < n by omega), n10, n32, k_X10_token_18, gI_of sA_99, e2, nI_1, pM_22]
      by_cases z : B a = 10
      · rw [if_pos z, if_pos (Or.inl z)]
      · rw [if_neg z]
        by_cases z2 : B a = 32
        · rw [if_pos z2, if_pos (Or.inr z2)]
        · rw [if_neg z2, if_neg (by omega)]
    rw [hc, hm]
    by_cases z : B a = 10 ∨ B a = 32
    · rw [if_pos z, if_pos z]
      obtain ⟨a', p1, p2, p3, p4⟩ := ih (a + 1) (xu I 40 8 (nI (a + 1))) (xu J 99 22 (nI (a + 1))) F F' (tb_congr h (xu_at2 (by omega)) (xu_off (by omega)) (xu_off (by omega)) (xu_at2 (by omega)) (xu_off (by omega))) (by omega) xu_at xu_at (by omega) (by omega)
      rw [xu_xu] at p3 p4
      exact ⟨a', by omega, p2, p3, p4⟩
    · rw [if_neg z, if_neg z]
      refine ⟨a, by omega, by omega, ?_, ?_⟩
      · rw [← e1, xu_self]
      · rw [← e2, xu_self]
theorem lx_run (B : Nat → Nat) (Q : Nat → Prop) (n : Nat) : ∀ g a, a + g = n → ∃ e, a ≤ e ∧ e ≤ n ∧ (∀ i, a ≤ i → i < e → Q (B i)) ∧ (e < n → ¬ Q (B e)) := by
  intro g
  induction g with
  | zero => intro a h; exact ⟨a, by omega, by omega, fun i _ _ => by omega, fun _ => by omega⟩
  | succ g ih =>
    intro a h
    by_cases c : Q (B a)
    · obtain ⟨e, e1, e2, e3, e4⟩ := ih (a + 1) (by omega)
      refine ⟨e, by omega, e2, fun i i1 i2 => ?_, e4⟩
      by_cases z : i = a
      · subst z; exact c
      · exact e3 i (by omega) i2
    · exact ⟨a, by omega, by omega, fun i _ _ => by omega, fun _ => c⟩
/-- numbers: below 100000 alike, else both beyond every bound -/
def NV (x y : Nat) : Prop := (x = y ∧ x ≤ 99999) ∨ (x = 100000 ∧ 100000 ≤ y ∧ y ≤ 1000000)
theorem lx_num {P P' : Nat} {L L' : Nat → Nat → Int64} {R R' : Nat → Nat → Option Nat} (hR : ∀ I, RefOK (I, L, R) P) (hR' : ∀ I, RefOK (I, L', R') P') {n : Nat} {B : Nat → Nat} : ∀ g a I J F F' x y, TB n B I J → a + g = n → I 40 8 = nI a → J 99 22 = nI a → I 40 2 = nI x → J 99 25 = nI y → NV x y → g < F → g < F' → ∃ a' x' y' I' J', a ≤ a' ∧ a' ≤ n ∧ (a < n → (48 ≤ B a ∧ B a ≤ 57) → a < a') ∧ NV x' y' ∧ xloop (fun _ _ => none) (b_X7_readNumber_0 shA) F 40 (I, L, R) = some (I', L, R) ∧ xloop (fun _ _ => none) (b_X10_token_162 shA) F' 99 (J, L', R') = some (J', L', R') ∧ (∀ q, q ≠ 40 → I' q = I q) ∧ (∀ j, j ≠ 0 → j ≠ 2 → j ≠ 8 → I' 40 j = I 40 j) ∧ (∀ q, q ≠ 99 → J' q = J q) ∧ (∀ j, j ≠ 22 → j ≠ 25 → J' 99 j = J 99 j) ∧ I' 40 0 = 22 ∧ I' 40 2 = nI x' ∧ I' 40 8 = nI a' ∧ J' 99 22 = nI a' ∧ J' 99 25 = nI y' := by
  intro g
  have stop : ∀ a I J F F' x y, TB n B I J → a ≤ n → (a < n → ¬ (48 ≤ B a ∧ B a ≤ 57)) → I 40 8 = nI a → J 99 22 = nI a → I 40 2 = nI x → J 99 25 = nI y → NV x y → ∃ a' x' y' I' J', a ≤ a' ∧ a' ≤ n ∧ (a < n → (48 ≤ B a ∧ B a ≤ 57) → a < a') ∧ NV x' y' ∧ xloop (fun _ _ => none) (b_X7_readNumber_0 shA) (F + 1) 40 (I, L, R) = some (I', L, R) ∧ xloop (fun _ _ => none) (b_X10_token_162 shA) (F' + 1) 99 (J, L', R') = some (J', L', R') ∧ (∀ q, q ≠ 40 → I' q = I q) ∧ (∀ j, j ≠ 0 → j ≠ 2 → j ≠ 8 → I' 40 j = I 40 j) ∧ (∀ q, q ≠ 99 → J' q = J q) ∧ (∀ j, j ≠ 22 → j ≠ 25 → J' 99 j = J 99 j) ∧ I' 40 0 = 22 ∧ I' 40 2 = nI x' ∧ I' 40 8 = nI a' ∧ J' 99 22 = nI a' ∧ J' 99 25 = nI y' := by
    intro a I J F F' x y h ha hd e1 e2 e3 e4 hv
    have h7 := tb_n7 h
    refine ⟨a, x, y, xu I 40 0 22, J, by omega, ha, fun z z2 => absurd z2 (hd z), hv, ?_, ?_, fun q hq => xu_off hq, fun j j1 _ _ => xu_at2 j1, fun _ _ => rfl, fun _ _ _ => rfl, xu_at, (xu_at2 (by omega)).trans e3, (xu_at2 (by omega)).trans e1, e2, e4⟩
    · rw [loop_s]
      generalize xloop (fun _ _ => none) (b_X7_readNumber_0 shA) F = rc
      rw [b_X7_readNumber_0]
      simp only [gI_of sA_40, Option.bind_some, e1, tb_cl h, gR_of sA_40 (rf_40_5 (hR _)), k_X7_readNumber_68, pT_40 (show 0 = 0 ∨ 0 = 1 ∨ 0 = 2 ∨ 0 = 3 ∨ 0 = 4 ∨ 0 = 7 ∨ 0 = 8 by omega)]
      by_cases z : a < n
      · rw [if_neg (nI_ge z (by omega)), c_byte hR h rfl z, Option.bind_some, lx_dig (tb_by h a z).1, Option.bind_some, if_neg (hd z)]
        rfl
      · rw [if_pos (nI_le (by omega) (by omega))]
    · rw [loop_s]
      generalize xloop (fun _ _ => none) (b_X10_token_162 shA) F' = rc
      rw [b_X10_token_162]
      simp only [on_of sA_99, m_here hR' h rfl rfl ha e2, Option.bind_some]
      by_cases z : a < n
      · rw [if_pos z, lm_dig (tb_by h a z).1, Option.bind_some, if_neg (hd z)]
        rfl
      · rw [if_neg z, lm_dig1]
        rfl
  induction g with
  | zero =>
    intro a I J F F' x y h h1 e1 e2 e3 e4 hv h2 h3
    obtain ⟨F, rfl⟩ : ∃ G, F = G + 1 := ⟨F - 1, by omega⟩
    obtain ⟨F', rfl⟩ : ∃ G, F' = G + 1 := ⟨F' - 1, by omega⟩
    exact stop a I J F F' x y h (by omega) (fun z => by omega) e1 e2 e3 e4 hv
  | succ g ih =>
    intro a I J F F' x y h h1 e1 e2 e3 e4 hv h2 h3
    have h7 := tb_n7 h
    obtain ⟨F, rfl⟩ : ∃ G, F = G + 1 := ⟨F - 1, by omega⟩
    obtain ⟨F', rfl⟩ : ∃ G, F' = G + 1 := ⟨F' - 1, by omega⟩
    by_cases hd : 48 ≤ B a ∧ B a ≤ 57
    · have hb := (tb_by h a (by omega)).1
      have hx : x ≤ 100000 := by unfold NV at hv; omega
      have v1 : ((nI x * (10 : Int32)) + sgn (B a)) - (48 : Int32) = nI (x * 10 + B a - 48) := by
        rw [sg_nI (by omega), show nI x * (10 : Int32) = nI (x * 10) from nI_mul x 10, nI_add]
        exact pk_sub (b := 48) (by omega)
      have v2 : (if (100000 : Int32) < nI (x * 10 + B a - 48) then (100000 : Int32) else nI (x * 10 + B a - 48)) = nI (if 100000 < x * 10 + B a - 48 then 100000 else x * 10 + B a - 48) := by
        have z : (100000 : Int32) < nI (x * 10 + B a - 48) ↔ 100000 < x * 10 + B a - 48 := nI_ltI (a := 100000) (by omega) (by omega)
        by_cases c : 100000 < x * 10 + B a - 48
        · rw [if_pos (z.mpr c), if_pos c]; rfl
        · rw [if_neg (fun q => c (z.mp q)), if_neg c]
      have hy : y ≤ 1000000 := by unfold NV at hv; omega
      have w1 : nI y ≤ (99999 : Int32) ↔ y ≤ 99999 := nI_leI (b := 99999) (by omega) (by omega)
      have w2 : y ≤ 99999 → (((10 : Int32) * nI y) + nI (B a)) - (48 : Int32) = nI (10 * y + B a - 48) := fun _ => by
        rw [show (10 : Int32) * nI y = nI (10 * y) from nI_mul 10 y, nI_add]
        exact pk_sub (b := 48) (by omega)
      have hv' : NV (if 100000 < x * 10 + B a - 48 then 100000 else x * 10 + B a - 48) (if y ≤ 99999 then 10 * y + B a - 48 else y) := by
        unfold NV at hv ⊢
        rcases hv with ⟨rfl, z⟩ | ⟨z1, z2, z3⟩
        · rw [if_pos z]
          by_cases c : 100000 < x * 10 + B a - 48
          · rw [if_pos c]; omega
          · rw [if_neg c]; omega
        · rw [if_neg (show ¬ y ≤ 99999 by omega), if_pos (by omega)]; omega
      generalize hX : (if 100000 < x * 10 + B a - 48 then 100000 else x * 10 + B a - 48) = X at v2 hv'
      generalize hY : (if y ≤ 99999 then 10 * y + B a - 48 else y) = Y at hv'
      obtain ⟨a', x', y', I', J', p1, p2, _, p4, p5, p6, p7, p8, p9, p10, p11, p12, p13, p14, p15⟩ := ih (a + 1) (xu (xu I 40 2 (nI X)) 40 8 (nI (a + 1))) (xu (xu J 99 25 (nI Y)) 99 22 (nI (a + 1))) F F' X Y (tb_congr h ((xu_at2 (by omega)).trans (xu_at2 (by omega))) ((xu_off (by omega)).trans (xu_off (by omega))) ((xu_off (by omega)).trans (xu_off (by omega))) ((xu_at2 (by omega)).trans (xu_at2 (by omega))) ((xu_off (by omega)).trans (xu_off (by omega)))) (by omega) xu_at xu_at ((xu_at2 (by omega)).trans xu_at) ((xu_at2 (by omega)).trans xu_at) hv' (by omega) (by omega)
      refine ⟨a', x', y', I', J', by omega, p2, fun _ _ => by omega, p4, ?_, ?_, fun q hq => ?_, fun j j1 j2 j3 => ?_, fun q hq => ?_, fun j j1 j2 => ?_, p11, p12, p13, p14, p15⟩
      · rw [← p5, loop_s]
        generalize xloop (fun _ _ => none) (b_X7_readNumber_0 shA) F = rc
        rw [b_X7_readNumber_0]
        simp only [gI_of sA_40, Option.bind_some, e1, tb_cl h, gR_of sA_40 (rf_40_5 (hR _)), c_byte hR h rfl (show a < n by omega), lx_dig hb, if_pos hd, e3, v1, v2, pT_40 (show 2 = 0 ∨ 2 = 1 ∨ 2 = 2 ∨ 2 = 3 ∨ 2 = 4 ∨ 2 = 7 ∨ 2 = 8 by omega), pT_40 (show 8 = 0 ∨ 8 = 1 ∨ 8 = 2 ∨ 8 = 3 ∨ 8 = 4 ∨ 8 = 7 ∨ 8 = 8 by omega)]
        rw [if_neg (nI_ge (by omega) (by omega)), if_neg (by decide), xu_at2 (by omega), e1, nI_1]
      · rw [← p6, loop_s]
        generalize xloop (fun _ _ => none) (b_X10_token_162 shA) F' = rc
        rw [b_X10_token_162]
        simp only [on_of sA_99, m_here hR' h rfl rfl (show a ≤ n by omega) e2, Option.bind_some, if_pos (show a < n by omega), lm_dig hb, if_pos hd, gI_of sA_99, e4, k_X10_token_204, pM_25, pM_22]
        rw [if_neg (by decide)]
        by_cases c : y ≤ 99999
        · rw [if_pos (w1.mpr c), w2 c, xu_at2 (by omega), e2, nI_1]
          rw [if_pos c] at hY
          rw [hY]
        · rw [if_neg (fun q => c (w1.mp q)), xu_at2 (by omega), e2, nI_1]
          rw [if_neg c] at hY
          rw [hY]
      · rw [p7 q hq, xu_off hq, xu_off hq]
      · rw [p8 j j1 j2 j3, xu_at2 j3, xu_at2 j2]
      · rw [p9 q hq, xu_off hq, xu_off hq]
      · rw [p10 j j1 j2, xu_at2 j1, xu_at2 j2]
    · exact stop a I J F F' x y h (by omega) (fun _ => hd) e1 e2 e3 e4 hv

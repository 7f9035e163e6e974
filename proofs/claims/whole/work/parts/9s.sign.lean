/-! LEVEL 2: text. Signs, and the next token -/
def sgc (t : Nat) : Nat := [59, 40, 41, 43, 45, 42, 47, 60, 256, 61, 257, 258, 62].getD (t - 23) 0
def sgS (b : Nat) : Nat := if b = 59 then 3 else (if b = 40 then 3 else (if b = 41 then 3 else (if b = 43 then 3 else (if b = 45 then 3 else (if b = 42 then 3 else (if b = 47 then 3 else (if b = 60 then 3 else (if b = 61 then 3 else (if b = 62 then 3 else (5))))))))))
def ksN (b : Nat) : Nat := if b = 40 then 24 else if b = 41 then 25 else if b = 42 then 28 else if b = 43 then 26 else if b = 45 then 27 else if b = 47 then 29 else if b = 59 then 23 else if b = 61 then 32 else 37
theorem ks_dec : ∀ b : Fin 256, b.val ≠ 60 → b.val ≠ 62 → (f_X7_kindOfSign shA (sgn b.val) xZD).map Prod.fst = some (nI (ksN b.val)) ∧ ((ksN b.val ≤ 35 ∧ 23 ≤ ksN b.val ∧ sgS b.val = 3 ∧ sgc (ksN b.val) = b.val) ∨ (ksN b.val = 37 ∧ sgS b.val = 5)) := by decide +kernel
theorem ks_d (x : Int32) (d : xD) : f_X7_kindOfSign shA x d = (f_X7_kindOfSign shA x xZD).map (fun z => (z.1, d)) := by
  unfold f_X7_kindOfSign
  repeat' split
  all_goals rfl
theorem m_sgn {b : Nat} (hb : b < 256) {K : Nat → Nat → Int32} {L' : Nat → Nat → Int64} {R' : Nat → Nat → Option Nat} {a : Nat} (e : K 99 22 = nI a) : f_X10_sign shA 99 (nI b) (K, L', R') = k_X10_sign_76 shA 99 (nI b) 99 (nI (sgS b)) (xu K 99 22 (nI (a + 1)), L', R') := by
  have q59 : nI b = 59 ↔ b = 59 := nI_eq (b := 59) (by omega) (by omega)
  have q40 : nI b = 40 ↔ b = 40 := nI_eq (b := 40) (by omega) (by omega)
  have q41 : nI b = 41 ↔ b = 41 := nI_eq (b := 41) (by omega) (by omega)
  have q43 : nI b = 43 ↔ b = 43 := nI_eq (b := 43) (by omega) (by omega)
  have q45 : nI b = 45 ↔ b = 45 := nI_eq (b := 45) (by omega) (by omega)
  have q42 : nI b = 42 ↔ b = 42 := nI_eq (b := 42) (by omega) (by omega)
  have q47 : nI b = 47 ↔ b = 47 := nI_eq (b := 47) (by omega) (by omega)
  have q60 : nI b = 60 ↔ b = 60 := nI_eq (b := 60) (by omega) (by omega)
  have q61 : nI b = 61 ↔ b = 61 := nI_eq (b := 61) (by omega) (by omega)
  have q62 : nI b = 62 ↔ b = 62 := nI_eq (b := 62) (by omega) (by omega)
  unfold f_X10_sign sgS
  simp only [gI_of sA_99, Option.bind_some, e, nI_1, pM_22, k_X10_sign_71]
  by_cases c59 : b = 59
  · rw [if_pos (q59.mpr c59), if_pos c59]; rfl
  rw [if_neg (fun z => c59 (q59.mp z)), if_neg c59]
  by_cases c40 : b = 40
  · rw [if_pos (q40.mpr c40), if_pos c40]; rfl
  rw [if_neg (fun z => c40 (q40.mp z)), if_neg c40]
  by_cases c41 : b = 41
  · rw [if_pos (q41.mpr c41), if_pos c41]; rfl
  rw [if_neg (fun z => c41 (q41.mp z)), if_neg c41]
  by_cases c43 : b = 43
  · rw [if_pos (q43.mpr c43), if_pos c43]; rfl
  rw [if_neg (fun z => c43 (q43.mp z)), if_neg c43]
  by_cases c45 : b = 45
  · rw [if_pos (q45.mpr c45), if_pos c45]; rfl
  rw [if_neg (fun z => c45 (q45.mp z)), if_neg c45]
  by_cases c42 : b = 42
  · rw [if_pos (q42.mpr c42), if_pos c42]; rfl
  rw [if_neg (fun z => c42 (q42.mp z)), if_neg c42]
  by_cases c47 : b = 47
  · rw [if_pos (q47.mpr c47), if_pos c47]; rfl
  rw [if_neg (fun z => c47 (q47.mp z)), if_neg c47]
  by_cases c60 : b = 60
  · rw [if_pos (q60.mpr c60), if_pos c60]; rfl
  rw [if_neg (fun z => c60 (q60.mp z)), if_neg c60]
  by_cases c61 : b = 61
  · rw [if_pos (q61.mpr c61), if_pos c61]; rfl
  rw [if_neg (fun z => c61 (q61.mp z)), if_neg c61]
  by_cases c62 : b = 62
  · rw [if_pos (q62.mpr c62), if_pos c62]; rfl
  rw [if_neg (fun z => c62 (q62.mp z)), if_neg c62]
  rfl
theorem hv_eq {n a s : Nat} {B : Nat → Nat} (hb : a < n → B a < 256) (hs : s < 256) : ((if a < n then nI (B a) else (-1 : Int32)) = nI s) ↔ (a < n ∧ B a = s) := by
  by_cases c : a < n
  · rw [if_pos c, nI_eq (by have := hb c; omega) (by omega)]
    exact ⟨fun z => ⟨c, z⟩, fun z => z.2⟩
  · rw [if_neg c]
    exact ⟨fun z => absurd z.symm (nI_ne_m1 (by omega)), fun z => absurd z.1 c⟩
theorem c_takes {P : Nat} {L : Nat → Nat → Int64} {R : Nat → Nat → Option Nat} (hR : ∀ I, RefOK (I, L, R) P) {n : Nat} {B : Nat → Nat} {I J : Nat → Nat → Int32} (h : TB n B I J) {K : Nat → Nat → Int32} (e5 : K 1 = I 1) (e7 : K 40 7 = nI n) {a s : Nat} (ha : a ≤ n) (hs : s < 128) (e : K 40 8 = nI a) : f_X7_takes shA 40 (nI s) (K, L, R) = if a < n ∧ B a = s then some (1, (xu K 40 8 (nI (a + 1)), L, R)) else some (0, (K, L, R)) := by
  have h7 := tb_n7 h
  unfold f_X7_takes k_X7_takes_28 k_X7_takes_29 k_X7_takes_44
  simp only [gI_of sA_40, Option.bind_some, e, e7, gR_of sA_40 (rf_40_5 (hR _)), pT_40 (show 8 = 0 ∨ 8 = 1 ∨ 8 = 2 ∨ 8 = 3 ∨ 8 = 4 ∨ 8 = 7 ∨ 8 = 8 by omega), nI_1]
  by_cases c : a < n
  · rw [if_neg (nI_ge c (by omega)), c_byte hR h e5 c, Option.bind_some]
    have z := sg_eq (tb_by h a c).1 hs
    by_cases c2 : B a = s
    · rw [if_pos (z.mpr c2), if_neg (show ¬ (1 : Int32) = 0 by decide), if_pos (show a < n ∧ B a = s from ⟨c, c2⟩)]; rfl
    · rw [if_neg (fun q => c2 (z.mp q)), if_pos trivial, if_neg (show ¬ (a < n ∧ B a = s) from fun q => c2 q.2)]; rfl
  · rw [if_pos (nI_le (by omega) (by omega)), if_pos trivial, if_neg (show ¬ (a < n ∧ B a = s) from fun q => c q.1)]; rfl
theorem lx_sign {P P' : Nat} {L L' : Nat → Nat → Int64} {R R' : Nat → Nat → Option Nat} (hR : ∀ I, RefOK (I, L, R) P) (hR' : ∀ I, RefOK (I, L', R') P') {n : Nat} {B : Nat → Nat} {I J : Nat → Nat → Int32} (h : TB n B I J) {X Y : Nat → Nat → Int32} (eX1 : X 1 = I 1) (eX7 : X 40 7 = nI n) (eY : Y 99 21 = J 99 21) (eY5 : Y 100 = J 100) {a : Nat} (ha : a < n) (eX : X 40 8 = nI a) (eY2 : Y 99 22 = nI a) : ∃ t a' X' Y', f_X7_readSign shA 40 (X, L, R) = some (X', L, R) ∧ f_X10_sign shA 99 (nI (B a)) (Y, L', R') = some (Y', L', R') ∧ (∀ q, q ≠ 40 → X' q = X q) ∧ (∀ j, j ≠ 0 → j ≠ 8 → X' 40 j = X 40 j) ∧ (∀ q, q ≠ 99 → Y' q = Y q) ∧ (∀ j, j ≠ 22 → j ≠ 24 → j ≠ 25 → Y' 99 j = Y 99 j) ∧ a < a' ∧ a' ≤ n ∧ X' 40 0 = nI t ∧ X' 40 8 = nI a' ∧ Y' 99 22 = nI a' ∧ ((23 ≤ t ∧ t ≤ 35 ∧ Y' 99 24 = 3 ∧ Y' 99 25 = nI (sgc t)) ∨ (t = 37 ∧ Y' 99 24 = 5)) := by
  have h7 := tb_n7 h
  have hb := (tb_by h a ha).1
  have s60 : sgn (B a) = 60 ↔ B a = 60 := sg_eq (c := 60) hb (by omega)
  have s62 : sgn (B a) = 62 ↔ B a = 62 := sg_eq (c := 62) hb (by omega)
  have n60 : nI (B a) = 60 ↔ B a = 60 := nI_eq (b := 60) (by omega) (by omega)
  have n62 : nI (B a) = 62 ↔ B a = 62 := nI_eq (b := 62) (by omega) (by omega)
  have tk61 : ∀ K : Nat → Nat → Int32, K 1 = I 1 → K 40 7 = nI n → K 40 8 = nI (a + 1) → f_X7_takes shA 40 (61 : Int32) (K, L, R) = if a + 1 < n ∧ B (a + 1) = 61 then some (1, (xu K 40 8 (nI (a + 1 + 1)), L, R)) else some (0, (K, L, R)) := fun K k1 k2 k3 => c_takes hR h k1 k2 (s := 61) (by omega) (by omega) k3
  have tk62 : ∀ K : Nat → Nat → Int32, K 1 = I 1 → K 40 7 = nI n → K 40 8 = nI (a + 1) → f_X7_takes shA 40 (62 : Int32) (K, L, R) = if a + 1 < n ∧ B (a + 1) = 62 then some (1, (xu K 40 8 (nI (a + 1 + 1)), L, R)) else some (0, (K, L, R)) := fun K k1 k2 k3 => c_takes hR h k1 k2 (s := 62) (by omega) (by omega) k3
  have hr : ∀ K : Nat → Nat → Int32, K 99 21 = J 99 21 → K 100 = J 100 → K 99 22 = nI (a + 1) → f_X10_here shA 99 (K, L', R') = some (if a + 1 < n then nI (B (a + 1)) else -1, (K, L', R')) := fun K k1 k2 k3 => m_here hR' h k1 k2 (by omega) k3
  have hv61 : ((if a + 1 < n then nI (B (a + 1)) else (-1 : Int32)) = 61) ↔ (a + 1 < n ∧ B (a + 1) = 61) := hv_eq (s := 61) (fun z => (tb_by h (a + 1) z).1) (by omega)
  have hv62 : ((if a + 1 < n then nI (B (a + 1)) else (-1 : Int32)) = 62) ↔ (a + 1 < n ∧ B (a + 1) = 62) := hv_eq (s := 62) (fun z => (tb_by h (a + 1) z).1) (by omega)
  generalize hX1 : xu X 40 8 (nI (a + 1)) = X1
  have x1 : X1 1 = I 1 := by rw [← hX1, xu_off (by omega)]; exact eX1
  have x7 : X1 40 7 = nI n := by rw [← hX1, xu_at2 (by omega)]; exact eX7
  have x8 : X1 40 8 = nI (a + 1) := by rw [← hX1, xu_at]
  have xo : ∀ q, q ≠ 40 → X1 q = X q := fun q hq => by rw [← hX1, xu_off hq]
  have xp : ∀ j, j ≠ 8 → X1 40 j = X 40 j := fun j hj => by rw [← hX1, xu_at2 hj]
  generalize hY1 : xu (xu (xu Y 99 22 (nI (a + 1))) 99 24 (nI (sgS (B a)))) 99 25 (nI (B a)) = Y1
  have y1 : Y1 99 21 = J 99 21 := by rw [← hY1, xu_at2 (by omega), xu_at2 (by omega), xu_at2 (by omega)]; exact eY
  have y5 : Y1 100 = J 100 := by rw [← hY1, xu_off (by omega), xu_off (by omega), xu_off (by omega)]; exact eY5
  have y2 : Y1 99 22 = nI (a + 1) := by rw [← hY1, xu_at2 (by omega), xu_at2 (by omega), xu_at]
  have y4 : Y1 99 24 = nI (sgS (B a)) := by rw [← hY1, xu_at2 (by omega), xu_at]
  have y25 : Y1 99 25 = nI (B a) := by rw [← hY1, xu_at]
  have yo : ∀ q, q ≠ 99 → Y1 q = Y q := fun q hq => by rw [← hY1, xu_off hq, xu_off hq, xu_off hq]
  have yp : ∀ j, j ≠ 22 → j ≠ 24 → j ≠ 25 → Y1 99 j = Y 99 j := fun j j1 j2 j3 => by rw [← hY1, xu_at2 j3, xu_at2 j2, xu_at2 j1]
  have hC : f_X7_readSign shA 40 (X, L, R) = if B a = 60 then ((f_X7_takes shA 40 (61 : Int32) (X1, L, R)).bind fun z11 => if z11.1 = 0 then ((f_X7_takes shA 40 (62 : Int32) z11.2).bind fun z12 => if z12.1 = 0 then (k_X7_readSign_57 shA 40 (30 : Int32) z12.2) else (k_X7_readSign_57 shA 40 (33 : Int32) z12.2)) else (k_X7_readSign_57 shA 40 (31 : Int32) z11.2)) else (if B a = 62 then ((f_X7_takes shA 40 (61 : Int32) (X1, L, R)).bind fun z10 => if z10.1 = 0 then (k_X7_readSign_86 shA 40 (35 : Int32) z10.2) else (k_X7_readSign_86 shA 40 (34 : Int32) z10.2)) else ((f_X7_kindOfSign shA (sgn (B a)) (X1, L, R)).bind fun z8 => (xpI 7 shA z8.2 40 0 z8.1).bind fun d9 => k_X7_readSign_100 shA d9)) := by
    unfold f_X7_readSign
    simp only [gI_of sA_40, Option.bind_some, eX, gR_of sA_40 (rf_40_5 (hR _)), c_byte hR h eX1 ha, nI_1, pT_40 (show 8 = 0 ∨ 8 = 1 ∨ 8 = 2 ∨ 8 = 3 ∨ 8 = 4 ∨ 8 = 7 ∨ 8 = 8 by omega), hX1, s60, s62, on_of sA_40]
  have hM : f_X10_sign shA 99 (nI (B a)) (Y, L', R') = if B a = 60 then (if a + 1 < n ∧ B (a + 1) = 61 then k_X10_sign_106 shA 99 (nI (B a)) (xu Y1 99 25 256, L', R') else k_X10_sign_106 shA 99 (nI (B a)) (Y1, L', R')) else k_X10_sign_106 shA 99 (nI (B a)) (Y1, L', R') := by
    rw [m_sgn hb eY2]
    unfold k_X10_sign_76
    simp only [pM_24, pM_25, Option.bind_some, hY1, n60, on_of sA_99, hr Y1 y1 y5 y2, hv61]
  rw [hC, hM]
  by_cases c60 : B a = 60
  · rw [if_pos c60, if_pos c60, tk61 X1 x1 x7 x8]
    have e3 : sgS (B a) = 3 := by rw [c60]; rfl
    by_cases c1 : a + 1 < n ∧ B (a + 1) = 61
    · refine ⟨31, a + 1 + 1, xu (xu X1 40 8 (nI (a + 1 + 1))) 40 0 31, xu (xu Y1 99 25 256) 99 22 (nI (a + 1 + 1)), ?_, ?_, fun q hq => ?_, fun j j1 j2 => ?_, fun q hq => ?_, fun j j1 j2 j3 => ?_, by omega, by omega, xu_at, (xu_at2 (by omega)).trans xu_at, xu_at, Or.inl ⟨by omega, by omega, ?_, ?_⟩⟩
      · rw [if_pos c1, Option.bind_some]
        dsimp only
        rw [if_neg (show ¬ (1 : Int32) = 0 by decide)]
        unfold k_X7_readSign_57 k_X7_readSign_100
        rw [pT_40 (show 0 = 0 ∨ 0 = 1 ∨ 0 = 2 ∨ 0 = 3 ∨ 0 = 4 ∨ 0 = 7 ∨ 0 = 8 by omega), Option.bind_some]
      · rw [if_pos c1]
        unfold k_X10_sign_106 k_X10_sign_128 k_X10_sign_150 k_X10_sign_170
        simp only [n60, n62, if_pos c60, on_of sA_99, hr (xu Y1 99 25 256) ((xu_at2 (by omega)).trans y1) ((xu_off (by omega)).trans y5) ((xu_at2 (by omega)).trans y2), Option.bind_some, hv62, if_neg (show ¬ B a = 62 by omega), if_neg (show ¬ (a + 1 < n ∧ B (a + 1) = 62) by omega), gI_of sA_99, xu_at, pM_22]
        rw [if_neg (by decide), xu_at2 (by omega), y2, nI_1]
      · rw [xu_off hq, xu_off hq, xo q hq]
      · rw [xu_at2 j1, xu_at2 j2, xp j j2]
      · rw [xu_off hq, xu_off hq, yo q hq]
      · rw [xu_at2 j1, xu_at2 j3, yp j j1 j2 j3]
      · rw [xu_at2 (by omega), xu_at2 (by omega), y4, e3]; rfl
      · rw [xu_at2 (by omega), xu_at]; rfl
    · rw [if_neg c1, if_neg c1, Option.bind_some]
      dsimp only
      rw [if_pos rfl, tk62 X1 x1 x7 x8]
      unfold k_X10_sign_106
      simp only [n60, if_pos c60, on_of sA_99, hr Y1 y1 y5 y2, Option.bind_some, hv62]
      by_cases c2 : a + 1 < n ∧ B (a + 1) = 62
      · refine ⟨33, a + 1 + 1, xu (xu X1 40 8 (nI (a + 1 + 1))) 40 0 33, xu (xu Y1 99 25 257) 99 22 (nI (a + 1 + 1)), ?_, ?_, fun q hq => ?_, fun j j1 j2 => ?_, fun q hq => ?_, fun j j1 j2 j3 => ?_, by omega, by omega, xu_at, (xu_at2 (by omega)).trans xu_at, xu_at, Or.inl ⟨by omega, by omega, ?_, ?_⟩⟩
        · rw [if_pos c2, Option.bind_some]
          dsimp only
          rw [if_neg (show ¬ (1 : Int32) = 0 by decide)]
          unfold k_X7_readSign_57 k_X7_readSign_100
          rw [pT_40 (show 0 = 0 ∨ 0 = 1 ∨ 0 = 2 ∨ 0 = 3 ∨ 0 = 4 ∨ 0 = 7 ∨ 0 = 8 by omega), Option.bind_some]
        · rw [if_pos c2, pM_25, Option.bind_some]
          unfold k_X10_sign_128 k_X10_sign_150 k_X10_sign_170
          simp only [n62, if_neg (show ¬ B a = 62 by omega), gI_of sA_99, xu_at, pM_22, Option.bind_some]
          rw [if_neg (by decide), xu_at2 (by omega), y2, nI_1]
        · rw [xu_off hq, xu_off hq, xo q hq]
        · rw [xu_at2 j1, xu_at2 j2, xp j j2]
        · rw [xu_off hq, xu_off hq, yo q hq]
        · rw [xu_at2 j1, xu_at2 j3, yp j j1 j2 j3]
        · rw [xu_at2 (by omega), xu_at2 (by omega), y4, e3]; rfl
        · rw [xu_at2 (by omega), xu_at]; rfl
      · refine ⟨30, a + 1, xu X1 40 0 30, Y1, ?_, ?_, fun q hq => ?_, fun j j1 j2 => ?_, yo, yp, by omega, by omega, xu_at, (xu_at2 (by omega)).trans x8, y2, Or.inl ⟨by omega, by omega, ?_, ?_⟩⟩
        · rw [if_neg c2, Option.bind_some, if_pos rfl]
          unfold k_X7_readSign_57 k_X7_readSign_100
          rw [pT_40 (show 0 = 0 ∨ 0 = 1 ∨ 0 = 2 ∨ 0 = 3 ∨ 0 = 4 ∨ 0 = 7 ∨ 0 = 8 by omega), Option.bind_some]
        · rw [if_neg c2]
          unfold k_X10_sign_128 k_X10_sign_150 k_X10_sign_170
          simp only [n62, if_neg (show ¬ B a = 62 by omega), gI_of sA_99, Option.bind_some, y25]
          rw [if_pos (show nI (B a) < 256 from nI_lt (b := 256) (by omega) (by omega))]
        · rw [xu_off hq, xo q hq]
        · rw [xu_at2 j1, xp j j2]
        · rw [y4, e3]; rfl
        · rw [y25, c60]; rfl
  · rw [if_neg c60, if_neg c60]
    unfold k_X10_sign_106
    simp only [n60, if_neg c60]
    by_cases c62 : B a = 62
    · rw [if_pos c62, tk61 X1 x1 x7 x8]
      have e3 : sgS (B a) = 3 := by rw [c62]; rfl
      unfold k_X10_sign_128
      simp only [n62, if_pos c62, on_of sA_99, hr Y1 y1 y5 y2, Option.bind_some, hv61]
      by_cases c1 : a + 1 < n ∧ B (a + 1) = 61
      · refine ⟨34, a + 1 + 1, xu (xu X1 40 8 (nI (a + 1 + 1))) 40 0 34, xu (xu Y1 99 25 258) 99 22 (nI (a + 1 + 1)), ?_, ?_, fun q hq => ?_, fun j j1 j2 => ?_, fun q hq => ?_, fun j j1 j2 j3 => ?_, by omega, by omega, xu_at, (xu_at2 (by omega)).trans xu_at, xu_at, Or.inl ⟨by omega, by omega, ?_, ?_⟩⟩
        · rw [if_pos c1, Option.bind_some]
          dsimp only
          rw [if_neg (show ¬ (1 : Int32) = 0 by decide)]
          unfold k_X7_readSign_86 k_X7_readSign_100
          rw [pT_40 (show 0 = 0 ∨ 0 = 1 ∨ 0 = 2 ∨ 0 = 3 ∨ 0 = 4 ∨ 0 = 7 ∨ 0 = 8 by omega), Option.bind_some]
        · rw [if_pos c1, pM_25, Option.bind_some]
          unfold k_X10_sign_150 k_X10_sign_170
          simp only [gI_of sA_99, xu_at, pM_22, Option.bind_some]
          rw [if_neg (by decide), xu_at2 (by omega), y2, nI_1]
        · rw [xu_off hq, xu_off hq, xo q hq]
        · rw [xu_at2 j1, xu_at2 j2, xp j j2]
        · rw [xu_off hq, xu_off hq, yo q hq]
        · rw [xu_at2 j1, xu_at2 j3, yp j j1 j2 j3]
        · rw [xu_at2 (by omega), xu_at2 (by omega), y4, e3]; rfl
        · rw [xu_at2 (by omega), xu_at]; rfl
      · refine ⟨35, a + 1, xu X1 40 0 35, Y1, ?_, ?_, fun q hq => ?_, fun j j1 j2 => ?_, yo, yp, by omega, by omega, xu_at, (xu_at2 (by omega)).trans x8, y2, Or.inl ⟨by omega, by omega, ?_, ?_⟩⟩
        · rw [if_neg c1, Option.bind_some, if_pos rfl]
          unfold k_X7_readSign_86 k_X7_readSign_100
          rw [pT_40 (show 0 = 0 ∨ 0 = 1 ∨ 0 = 2 ∨ 0 = 3 ∨ 0 = 4 ∨ 0 = 7 ∨ 0 = 8 by omega), Option.bind_some]
        · rw [if_neg c1]
          unfold k_X10_sign_150 k_X10_sign_170
          simp only [gI_of sA_99, Option.bind_some, y25]
          rw [if_pos (show nI (B a) < 256 from nI_lt (b := 256) (by omega) (by omega))]
        · rw [xu_off hq, xo q hq]
        · rw [xu_at2 j1, xp j j2]
        · rw [y4, e3]; rfl
        · rw [y25, c62]; rfl
    · rw [if_neg c62]
      obtain ⟨k1, k2⟩ := ks_dec ⟨B a, hb⟩ c60 c62
      dsimp only at k1 k2
      have k3 : f_X7_kindOfSign shA (sgn (B a)) (X1, L, R) = some (nI (ksN (B a)), (X1, L, R)) := by
        rw [ks_d]
        cases q : f_X7_kindOfSign shA (sgn (B a)) xZD with
        | none => rw [q] at k1; cases k1
        | some z => rw [q] at k1; simp only [Option.map_some, Option.some.injEq] at k1 ⊢; rw [k1]
      refine ⟨ksN (B a), a + 1, xu X1 40 0 (nI (ksN (B a))), Y1, ?_, ?_, fun q hq => ?_, fun j j1 j2 => ?_, yo, yp, by omega, by omega, xu_at, (xu_at2 (by omega)).trans x8, y2, ?_⟩
      · rw [k3, Option.bind_some, pT_40 (show 0 = 0 ∨ 0 = 1 ∨ 0 = 2 ∨ 0 = 3 ∨ 0 = 4 ∨ 0 = 7 ∨ 0 = 8 by omega), Option.bind_some]; rfl
      · unfold k_X10_sign_128 k_X10_sign_150 k_X10_sign_170
        simp only [n62, if_neg c62, gI_of sA_99, Option.bind_some, y25]
        rw [if_pos (show nI (B a) < 256 from nI_lt (b := 256) (by omega) (by omega))]
      · rw [xu_off hq, xo q hq]
      · rw [xu_at2 j1, xp j j2]
      · rcases k2 with ⟨z1, z2, z3, z4⟩ | ⟨z1, z2⟩
        · exact Or.inl ⟨z2, z1, by rw [y4, z3]; rfl, by rw [y25, z4]⟩
        · exact Or.inr ⟨z1, by rw [y4, z2]; rfl⟩

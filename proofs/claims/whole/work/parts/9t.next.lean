/-! LEVEL 2: text. The next token -/
/-- the class's kind t and value against the reference's sort and value -/
def TT (t : Nat) (cv so va : Int32) : Prop := (t < 21 ∧ so = 0 ∧ va = nI t) ∨ (t = 21 ∧ so = 1 ∧ va = cv) ∨ (t = 22 ∧ so = 2 ∧ ∃ x y, NV x y ∧ cv = nI x ∧ va = nI y) ∨ (23 ≤ t ∧ t ≤ 35 ∧ so = 3 ∧ va = nI (sgc t)) ∨ (t = 36 ∧ so = 4) ∨ (t = 37 ∧ so = 5)
def TK (n : Nat) (B : Nat → Nat) (p a t : Nat) (I J : Nat → Nat → Int32) : Prop := (TB n B I J) ∧ (a ≤ n) ∧ (I 40 8 = nI a) ∧ (J 99 22 = nI a) ∧ (p ≤ a ∧ (t ≠ 36 → p < a)) ∧ (I 40 1 = nI p) ∧ (J 99 23 = nI p) ∧ (t ≤ 37) ∧ (I 40 0 = nI t) ∧ (TT t (I 40 2) (J 99 24) (J 99 25))
theorem tk_tb {n : Nat} {B : Nat → Nat} {p a t : Nat} {I J : Nat → Nat → Int32} (hh : TK n B p a t I J) : TB n B I J := hh.1
theorem tk_an {n : Nat} {B : Nat → Nat} {p a t : Nat} {I J : Nat → Nat → Int32} (hh : TK n B p a t I J) : a ≤ n := hh.2.1
theorem tk_ca {n : Nat} {B : Nat → Nat} {p a t : Nat} {I J : Nat → Nat → Int32} (hh : TK n B p a t I J) : I 40 8 = nI a := hh.2.2.1
theorem tk_ma {n : Nat} {B : Nat → Nat} {p a t : Nat} {I J : Nat → Nat → Int32} (hh : TK n B p a t I J) : J 99 22 = nI a := hh.2.2.2.1
theorem tk_pa {n : Nat} {B : Nat → Nat} {p a t : Nat} {I J : Nat → Nat → Int32} (hh : TK n B p a t I J) : p ≤ a ∧ (t ≠ 36 → p < a) := hh.2.2.2.2.1
theorem tk_cp {n : Nat} {B : Nat → Nat} {p a t : Nat} {I J : Nat → Nat → Int32} (hh : TK n B p a t I J) : I 40 1 = nI p := hh.2.2.2.2.2.1
theorem tk_mp {n : Nat} {B : Nat → Nat} {p a t : Nat} {I J : Nat → Nat → Int32} (hh : TK n B p a t I J) : J 99 23 = nI p := hh.2.2.2.2.2.2.1
theorem tk_t37 {n : Nat} {B : Nat → Nat} {p a t : Nat} {I J : Nat → Nat → Int32} (hh : TK n B p a t I J) : t ≤ 37 := hh.2.2.2.2.2.2.2.1
theorem tk_ct {n : Nat} {B : Nat → Nat} {p a t : Nat} {I J : Nat → Nat → Int32} (hh : TK n B p a t I J) : I 40 0 = nI t := hh.2.2.2.2.2.2.2.2.1
theorem tk_tt {n : Nat} {B : Nat → Nat} {p a t : Nat} {I J : Nat → Nat → Int32} (hh : TK n B p a t I J) : TT t (I 40 2) (J 99 24) (J 99 25) := hh.2.2.2.2.2.2.2.2.2
def NC (I I' : Nat → Nat → Int32) : Prop := (∀ q, q ≠ 40 → I' q = I q) ∧ (∀ j, j ≠ 0 → j ≠ 1 → j ≠ 2 → j ≠ 8 → I' 40 j = I 40 j)
def NM (J J' : Nat → Nat → Int32) : Prop := (∀ q, q ≠ 99 → J' q = J q) ∧ (∀ j, (j < 22 ∨ 25 < j) → J' 99 j = J 99 j)
theorem tb_n {n : Nat} {B : Nat → Nat} {I J I' J' : Nat → Nat → Int32} (h : TB n B I J) (hc : NC I I') (hm : NM J J') : TB n B I' J' :=
  tb_congr h (hc.2 7 (by omega) (by omega) (by omega) (by omega)) (hc.1 1 (by omega)) (hc.1 41 (by omega)) (hm.2 21 (by omega)) (hm.1 100 (by omega))
theorem m_run {P : Nat} {L' : Nat → Nat → Int64} {R' : Nat → Nat → Option Nat} (hR' : ∀ I, RefOK (I, L', R') P) {n : Nat} {B : Nat → Nat} {I J : Nat → Nat → Int32} (h : TB n B I J) {p e : Nat} (he : e ≤ n) (hB : ∀ i, p ≤ i → i < e → 97 ≤ B i ∧ B i ≤ 122) (hE : e < n → ¬ (97 ≤ B e ∧ B e ≤ 122)) : ∀ g a (K : Nat → Nat → Int32) F, a + g = e → p ≤ a → K 99 21 = J 99 21 → K 100 = J 100 → K 99 22 = nI a → g < F → xloop (fun _ _ => none) (b_X10_token_64 shA) F 99 (K, L', R') = k_X10_token_87 shA 99 (xu K 99 22 (nI e), L', R') := by
  have h7 := tb_n7 h
  intro g
  induction g with
  | zero =>
    intro a K F h1 hp e1 e5 ea h2
    obtain ⟨F, rfl⟩ : ∃ G, F = G + 1 := ⟨F - 1, by omega⟩
    obtain rfl : a = e := by omega
    have ex : xu K 99 22 (nI a) = K := by rw [← ea, xu_self]
    rw [loop_s]
    generalize xloop (fun _ _ => none) (b_X10_token_64 shA) F = rc
    rw [b_X10_token_64, ex]
    simp only [on_of sA_99, m_here hR' h e1 e5 he ea, Option.bind_some]
    by_cases c : a < n
    · rw [if_pos c, lm_let (tb_by h a c).1, Option.bind_some, if_neg (hE c)]
      dsimp only
      rw [if_pos rfl]
    · rw [if_neg c, lm_let1, Option.bind_some]
      dsimp only
      rw [if_pos rfl]
  | succ g ih =>
    intro a K F h1 hp e1 e5 ea h2
    obtain ⟨F, rfl⟩ : ∃ G, F = G + 1 := ⟨F - 1, by omega⟩
    have z := ih (a + 1) (xu K 99 22 (nI (a + 1))) F (by omega) (by omega) ((xu_at2 (by omega)).trans e1) ((xu_off (by omega)).trans e5) xu_at (by omega)
    rw [xu_xu] at z
    rw [← z, loop_s]
    generalize xloop (fun _ _ => none) (b_X10_token_64 shA) F = rc
    rw [b_X10_token_64]
    simp only [on_of sA_99, m_here hR' h e1 e5 (show a ≤ n by omega) ea, Option.bind_some, if_pos (show a < n by omega), lm_let (tb_by h a (by omega)).1, if_pos (hB a hp (by omega)), gI_of sA_99, ea, nI_1, pM_22]
    rw [if_neg (by decide)]
theorem wdl_inj : ∀ i j : Fin 21, wdl.getD i.val 0 = wdl.getD j.val 0 → i.val = j.val := by decide +kernel
theorem lx_word {P P' : Nat} {L L' : Nat → Nat → Int64} {R R' : Nat → Nat → Option Nat} (hR : ∀ I, RefOK (I, L, R) P) (hR' : ∀ I, RefOK (I, L', R') P') {n : Nat} {B : Nat → Nat} {I J : Nat → Nat → Int32} (h : TB n B I J) {X Y : Nat → Nat → Int32} (eX1 : X 1 = I 1) (eX41 : X 41 = I 41) (eX7 : X 40 7 = nI n) (eY : Y 99 21 = J 99 21) (eY5 : Y 100 = J 100) {a : Nat} (ha : a < n) (hl : 97 ≤ B a ∧ B a ≤ 122) (eX : X 40 8 = nI a) (eX2 : X 40 2 = 0) (eY2 : Y 99 22 = nI a) (eY3 : Y 99 23 = nI a) : ∃ t a' X' Y', f_X7_readWord shA 40 (X, L, R) = some (X', L, R) ∧ xloop (fun _ _ => none) (b_X10_token_64 shA) xF 99 (Y, L', R') = some (Y', L', R') ∧ (∀ q, q ≠ 40 → X' q = X q) ∧ (∀ j, j ≠ 0 → j ≠ 2 → j ≠ 8 → X' 40 j = X 40 j) ∧ (∀ q, q ≠ 99 → Y' q = Y q) ∧ (∀ j, j ≠ 22 → j ≠ 24 → j ≠ 25 → Y' 99 j = Y 99 j) ∧ a < a' ∧ a' ≤ n ∧ X' 40 0 = nI t ∧ X' 40 8 = nI a' ∧ Y' 99 22 = nI a' ∧ ((t < 21 ∧ Y' 99 24 = 0 ∧ Y' 99 25 = nI t) ∨ (t = 21 ∧ Y' 99 24 = 1 ∧ Y' 99 25 = X' 40 2) ∨ (t = 37 ∧ Y' 99 24 = 5)) := by
  have h7 := tb_n7 h
  obtain ⟨e, r1, r2, r3, r4⟩ := lx_run B (fun b => 97 ≤ b ∧ b ≤ 122) n (n - a) a (by omega)
  have hea : a < e := by
    rcases Nat.lt_or_ge a e with z | z
    · exact z
    · exfalso
      obtain rfl : e = a := by omega
      exact r4 ha hl
  have eV : X 40 2 = nI (E6 (dg B a 0)) := by
    rw [eX2]; unfold E6 dg; simp [nI_0]
  obtain ⟨K, k1, k2, k3, k4, k5⟩ := wv_loop hR h r2 r3 r4 (e - a) 0 X xF (by omega) eX1 eX7 eX (fun _ => eV) (by unfold xF; omega)
  rw [Nat.zero_add] at k1 k5
  have hm := m_run hR' h r2 r3 r4 (e - a) a Y xF (by omega) (Nat.le_refl _) eY eY5 eY2 (by unfold xF; omega)
  have kc : f_X7_readWord shA 40 (X, L, R) = k_X7_readWord_66 shA 40 (nI (e - a)) (K, L, R) := k1
  generalize hW : xu Y 99 22 (nI e) = W at hm
  have w2 : W 99 22 = nI e := by rw [← hW, xu_at]
  have w3 : W 99 23 = nI a := by rw [← hW, xu_at2 (by omega)]; exact eY3
  have w5 : W 100 = J 100 := by rw [← hW, xu_off (by omega)]; exact eY5
  have wo : ∀ q, q ≠ 99 → W q = Y q := fun q hq => by rw [← hW, xu_off hq]
  have wp : ∀ j, j ≠ 22 → W 99 j = Y 99 j := fun j hj => by rw [← hW, xu_at2 hj]
  have hB : ∀ j, j < e - a → 97 ≤ B (a + j) ∧ B (a + j) ≤ 122 := fun j hj => r3 (a + j) (by omega) (by omega)
  have w22 : W 99 22 = nI (a + (e - a)) := by rw [w2, show a + (e - a) = e by omega]
  have hw := wd_all hR' h w5 (show a + (e - a) ≤ n by omega) w3 w22 hB 21 0 xF (by omega) (by unfold xF; omega)
  have hw : (∃ j, 0 ≤ j ∧ j < 21 ∧ WM B a (e - a) j ∧ f_X10_word shA 99 (W, L', R') = some (nI j, (W, L', R'))) ∨ ((∀ j, 0 ≤ j → j < 21 → ¬ WM B a (e - a) j) ∧ f_X10_word shA 99 (W, L', R') = some (-1, (W, L', R'))) := hw
  have none5 : f_X10_word shA 99 (W, L', R') = some (-1, (W, L', R')) → ¬ e - a ≤ 6 → k_X10_token_87 shA 99 (W, L', R') = some (xu (xu W 99 25 (-1)) 99 24 5, L', R') := by
    intro z1 z2
    unfold k_X10_token_87 k_X10_token_127 k_X10_token_225
    simp only [on_of sA_99, z1, Option.bind_some, pM_25, gI_of sA_99, xu_at, ↓reduceIte]
    rw [xu_at2 (by omega), xu_at2 (by omega), w2, w3, pk_sub (by omega), if_neg (show ¬ nI (e - a) ≤ (6 : Int32) from nI_ge (a := 6) (by omega) (by omega)), pM_24, Option.bind_some]
    dsimp only
    rw [if_neg (show ¬ xu (xu W 99 25 (-1)) 99 24 5 99 24 = 1 by rw [xu_at]; decide)]
  rw [kc, hm]
  unfold k_X7_readWord_66 k_X7_readWord_82
  by_cases c6 : e - a ≤ 6
  · have v6 := k5 c6
    rw [if_pos (show nI (e - a) ≤ (6 : Int32) from nI_le (b := 6) c6 (by omega)), on_of sA_40]
    have iff : ∀ j, j < 21 → (wdl.getD j 0 = K 40 2 ↔ WM B a (e - a) j) := fun j hj => by rw [v6]; exact wm_iff hj c6 hB
    have hk := kw_all hR h (K := K) ((k2 41 (by omega)).trans eX41) 21 0 xF (by omega) (by unfold xF; omega)
    have hk : (∃ j, 0 ≤ j ∧ j < 21 ∧ wdl.getD j 0 = K 40 2 ∧ (∀ j', 0 ≤ j' → j' < j → ¬ wdl.getD j' 0 = K 40 2) ∧ f_X7_kindOfWord shA 40 (K, L, R) = some (nI j, (K, L, R))) ∨ ((∀ j, 0 ≤ j → j < 21 → ¬ wdl.getD j 0 = K 40 2) ∧ f_X7_kindOfWord shA 40 (K, L, R) = some (21, (K, L, R))) := hk
    rcases hk with ⟨j, _, j2, j3, _, j5⟩ | ⟨j1, j2⟩
    · rcases hw with ⟨i, _, i2, i3, i4⟩ | ⟨i1, _⟩
      · obtain rfl : i = j := by
          have z := (iff i i2).mpr i3
          exact wdl_inj ⟨i, i2⟩ ⟨j, j2⟩ (z.trans j3.symm)
        refine ⟨i, e, xu K 40 0 (nI i), xu (xu W 99 25 (nI i)) 99 24 0, ?_, ?_, fun q hq => ?_, fun q q1 q2 q3 => ?_, fun q hq => ?_, fun q q1 q2 q3 => ?_, hea, r2, xu_at, (xu_at2 (by omega)).trans k4, ?_, Or.inl ⟨i2, xu_at, (xu_at2 (by omega)).trans xu_at⟩⟩
        · rw [j5, Option.bind_some, pT_40 (show 0 = 0 ∨ 0 = 1 ∨ 0 = 2 ∨ 0 = 3 ∨ 0 = 4 ∨ 0 = 7 ∨ 0 = 8 by omega), Option.bind_some]
        · unfold k_X10_token_87 k_X10_token_127 k_X10_token_225
          simp only [on_of sA_99, i4, Option.bind_some, pM_25, gI_of sA_99, xu_at]
          rw [if_neg (nI_ne_m1 (by omega)), pM_24, Option.bind_some]
          dsimp only
          rw [if_neg (show ¬ xu (xu W 99 25 (nI i)) 99 24 0 99 24 = 1 by rw [xu_at]; decide)]
        · rw [xu_off hq, k2 q hq]
        · rw [xu_at2 q1, k3 q q2 q3]
        · rw [xu_off hq, xu_off hq, wo q hq]
        · rw [xu_at2 q2, xu_at2 q3, wp q q1]
        · rw [xu_at2 (by omega), xu_at2 (by omega), w2]
      · exact absurd ((iff j j2).mp j3) (i1 j (by omega) j2)
    · rcases hw with ⟨i, _, i2, i3, _⟩ | ⟨_, i2⟩
      · exact absurd ((iff i i2).mpr i3) (j1 i (by omega) i2)
      · have hn := nm_loop hR' h (show a + (e - a) ≤ n by omega) c6 hB 6 0 (xu (xu (xu W 99 25 (-1)) 99 24 1) 99 25 0) xF (by omega) ((xu_off (by omega)).trans ((xu_off (by omega)).trans ((xu_off (by omega)).trans w5))) ((xu_at2 (by omega)).trans ((xu_at2 (by omega)).trans ((xu_at2 (by omega)).trans w3))) ((xu_at2 (by omega)).trans ((xu_at2 (by omega)).trans ((xu_at2 (by omega)).trans w22))) xu_at (by unfold xF; omega)
        obtain ⟨V, n1, n2, n3, n4⟩ := hn
        rw [nI_0] at n1
        refine ⟨21, e, xu K 40 0 21, V, ?_, ?_, fun q hq => ?_, fun q q1 q2 q3 => ?_, fun q hq => ?_, fun q q1 q2 q3 => ?_, hea, r2, xu_at, (xu_at2 (by omega)).trans k4, ?_, Or.inr (Or.inl ⟨rfl, ?_, ?_⟩)⟩
        · rw [j2, Option.bind_some, pT_40 (show 0 = 0 ∨ 0 = 1 ∨ 0 = 2 ∨ 0 = 3 ∨ 0 = 4 ∨ 0 = 7 ∨ 0 = 8 by omega), Option.bind_some]
        · unfold k_X10_token_87 k_X10_token_127 k_X10_token_225
          simp only [on_of sA_99, i2, Option.bind_some, pM_25, gI_of sA_99, xu_at, ↓reduceIte]
          rw [xu_at2 (by omega), xu_at2 (by omega), w2, w3, pk_sub (by omega), if_pos (show nI (e - a) ≤ (6 : Int32) from nI_le (b := 6) c6 (by omega)), pM_24, Option.bind_some]
          dsimp only
          rw [if_pos (show xu (xu W 99 25 (-1)) 99 24 1 99 24 = 1 from xu_at)]
          unfold f_X10_name
          rw [pM_25, Option.bind_some]
          dsimp only
          rw [n1, Option.bind_some]
        · rw [xu_off hq, k2 q hq]
        · rw [xu_at2 q1, k3 q q2 q3]
        · rw [n2 q hq, xu_off hq, xu_off hq, xu_off hq, wo q hq]
        · rw [n3 q q3, xu_at2 q3, xu_at2 q2, xu_at2 q3, wp q q1]
        · rw [n3 22 (by omega), xu_at2 (by omega), xu_at2 (by omega), xu_at2 (by omega), w2]
        · rw [n3 24 (by omega), xu_at2 (by omega), xu_at]
        · rw [n4, xu_at2 (by omega), v6]
  · have hw5 : f_X10_word shA 99 (W, L', R') = some (-1, (W, L', R')) := by
      rcases hw with ⟨i, _, i2, i3, _⟩ | ⟨_, i2⟩
      · exfalso
        have z := (wx_1 ⟨i, i2⟩).1
        have z2 := i3.1
        dsimp only at z
        omega
      · exact i2
    refine ⟨37, e, xu K 40 0 37, xu (xu W 99 25 (-1)) 99 24 5, ?_, none5 hw5 c6, fun q hq => ?_, fun q q1 q2 q3 => ?_, fun q hq => ?_, fun q q1 q2 q3 => ?_, hea, r2, xu_at, (xu_at2 (by omega)).trans k4, ?_, Or.inr (Or.inr ⟨rfl, xu_at⟩)⟩
    · rw [if_neg (show ¬ nI (e - a) ≤ (6 : Int32) from nI_ge (a := 6) (by omega) (by omega)), pT_40 (show 0 = 0 ∨ 0 = 1 ∨ 0 = 2 ∨ 0 = 3 ∨ 0 = 4 ∨ 0 = 7 ∨ 0 = 8 by omega), Option.bind_some]
    · rw [xu_off hq, k2 q hq]
    · rw [xu_at2 q1, k3 q q2 q3]
    · rw [xu_off hq, xu_off hq, wo q hq]
    · rw [xu_at2 q2, xu_at2 q3, wp q q1]
    · rw [xu_at2 (by omega), xu_at2 (by omega), w2]
theorem e_next {P P' : Nat} {L L' : Nat → Nat → Int64} {R R' : Nat → Nat → Option Nat} (hR : ∀ I, RefOK (I, L, R) P) (hR' : ∀ I, RefOK (I, L', R') P') {n : Nat} {B : Nat → Nat} {I J : Nat → Nat → Int32} (h : TB n B I J) {a : Nat} (ha : a ≤ n) (e1 : I 40 8 = nI a) (e2 : J 99 22 = nI a) : ∃ I' J' p' a' t', f_X7_next shA 40 (I, L, R) = some (I', L, R) ∧ f_X10_token shA 99 (J, L', R') = some (J', L', R') ∧ NC I I' ∧ NM J J' ∧ TK n B p' a' t' I' J' ∧ a ≤ p' := by
  have h7 := tb_n7 h
  obtain ⟨b, b1, b2, b3, b4⟩ := lx_skip hR hR' (n - a) a I J xF xF h (by omega) e1 e2 (by unfold xF; omega) (by unfold xF; omega)
  have b3 : f_X7_next shA 40 (I, L, R) = _ := b3
  have b4 : f_X10_token shA 99 (J, L', R') = _ := b4
  rw [b3, b4]
  generalize hX : xu (xu (xu I 40 8 (nI b)) 40 1 (nI b)) 40 2 0 = X
  generalize hY : xu (xu J 99 22 (nI b)) 99 23 (nI b) = Y
  have xo : ∀ q, q ≠ 40 → X q = I q := fun q hq => by rw [← hX, xu_off hq, xu_off hq, xu_off hq]
  have xp : ∀ j, j ≠ 1 → j ≠ 2 → j ≠ 8 → X 40 j = I 40 j := fun j j1 j2 j3 => by rw [← hX, xu_at2 j2, xu_at2 j1, xu_at2 j3]
  have x8 : X 40 8 = nI b := by rw [← hX, xu_at2 (by omega), xu_at2 (by omega), xu_at]
  have x1 : X 40 1 = nI b := by rw [← hX, xu_at2 (by omega), xu_at]
  have x2 : X 40 2 = 0 := by rw [← hX, xu_at]
  have x7 : X 40 7 = nI n := (xp 7 (by omega) (by omega) (by omega)).trans (tb_cl h)
  have yo : ∀ q, q ≠ 99 → Y q = J q := fun q hq => by rw [← hY, xu_off hq, xu_off hq]
  have yp : ∀ j, j ≠ 22 → j ≠ 23 → Y 99 j = J 99 j := fun j j1 j2 => by rw [← hY, xu_at2 j2, xu_at2 j1]
  have y2 : Y 99 22 = nI b := by rw [← hY, xu_at2 (by omega), xu_at]
  have y3 : Y 99 23 = nI b := by rw [← hY, xu_at]
  have y21 := yp 21 (by omega) (by omega)
  have y100 := yo 100 (by omega)
  have hC : k_X7_next_52 shA 40 (xu I 40 8 (nI b), L, R) = if b < n then (if 97 ≤ B b ∧ B b ≤ 122 then f_X7_readWord shA 40 (X, L, R) else if 48 ≤ B b ∧ B b ≤ 57 then f_X7_readNumber shA 40 (X, L, R) else f_X7_readSign shA 40 (X, L, R)) else some (xu X 40 0 36, L, R) := by
    unfold k_X7_next_52 k_X7_next_133
    simp only [gI_of sA_40, Option.bind_some, xu_at, pT_40 (show 1 = 0 ∨ 1 = 1 ∨ 1 = 2 ∨ 1 = 3 ∨ 1 = 4 ∨ 1 = 7 ∨ 1 = 8 by omega), pT_40 (show 2 = 0 ∨ 2 = 1 ∨ 2 = 2 ∨ 2 = 3 ∨ 2 = 4 ∨ 2 = 7 ∨ 2 = 8 by omega), hX, x7, x8, gR_of sA_40 (rf_40_5 (hR _)), on_of sA_40, pT_40 (show 0 = 0 ∨ 0 = 1 ∨ 0 = 2 ∨ 0 = 3 ∨ 0 = 4 ∨ 0 = 7 ∨ 0 = 8 by omega)]
    by_cases c : b < n
    · rw [if_pos (nI_lt c (by omega)), if_pos c, c_byte hR h (xo 1 (by omega)) c, Option.bind_some, lx_let (tb_by h b c).1, Option.bind_some]
      by_cases c1 : 97 ≤ B b ∧ B b ≤ 122
      · rw [if_pos c1, if_pos c1]
        dsimp only
        rw [if_neg (show ¬ (1 : Int32) = 0 by decide)]
        cases f_X7_readWord shA 40 (X, L, R) <;> rfl
      · rw [if_neg c1, if_neg c1]
        dsimp only
        rw [if_pos rfl, gR_of sA_40 (rf_40_5 (hR _)), Option.bind_some, x8, c_byte hR h (xo 1 (by omega)) c, Option.bind_some, lx_dig (tb_by h b c).1, Option.bind_some]
        by_cases c2 : 48 ≤ B b ∧ B b ≤ 57
        · rw [if_pos c2, if_pos c2]
          dsimp only
          rw [if_neg (show ¬ (1 : Int32) = 0 by decide)]
          cases f_X7_readNumber shA 40 (X, L, R) <;> rfl
        · rw [if_neg c2, if_neg c2]
          dsimp only
          rw [if_pos rfl]
          cases f_X7_readSign shA 40 (X, L, R) <;> rfl
    · rw [if_neg (nI_nlt (by omega) (by omega)), if_neg c]
  have hM : k_X10_token_31 shA 99 (xu J 99 22 (nI b), L', R') = if b < n then (if 97 ≤ B b ∧ B b ≤ 122 then xloop (fun _ _ => none) (b_X10_token_64 shA) xF 99 (Y, L', R') else if 48 ≤ B b ∧ B b ≤ 57 then xloop (fun _ _ => none) (b_X10_token_162 shA) xF 99 (xu (xu Y 99 24 2) 99 25 0, L', R') else f_X10_sign shA 99 (nI (B b)) (Y, L', R')) else some (xu Y 99 24 4, L', R') := by
    unfold k_X10_token_31 k_X10_token_225
    generalize hl1 : xloop (fun _ _ => none) (b_X10_token_64 shA) xF = l1
    generalize hl2 : xloop (fun _ _ => none) (b_X10_token_162 shA) xF = l2
    simp only [gI_of sA_99, Option.bind_some, xu_at, pM_23, hY, on_of sA_99, m_here hR' h y21 y100 b2 y2]
    by_cases c : b < n
    · rw [if_pos c, if_pos c, if_neg (nI_ne_m1 (by have := (tb_by h b c).1; omega)), lm_let (tb_by h b c).1, Option.bind_some]
      by_cases c1 : 97 ≤ B b ∧ B b ≤ 122
      · rw [if_pos c1, if_pos c1]
        dsimp only
        rw [if_neg (show ¬ (1 : Int32) = 0 by decide)]
      · rw [if_neg c1, if_neg c1]
        dsimp only
        rw [if_pos rfl, lm_dig (tb_by h b c).1, Option.bind_some]
        by_cases c2 : 48 ≤ B b ∧ B b ≤ 57
        · rw [if_pos c2, if_pos c2]
          dsimp only
          rw [if_neg (show ¬ (1 : Int32) = 0 by decide), pM_24, Option.bind_some, pM_25, Option.bind_some]
        · rw [if_neg c2, if_neg c2]
          dsimp only
          rw [if_pos rfl]
          cases f_X10_sign shA 99 (nI (B b)) (Y, L', R') <;> rfl
    · rw [if_neg c, if_neg c, if_pos rfl, pM_24, Option.bind_some]
  rw [hC, hM]
  have fin : ∀ (X' Y' : Nat → Nat → Int32) (a' t : Nat), (∀ q, q ≠ 40 → X' q = X q) → (∀ j, j ≠ 0 → j ≠ 2 → j ≠ 8 → X' 40 j = X 40 j) → (∀ q, q ≠ 99 → Y' q = Y q) → (∀ j, j ≠ 22 → j ≠ 24 → j ≠ 25 → Y' 99 j = Y 99 j) → b ≤ a' → (t ≠ 36 → b < a') → a' ≤ n → t ≤ 37 → X' 40 0 = nI t → X' 40 8 = nI a' → Y' 99 22 = nI a' → TT t (X' 40 2) (Y' 99 24) (Y' 99 25) → NC I X' ∧ NM J Y' ∧ TK n B b a' t X' Y' ∧ a ≤ b := by
    intro X' Y' a' t f1 f2 f3 f4 f5 f6 f7 f8 f9 f10 f11 f12
    have nc : NC I X' := ⟨fun q hq => (f1 q hq).trans (xo q hq), fun j j1 j2 j3 j4 => (f2 j j1 j3 j4).trans (xp j j2 j3 j4)⟩
    have nm : NM J Y' := ⟨fun q hq => (f3 q hq).trans (yo q hq), fun j hj => (f4 j (by omega) (by omega) (by omega)).trans (yp j (by omega) (by omega))⟩
    exact ⟨nc, nm, ⟨tb_n h nc nm, f7, f10, f11, ⟨f5, f6⟩, (f2 1 (by omega) (by omega) (by omega)).trans x1, (f4 23 (by omega) (by omega) (by omega)).trans y3, f8, f9, f12⟩, b1⟩
  by_cases c : b < n
  · rw [if_pos c, if_pos c]
    by_cases c1 : 97 ≤ B b ∧ B b ≤ 122
    · rw [if_pos c1, if_pos c1]
      obtain ⟨t, a', X', Y', r1, r2, r3, r4, r5, r6, r7, r8, r9, r10, r11, r12⟩ := lx_word hR hR' h (xo 1 (by omega)) (xo 41 (by omega)) x7 y21 y100 c c1 x8 x2 y2 y3
      refine ⟨X', Y', b, a', t, r1, r2, fin X' Y' a' t r3 r4 r5 r6 (by omega) (fun _ => r7) r8 ?_ r9 r10 r11 ?_⟩
      · rcases r12 with z | z | z <;> omega
      · rcases r12 with z | z | z
        · exact Or.inl z
        · exact Or.inr (Or.inl z)
        · exact Or.inr (Or.inr (Or.inr (Or.inr (Or.inr z))))
    · rw [if_neg c1, if_neg c1]
      by_cases c2 : 48 ≤ B b ∧ B b ≤ 57
      · rw [if_pos c2, if_pos c2]
        have tb2 : TB n B X (xu (xu Y 99 24 2) 99 25 0) := tb_congr h (xp 7 (by omega) (by omega) (by omega)) (xo 1 (by omega)) (xo 41 (by omega)) ((xu_at2 (by omega)).trans ((xu_at2 (by omega)).trans y21)) ((xu_off (by omega)).trans ((xu_off (by omega)).trans y100))
        obtain ⟨a', x', y', X', Y', r1, r2, r3, r4, r5, r6, r7, r8, r9, r10, r11, r12, r13, r14, r15⟩ := lx_num hR hR' (n - b) b X (xu (xu Y 99 24 2) 99 25 0) xF xF 0 0 tb2 (by omega) x8 ((xu_at2 (by omega)).trans ((xu_at2 (by omega)).trans y2)) x2 xu_at (Or.inl ⟨rfl, by omega⟩) (by unfold xF; omega) (by unfold xF; omega)
        refine ⟨X', Y', b, a', 22, r5, r6, fin X' Y' a' 22 r7 r8 (fun q hq => ?_) (fun j j1 j2 j3 => ?_) r1 (fun _ => r3 c c2) r2 (by omega) r11 r13 r14 (Or.inr (Or.inr (Or.inl ⟨rfl, ?_, x', y', r4, r12, r15⟩)))⟩
        · rw [r9 q hq, xu_off hq, xu_off hq]
        · rw [r10 j j1 j3, xu_at2 j3, xu_at2 j2]
        · rw [r10 24 (by omega) (by omega), xu_at2 (by omega), xu_at]
      · rw [if_neg c2, if_neg c2]
        obtain ⟨t, a', X', Y', r1, r2, r3, r4, r5, r6, r7, r8, r9, r10, r11, r12⟩ := lx_sign hR hR' h (xo 1 (by omega)) x7 y21 y100 c x8 y2
        refine ⟨X', Y', b, a', t, r1, r2, fin X' Y' a' t r3 (fun j j1 j2 j3 => r4 j j1 j3) r5 r6 (by omega) (fun _ => r7) r8 ?_ r9 r10 r11 ?_⟩
        · rcases r12 with z | z <;> omega
        · rcases r12 with z | z
          · exact Or.inr (Or.inr (Or.inr (Or.inl z)))
          · exact Or.inr (Or.inr (Or.inr (Or.inr (Or.inr z))))
  · rw [if_neg c, if_neg c]
    exact ⟨_, _, b, b, 36, rfl, rfl, fin _ _ b 36 (fun q hq => xu_off hq) (fun j j1 _ _ => xu_at2 j1) (fun q hq => xu_off hq) (fun j _ j2 _ => xu_at2 j2) (Nat.le_refl _) (fun z => absurd rfl z) b2 (by omega) xu_at ((xu_at2 (by omega)).trans x8) ((xu_at2 (by omega)).trans y2) (Or.inr (Or.inr (Or.inr (Or.inr (Or.inl ⟨rfl, xu_at⟩)))))⟩

/-! LEVEL 2: text. The reader of laws against the reference's descent: all ranks -/
theorem bind_id {α : Type} (x : Option α) : (x.bind fun d => some d) = x := by cases x <;> rfl
theorem oks_tt {n : Nat} {B : Nat → Nat} {D i k z w o r z0 : Nat} {S : Nat → Nat} {p t : Nat} {I J : Nat → Nat → Int32} (h : OKS n B D i k z w o r z0 S p t I J) : TT t (I 40 2) (J 99 24) (J 99 25) := by obtain ⟨a, hk, _⟩ := h; exact tk_tt hk
theorem oks_f0 {n : Nat} {B : Nat → Nat} {D i k z w o r z0 : Nat} {S : Nat → Nat} {p t : Nat} {I J : Nat → Nat → Int32} (h : OKS n B D i k z w o r z0 S p t I J) : J 99 26 = 0 := by obtain ⟨a, _, hl, _⟩ := h; exact lk_f0 hl
theorem oks_mk {n : Nat} {B : Nat → Nat} {D i k z w o r z0 : Nat} {S : Nat → Nat} {p t : Nat} {I J : Nat → Nat → Int32} (h : OKS n B D i k z w o r z0 S p t I J) : J 99 31 = nI k ∧ k ≤ 64 := by obtain ⟨a, _, hl, _⟩ := h; exact ⟨lk_mk hl, lk_k64 hl⟩
theorem oks_mo {n : Nat} {B : Nat → Nat} {D i k z w o r z0 : Nat} {S : Nat → Nat} {p t : Nat} {I J : Nat → Nat → Int32} (h : OKS n B D i k z w o r z0 S p t I J) : J 99 30 = nI o ∧ o ≤ 8 ∧ o + r ≤ w := by obtain ⟨a, _, hl, _⟩ := h; exact ⟨lk_mo hl, lk_o8 hl, lk_ow hl⟩
theorem oks_my {n : Nat} {B : Nat → Nat} {D i k z w o r z0 : Nat} {S : Nat → Nat} {p t : Nat} {I J : Nat → Nat → Int32} (h : OKS n B D i k z w o r z0 S p t I J) : J 101 15 = nI (z + r) ∧ z + w = k + o := by obtain ⟨a, _, hl, he, _⟩ := h; exact ⟨lk_my hl, he⟩
/-- the reference's tests by the token -/
theorem m_isS {L' : Nat → Nat → Int64} {R' : Nat → Nat → Option Nat} {J : Nat → Nat → Int32} {t : Nat} {cv : Int32} (tt : TT t cv (J 99 24) (J 99 25)) (f0 : J 99 26 = 0) {s : Nat} (h1 : 23 ≤ s) (h2 : s ≤ 35) {x : Int32} (hx : x = nI (sgc s)) : f_X10_isSign shA 99 x (J, L', R') = some (if t = s then 1 else 0, (J, L', R')) := by
  rw [m_isSign, hx]
  have z := t_sign tt h1 h2
  by_cases c : t = s
  · rw [if_pos c, if_pos ⟨f0, z.mpr c⟩]
  · rw [if_neg c, if_neg (fun q => c (z.mp q.2))]
theorem m_isW {L' : Nat → Nat → Int64} {R' : Nat → Nat → Option Nat} {J : Nat → Nat → Int32} {t : Nat} {cv : Int32} (tt : TT t cv (J 99 24) (J 99 25)) (f0 : J 99 26 = 0) {s : Nat} (h1 : s < 21) {x : Int32} (hx : x = nI s) : f_X10_isWord shA 99 x (J, L', R') = some (if t = s then 1 else 0, (J, L', R')) := by
  rw [m_isWord, hx]
  have z := t_word tt h1
  by_cases c : t = s
  · rw [if_pos c, if_pos ⟨f0, z.mpr c⟩]
  · rw [if_neg c, if_neg (fun q => c (z.mp q.2))]
theorem m_isSF {L' : Nat → Nat → Int64} {R' : Nat → Nat → Option Nat} {J : Nat → Nat → Int32} (f0 : J 99 26 ≠ 0) (x : Int32) : f_X10_isSign shA 99 x (J, L', R') = some (0, (J, L', R')) := by
  rw [m_isSign, if_neg (fun q => f0 q.1)]
theorem m_isWF {L' : Nat → Nat → Int64} {R' : Nat → Nat → Option Nat} {J : Nat → Nat → Int32} (f0 : J 99 26 ≠ 0) (x : Int32) : f_X10_isWord shA 99 x (J, L', R') = some (0, (J, L', R')) := by
  rw [m_isWord, if_neg (fun q => f0 q.1)]
theorem t_val {t : Nat} {cv so va : Int32} (h : TT t cv so va) (h1 : 23 ≤ t) (h2 : t ≤ 35) : va = nI (sgc t) ∧ so = 3 := by
  have z := (t_sign h h1 h2).mpr rfl
  exact ⟨z.2, z.1⟩
theorem b2_1 {L' : Nat → Nat → Int64} {R' : Nat → Nat → Option Nat} {F rc : Nat → xD → Option xD} {J : Nat → Nat → Int32} {v : Int32} : ((f_X10_knot shA 99 (J, L', R')).bind fun d2 => (f_X10_goOn shA 99 d2).bind fun d3 => (F 99 d3).bind fun d4 => (f_X10_puts shA 99 (2 : Int32) v d4).bind fun d5 => rc 99 d5) = GB v F rc (J, L', R') := rfl
theorem sp_product {P P' : Nat} {L L' : Nat → Nat → Int64} {R R' : Nat → Nat → Option Nat} (hR : ∀ I, RefOK (I, L, R) P) (hR' : ∀ I, RefOK (I, L', R') P') {n : Nat} {B : Nat → Nat} {D kk : Nat} (hD : isPl D) {F : Nat → xD → Option xD} (hF : SP L R L' R' n B D kk 7 6 F) (hFz : FZ L' R' F) : SP L R L' R' n B D kk 6 5 (fun q d => e_X10_product shA F q d) ∧ FZ L' R' (fun q d => e_X10_product shA F q d) := by
  have e : ∀ J : Nat → Nat → Int32, e_X10_product shA F 99 (J, L', R') = (F 99 (J, L', R')).bind fun d8 => xloop (fun _ _ => none) (b_X10_product_4 shA F) xF 99 d8 := fun J => by unfold e_X10_product; rw [on_of sA_99]
  have hbz : ∀ rc (J : Nat → Nat → Int32), J 99 26 ≠ 0 → b_X10_product_4 shA F rc 99 (J, L', R') = some (J, L', R') := fun rc J hJ => by
    unfold b_X10_product_4 k_X10_product_48
    simp only [on_of sA_99, m_isSF hJ, Option.bind_some, ↓reduceIte]
  have hb : ∀ rc t cv (J : Nat → Nat → Int32), TT t cv (J 99 24) (J 99 25) → J 99 26 = 0 → b_X10_product_4 shA F rc 99 (J, L', R') = if t = 28 ∨ t = 29 then GB (nI (cd t)) F rc (J, L', R') else some (J, L', R') := fun rc t cv J tt f0 => by
    unfold b_X10_product_4 k_X10_product_48 k_X10_product_22
    simp only [on_of sA_99, m_isS tt f0 (s := 28) (by omega) (by omega) (x := 42) rfl, m_isS tt f0 (s := 29) (by omega) (by omega) (x := 47) rfl, Option.bind_some, gI_of sA_99, b2_1]
    by_cases c : t = 28
    · rw [if_pos c, if_neg (by decide), if_pos (Or.inl c), (t_val tt (by omega) (by omega)).1, c]; rfl
    · rw [if_neg c, if_pos rfl]
      by_cases c2 : t = 29
      · rw [if_pos c2, if_neg (by decide), if_pos (Or.inr c2), (t_val tt (by omega) (by omega)).1, c2]; rfl
      · rw [if_neg c2, if_pos rfl, if_neg (by omega)]
  constructor
  · have z := sp_loop hR hR' hD (lo := 6) (bd := 5) (op := fun t => t = 28 ∨ t = 29) (b := b_X10_product_4 shA F) (by rintro t (rfl | rfl) <;> rfl) (by omega) (by omega) (by omega) (by omega) (by omega) (by omega) (by omega) (by omega) (by omega) (fun t S w r h1 h2 => ⟨fun _ => by omega, fun q => by omega, fun q => by omega, fun q => by omega, fun q => by omega⟩) (fun rc t cv J h1 h2 h3 => by rw [hb rc t cv J h1 h2, if_pos h3]) (fun rc t cv J h1 h2 h3 => by rw [hb rc t cv J h1 h2, if_neg h3]) hbz hF hFz
    intro i k z' w o z0 S p t I J h1 h2 h3 h4 h5 h6 h7
    have y := z i k z' w o z0 S p t I J h1 h2 h3 h4 h5 h6 h7
    dsimp only at y ⊢
    rw [e J]; exact y
  · intro J hJ
    dsimp only
    rw [e J, hFz J hJ, Option.bind_some, show xF = 999999 + 1 from rfl, loop_s]
    exact hbz _ J hJ
theorem sp_sum {P P' : Nat} {L L' : Nat → Nat → Int64} {R R' : Nat → Nat → Option Nat} (hR : ∀ I, RefOK (I, L, R) P) (hR' : ∀ I, RefOK (I, L', R') P') {n : Nat} {B : Nat → Nat} {D kk : Nat} (hD : isPl D) {F : Nat → xD → Option xD} (hF : SP L R L' R' n B D kk 6 5 F) (hFz : FZ L' R' F) : SP L R L' R' n B D kk 5 4 (fun q d => e_X10_sum shA F q d) ∧ FZ L' R' (fun q d => e_X10_sum shA F q d) := by
  have e : ∀ J : Nat → Nat → Int32, e_X10_sum shA F 99 (J, L', R') = (F 99 (J, L', R')).bind fun d8 => xloop (fun _ _ => none) (b_X10_sum_4 shA F) xF 99 d8 := fun J => by unfold e_X10_sum; rw [on_of sA_99]
  have hbz : ∀ rc (J : Nat → Nat → Int32), J 99 26 ≠ 0 → b_X10_sum_4 shA F rc 99 (J, L', R') = some (J, L', R') := fun rc J hJ => by
    unfold b_X10_sum_4 k_X10_sum_48
    simp only [on_of sA_99, m_isSF hJ, Option.bind_some, ↓reduceIte]
  have hb : ∀ rc t cv (J : Nat → Nat → Int32), TT t cv (J 99 24) (J 99 25) → J 99 26 = 0 → b_X10_sum_4 shA F rc 99 (J, L', R') = if t = 26 ∨ t = 27 then GB (nI (cd t)) F rc (J, L', R') else some (J, L', R') := fun rc t cv J tt f0 => by
    unfold b_X10_sum_4 k_X10_sum_48 k_X10_sum_22
    simp only [on_of sA_99, m_isS tt f0 (s := 26) (by omega) (by omega) (x := 43) rfl, m_isS tt f0 (s := 27) (by omega) (by omega) (x := 45) rfl, Option.bind_some, gI_of sA_99, b2_1]
    by_cases c : t = 26
    · rw [if_pos c, if_neg (by decide), if_pos (Or.inl c), (t_val tt (by omega) (by omega)).1, c]; rfl
    · rw [if_neg c, if_pos rfl]
      by_cases c2 : t = 27
      · rw [if_pos c2, if_neg (by decide), if_pos (Or.inr c2), (t_val tt (by omega) (by omega)).1, c2]; rfl
      · rw [if_neg c2, if_pos rfl, if_neg (by omega)]
  constructor
  · have z := sp_loop hR hR' hD (lo := 5) (bd := 4) (op := fun t => t = 26 ∨ t = 27) (b := b_X10_sum_4 shA F) (by rintro t (rfl | rfl) <;> rfl) (by omega) (by omega) (by omega) (by omega) (by omega) (by omega) (by omega) (by omega) (by omega) (fun t S w r h1 h2 => ⟨fun _ => h1.1 (by omega), fun _ => by omega, fun q => by omega, fun q => by omega, fun q => by omega⟩) (fun rc t cv J h1 h2 h3 => by rw [hb rc t cv J h1 h2, if_pos h3]) (fun rc t cv J h1 h2 h3 => by rw [hb rc t cv J h1 h2, if_neg h3]) hbz hF hFz
    intro i k z' w o z0 S p t I J h1 h2 h3 h4 h5 h6 h7
    have y := z i k z' w o z0 S p t I J h1 h2 h3 h4 h5 h6 h7
    dsimp only at y ⊢
    rw [e J]; exact y
  · intro J hJ
    dsimp only
    rw [e J, hFz J hJ, Option.bind_some, show xF = 999999 + 1 from rfl, loop_s]
    exact hbz _ J hJ
theorem sp_conj {P P' : Nat} {L L' : Nat → Nat → Int64} {R R' : Nat → Nat → Option Nat} (hR : ∀ I, RefOK (I, L, R) P) (hR' : ∀ I, RefOK (I, L', R') P') {n : Nat} {B : Nat → Nat} {D kk : Nat} (hD : isPl D) {F : Nat → xD → Option xD} (hF : SP L R L' R' n B D kk 3 3 F) (hFz : FZ L' R' F) : SP L R L' R' n B D kk 2 1 (fun q d => e_X10_conjunction shA F q d) ∧ FZ L' R' (fun q d => e_X10_conjunction shA F q d) := by
  have e : ∀ J : Nat → Nat → Int32, e_X10_conjunction shA F 99 (J, L', R') = (F 99 (J, L', R')).bind fun d8 => xloop (fun _ _ => none) (b_X10_conjunction_4 shA F) xF 99 d8 := fun J => by unfold e_X10_conjunction; rw [on_of sA_99]
  have hbz : ∀ rc (J : Nat → Nat → Int32), J 99 26 ≠ 0 → b_X10_conjunction_4 shA F rc 99 (J, L', R') = some (J, L', R') := fun rc J hJ => by
    unfold b_X10_conjunction_4 k_X10_conjunction_36
    simp only [on_of sA_99, m_isWF hJ, Option.bind_some, ↓reduceIte]
  have hb : ∀ rc t cv (J : Nat → Nat → Int32), TT t cv (J 99 24) (J 99 25) → J 99 26 = 0 → b_X10_conjunction_4 shA F rc 99 (J, L', R') = if t = 12 then GB (nI (cd t)) F rc (J, L', R') else some (J, L', R') := fun rc t cv J tt f0 => by
    unfold b_X10_conjunction_4 k_X10_conjunction_36
    simp only [on_of sA_99, m_isW tt f0 (s := 12) (by omega) (x := 12) rfl, Option.bind_some, b2_1]
    by_cases c : t = 12
    · rw [if_pos c, if_neg (by decide), if_pos c, c]; rfl
    · rw [if_neg c, if_pos rfl, if_neg c]
  constructor
  · have z := sp_loop hR hR' hD (lo := 2) (bd := 1) (op := fun t => t = 12) (b := b_X10_conjunction_4 shA F) (by rintro t rfl; rfl) (by omega) (by omega) (by omega) (by omega) (by omega) (by omega) (by omega) (by omega) (by omega) (fun t S w r h1 h2 => ⟨fun _ => h1.1 (by omega), fun _ => h1.2.1 (by omega), fun _ => h1.2.2.1 (by omega), fun _ => h2, fun q => by omega⟩) (fun rc t cv J h1 h2 h3 => by rw [hb rc t cv J h1 h2, if_pos h3]) (fun rc t cv J h1 h2 h3 => by rw [hb rc t cv J h1 h2, if_neg h3]) hbz hF hFz
    intro i k z' w o z0 S p t I J h1 h2 h3 h4 h5 h6 h7
    have y := z i k z' w o z0 S p t I J h1 h2 h3 h4 h5 h6 h7
    dsimp only at y ⊢
    rw [e J]; exact y
  · intro J hJ
    dsimp only
    rw [e J, hFz J hJ, Option.bind_some, show xF = 999999 + 1 from rfl, loop_s]
    exact hbz _ J hJ
theorem sp_expr {P P' : Nat} {L L' : Nat → Nat → Int64} {R R' : Nat → Nat → Option Nat} (hR : ∀ I, RefOK (I, L, R) P) (hR' : ∀ I, RefOK (I, L', R') P') {n : Nat} {B : Nat → Nat} {D kk : Nat} (hD : isPl D) {F : Nat → xD → Option xD} (hF : SP L R L' R' n B D kk 2 1 F) (hFz : FZ L' R' F) : SP L R L' R' n B D kk 1 0 (fun q d => e_X10_expression shA F q d) ∧ FZ L' R' (fun q d => e_X10_expression shA F q d) := by
  have e : ∀ J : Nat → Nat → Int32, e_X10_expression shA F 99 (J, L', R') = (F 99 (J, L', R')).bind fun d8 => xloop (fun _ _ => none) (b_X10_expression_4 shA F) xF 99 d8 := fun J => by unfold e_X10_expression; rw [on_of sA_99]
  have hbz : ∀ rc (J : Nat → Nat → Int32), J 99 26 ≠ 0 → b_X10_expression_4 shA F rc 99 (J, L', R') = some (J, L', R') := fun rc J hJ => by
    unfold b_X10_expression_4 k_X10_expression_36
    simp only [on_of sA_99, m_isWF hJ, Option.bind_some, ↓reduceIte]
  have hb : ∀ rc t cv (J : Nat → Nat → Int32), TT t cv (J 99 24) (J 99 25) → J 99 26 = 0 → b_X10_expression_4 shA F rc 99 (J, L', R') = if t = 11 then GB (nI (cd t)) F rc (J, L', R') else some (J, L', R') := fun rc t cv J tt f0 => by
    unfold b_X10_expression_4 k_X10_expression_36
    simp only [on_of sA_99, m_isW tt f0 (s := 11) (by omega) (x := 11) rfl, Option.bind_some, b2_1]
    by_cases c : t = 11
    · rw [if_pos c, if_neg (by decide), if_pos c, c]; rfl
    · rw [if_neg c, if_pos rfl, if_neg c]
  constructor
  · have z := sp_loop hR hR' hD (lo := 1) (bd := 0) (op := fun t => t = 11) (b := b_X10_expression_4 shA F) (by rintro t rfl; rfl) (by omega) (by omega) (by omega) (by omega) (by omega) (by omega) (by omega) (by omega) (by omega) (fun t S w r h1 h2 => ⟨fun _ => h1.1 (by omega), fun _ => h1.2.1 (by omega), fun _ => h1.2.2.1 (by omega), fun _ => h1.2.2.2.1 (by omega), fun _ => h2⟩) (fun rc t cv J h1 h2 h3 => by rw [hb rc t cv J h1 h2, if_pos h3]) (fun rc t cv J h1 h2 h3 => by rw [hb rc t cv J h1 h2, if_neg h3]) hbz hF hFz
    intro i k z' w o z0 S p t I J h1 h2 h3 h4 h5 h6 h7
    have y := z i k z' w o z0 S p t I J h1 h2 h3 h4 h5 h6 h7
    dsimp only at y ⊢
    rw [e J]; exact y
  · intro J hJ
    dsimp only
    rw [e J, hFz J hJ, Option.bind_some, show xF = 999999 + 1 from rfl, loop_s]
    exact hbz _ J hJ
theorem cmp_dec : ∀ i : Fin 13, ((nI (sgc (23 + i.val)) = 60 ∨ nI (sgc (23 + i.val)) = 62 ∨ nI (sgc (23 + i.val)) = 61 ∨ 256 ≤ nI (sgc (23 + i.val))) ↔ 30 ≤ 23 + i.val) := by decide +kernel
theorem rk_cmp {t : Nat} : rk t = 4 ↔ (30 ≤ t ∧ t ≤ 35) := by
  unfold rk
  repeat' split
  all_goals omega
theorem sp_neg {P P' : Nat} {L L' : Nat → Nat → Int64} {R R' : Nat → Nat → Option Nat} (hR : ∀ I, RefOK (I, L, R) P) (hR' : ∀ I, RefOK (I, L', R') P') {n : Nat} {B : Nat → Nat} {D kk : Nat} (hD : isPl D) {Fn Fs : Nat → xD → Option xD} (hN : SP L R L' R' n B D kk 3 3 Fn) (hNz : FZ L' R' Fn) (hS : SP L R L' R' n B D (kk + 1) 5 4 Fs) (hSz : FZ L' R' Fs) : SP L R L' R' n B D (kk + 1) 3 3 (fun q d => e_X10_negation shA Fn Fs q d) ∧ FZ L' R' (fun q d => e_X10_negation shA Fn Fs q d) := by
  have e : ∀ t cv (J : Nat → Nat → Int32), TT t cv (J 99 24) (J 99 25) → J 99 26 = 0 → e_X10_negation shA Fn Fs 99 (J, L', R') = if t = 13 then GB (nI (cd 13)) Fn (fun _ d => some d) (J, L', R') else ((Fs 99 (J, L', R')).bind fun d7 => (xgI 10 shA d7 99 26).bind fun v8 => if v8 = 0 then ((xgI 10 shA d7 99 24).bind fun v9 => if v9 = (3 : Int32) then ((xgI 10 shA d7 99 25).bind fun v10 => if v10 = (60 : Int32) then (k_X10_negation_87 shA Fn Fs 99 d7) else ((xgI 10 shA d7 99 25).bind fun v11 => if v11 = (62 : Int32) then (k_X10_negation_87 shA Fn Fs 99 d7) else ((xgI 10 shA d7 99 25).bind fun v12 => if v12 = (61 : Int32) then (k_X10_negation_87 shA Fn Fs 99 d7) else ((xgI 10 shA d7 99 25).bind fun v13 => if (256 : Int32) ≤ v13 then (k_X10_negation_87 shA Fn Fs 99 d7) else (k_X10_negation_86 shA Fn Fs d7))))) else (k_X10_negation_86 shA Fn Fs d7)) else (k_X10_negation_86 shA Fn Fs d7)) := fun t cv J tt f0 => by
    unfold e_X10_negation
    rw [on_of sA_99, m_isW tt f0 (s := 13) (by omega) (x := 13) rfl, Option.bind_some]
    by_cases c : t = 13
    · rw [if_pos c, if_pos c]
      dsimp only
      rw [if_neg (show ¬ (1 : Int32) = 0 by decide)]
      simp only [on_of sA_99]
      rfl
    · rw [if_neg c, if_neg c]
      dsimp only
      rw [if_pos rfl, on_of sA_99]
  have h87 : ∀ J : Nat → Nat → Int32, k_X10_negation_87 shA Fn Fs 99 (J, L', R') = GB (J 99 25) Fs (fun _ d => some d) (J, L', R') := fun J => by
    unfold k_X10_negation_87
    rw [gI_of sA_99, Option.bind_some]
    simp only [on_of sA_99]
    rfl
  have tail : ∀ t cv (J : Nat → Nat → Int32), TT t cv (J 99 24) (J 99 25) → J 99 26 = 0 → ((xgI 10 shA (J, L', R') 99 26).bind fun v8 => if v8 = 0 then ((xgI 10 shA (J, L', R') 99 24).bind fun v9 => if v9 = (3 : Int32) then ((xgI 10 shA (J, L', R') 99 25).bind fun v10 => if v10 = (60 : Int32) then (k_X10_negation_87 shA Fn Fs 99 (J, L', R')) else ((xgI 10 shA (J, L', R') 99 25).bind fun v11 => if v11 = (62 : Int32) then (k_X10_negation_87 shA Fn Fs 99 (J, L', R')) else ((xgI 10 shA (J, L', R') 99 25).bind fun v12 => if v12 = (61 : Int32) then (k_X10_negation_87 shA Fn Fs 99 (J, L', R')) else ((xgI 10 shA (J, L', R') 99 25).bind fun v13 => if (256 : Int32) ≤ v13 then (k_X10_negation_87 shA Fn Fs 99 (J, L', R')) else (k_X10_negation_86 shA Fn Fs (J, L', R')))))) else (k_X10_negation_86 shA Fn Fs (J, L', R'))) else (k_X10_negation_86 shA Fn Fs (J, L', R'))) = if rk t = 4 then GB (nI (cd t)) Fs (fun _ d => some d) (J, L', R') else some (J, L', R') := fun t cv J tt f0 => by
    simp only [gI_of sA_99, Option.bind_some, h87]
    rw [if_pos f0]
    by_cases c : 23 ≤ t ∧ t ≤ 35
    · obtain ⟨v1, v2⟩ := t_val tt c.1 c.2
      have z := cmp_dec ⟨t - 23, by omega⟩
      dsimp only at z
      rw [show 23 + (t - 23) = t by omega] at z
      have cdt : cd t = sgc t := by unfold cd; rw [if_neg (by omega), if_neg (by omega), if_neg (by omega)]
      rw [if_pos v2, v1, cdt]
      by_cases c4 : rk t = 4
      · rw [if_pos c4]
        by_cases y1 : nI (sgc t) = 60
        · rw [if_pos y1]
        · rw [if_neg y1]
          by_cases y2 : nI (sgc t) = 62
          · rw [if_pos y2]
          · rw [if_neg y2]
            by_cases y3 : nI (sgc t) = 61
            · rw [if_pos y3]
            · rw [if_neg y3]
              have y4 := z.mpr (rk_cmp.mp c4).1
              rw [if_pos (by rcases y4 with q | q | q | q <;> first | exact absurd q y1 | exact absurd q y2 | exact absurd q y3 | exact q)]
      · have y : ¬ (nI (sgc t) = 60 ∨ nI (sgc t) = 62 ∨ nI (sgc t) = 61 ∨ 256 ≤ nI (sgc t)) := fun q => c4 (rk_cmp.mpr ⟨z.mp q, c.2⟩)
        rw [if_neg c4, if_neg (fun q => y (Or.inl q)), if_neg (fun q => y (Or.inr (Or.inl q))), if_neg (fun q => y (Or.inr (Or.inr (Or.inl q)))), if_neg (fun q => y (Or.inr (Or.inr (Or.inr q))))]
        rfl
    · have y : ¬ J 99 24 = 3 := by
        unfold TT at tt
        rcases tt with ⟨z1, z2, z3⟩ | ⟨z1, z2, z3⟩ | ⟨z1, z2, z3⟩ | ⟨z1, z2, z3, z4⟩ | ⟨z1, z2⟩ | ⟨z1, z2⟩
        · rw [z2]; decide
        · rw [z2]; decide
        · rw [z2]; decide
        · exact absurd ⟨z1, z2⟩ c
        · rw [z2]; decide
        · rw [z2]; decide
      rw [if_neg y, if_neg (show ¬ rk t = 4 from fun q => by have := rk_cmp.mp q; omega)]
      rfl
  have sz : FZ L' R' (fun _ d => some d) := fun _ _ => rfl
  constructor
  · intro i k z w o z0 S p t I J hs h4 n1 _ hw hme hz
    have tt := oks_tt hs; have f0 := oks_f0 hs
    obtain ⟨mk, k64⟩ := oks_mk hs
    obtain ⟨mo, o8, how⟩ := oks_mo hs
    have h5 := n1 (by omega)
    dsimp only
    rw [e t _ J tt f0]
    by_cases c : t = 13
    · rw [if_pos c]
      rcases st_not hR hR' hD hs h4 h5 c with ⟨q0, I', q1, q2, q3⟩ | ⟨q0, I2, J2, p2, t2, q1, q2, q3, q4, q5, q6, q7, q8⟩
      · left
        rw [q0] at mk
        exact ⟨I', rfM 2 J, q1, gb_full f0 mk hNz sz, q2, lfm_rf lfm_refl, q3⟩
      · rw [gb_go f0 mk q0 q2]
        rcases gbs hR hR' hD q3 q4 (s := 13) (by rw [if_pos rfl]; exact c) (by decide) hN sz (by decide) (fun _ => q5) (fun q => by omega) (by omega) hz (by omega) with ⟨I', J', b1, b2, b3, b4, b5⟩ | ⟨i', k', z', r', S', p', t', I', J', b1, b2, b3, b4, b5, b6, b7, b8, b9, b10, b11, b12, b13, b14, b15⟩
        · left
          exact ⟨I', J', q1.trans b1, b2, lfc_trans (lfc_le q7 (Nat.zero_le _)) b3 (Nat.le_refl _), lfm_trans (lfm_le q8 (Nat.zero_le _)) b4 (Nat.le_refl _), b5⟩
        · right
          have sw : S' w = 13 := by rw [b5 w (by omega), if_pos rfl]; exact c
          refine ⟨i', k', z', r' + 1, S', p', t', I', J', q1.trans b1, b2, b3, b4, fun j hj => by rw [b5 j (by omega), if_neg (by omega)], fun j hj => ?_, nx_r b7 (by omega), by omega, by omega, b10, lfc_trans q7 b11 (Nat.le_refl _), lfm_trans q8 b12 (Nat.le_refl _), fun h => ?_⟩
          · by_cases c2 : j = r'
            · subst c2; rw [show w + (j + 1) - 1 - j = w by omega, sw]; decide
            · exact b6 j (by omega)
          · have y := HG_app (b13 h) (by rw [show z + (z' + r' - z) = z' + r' by omega]; exact HG_not (h := h) b14 (by rw [b15]; rfl))
            rw [show z' + r' - z + 1 = z' + (r' + 1) - z by omega] at y
            exact y
    · rw [if_neg c]
      rcases hS i k z w o z0 S p t I J hs h4 (fun q => by omega) (fun _ => Or.inr c) (fun q => by have := hw q; omega) hme hz with ⟨I', J', b1, b2, b3, b4, b5⟩ | ⟨i', k', z', r', S', p', t', I', J', b1, b2, b3, b4, b5, b6, b7, b8, b9, b10, b11, b12, b13⟩
      · left
        refine ⟨I', J', b1, ?_, b3, b4, b5⟩
        rw [b2, Option.bind_some, gI_of sA_99, Option.bind_some]
        dsimp only
        rw [if_neg b5.2.2]
        rfl
      · have tt' := oks_tt b3; have f0' := oks_f0 b3
        obtain ⟨mk', k64'⟩ := oks_mk b3
        rw [b2, Option.bind_some, tail t' _ J' tt' f0']
        by_cases c4 : rk t' = 4
        · rw [if_pos c4]
          have hS2 : ∀ j, j < w → S' j = S j := b5
          rcases st_op hR hR' hD b3 b4 (by omega) (by omega) (fun j hj => by have := b6 j hj; omega) (fun _ => b6) (fun q => by rw [show w + r' - r' - 1 = w - 1 by omega, hS2 (w - 1) (by omega)]; have := hw (by omega); omega) with ⟨q0, I2, q1, q2, q3⟩ | ⟨q0, I2, J2, p2, t2, q1, q2, q3, q4, q5, q6, q7, q8⟩
          · left
            rw [q0] at mk'
            exact ⟨I2, rfM 2 J', b1.trans q1, gb_full f0' mk' hSz sz, lfc_trans (lfc_le b11 (Nat.zero_le _)) q2 (Nat.le_refl _), lfm_rf (lfm_le b12 (Nat.zero_le _)), q3⟩
          · rw [show w + r' - r' = w by omega] at q3
            rw [gb_go f0' mk' q0 q2]
            rcases gbs hR hR' hD q3 q4 (s := t') (by rw [if_pos rfl]) (by omega) hS sz (by omega) (fun q => by omega) (fun _ => Or.inl (by rw [q5, if_neg (by omega)])) (by omega) (by omega) (by omega) with ⟨I3, J3, d1, d2, d3, d4, d5⟩ | ⟨i3, k3, z3, r3, S3, p3, t3, I3, J3, d1, d2, d3, d4, d5, d6, d7, d8, d9, d10, d11, d12, d13, d14, d15⟩
            · left
              exact ⟨I3, J3, (b1.trans q1).trans d1, d2, lfc_trans (lfc_trans (lfc_le b11 (Nat.zero_le _)) (lfc_le q7 (Nat.zero_le _)) (Nat.le_refl _)) d3 (Nat.le_refl _), lfm_trans (lfm_trans (lfm_le b12 (Nat.zero_le _)) (lfm_le q8 (Nat.zero_le _)) (Nat.le_refl _)) d4 (Nat.le_refl _), d5⟩
            · right
              have sw : S3 w = t' := by rw [d5 w (by omega), if_pos rfl]
              refine ⟨i3, k3, z3, r3 + 1, S3, p3, t3, I3, J3, (b1.trans q1).trans d1, d2, d3, d4, fun j hj => by rw [d5 j (by omega), if_neg (by omega)]; exact b5 j hj, fun j hj => ?_, ⟨fun _ => d7.1 (by omega), fun _ => d7.2.1 (by omega), fun _ _ => ⟨r3, by omega, ?_, d6⟩, fun q => by omega, fun q => by omega⟩, by omega, by omega, by omega, lfc_trans (lfc_trans b11 (lfc_le q7 b10) (Nat.le_refl _)) (lfc_le d11 (by omega)) (Nat.le_refl _), lfm_trans (lfm_trans b12 (lfm_le q8 (by omega)) (Nat.le_refl _)) (lfm_le d12 (by omega)) (Nat.le_refl _), fun h => ?_⟩
              · by_cases c2 : j = r3
                · subst c2; rw [show w + (j + 1) - 1 - j = w by omega, sw]; omega
                · have := d6 j (by omega); omega
              · rw [show w + (r3 + 1) - 1 - r3 = w by omega, sw]; exact c4
              · obtain ⟨_, ck, _⟩ := id b3
                have y1 : HG J3 z (z' + r' - z) h (h + 1) := HG_fr d12 (by omega) (HG_fr q8 (by omega) (b13 h))
                have y2 := d13 (h + 1)
                have y3 : HG J3 (z3 + r3) 1 (h + 2) (h + 1) := HG_bin d14 (by rw [d15]; exact cd_260 (by omega) (by omega) (tk_t37 ck))
                have y4 := HG_app y1 (by rw [show z + (z' + r' - z) = z' + r' by omega]; exact y2)
                have y5 := HG_app y4 (by rw [show z + (z' + r' - z + (z3 + r3 - (z' + r'))) = z3 + r3 by omega]; exact y3)
                rw [show z' + r' - z + (z3 + r3 - (z' + r')) + 1 = z3 + (r3 + 1) - z by omega] at y5
                exact y5
        · rw [if_neg c4]
          right
          exact ⟨i', k', z', r', S', p', t', I', J', b1, rfl, b3, b4, b5, fun j hj => by have := b6 j hj; omega, ⟨fun _ => b7.1 (by omega), fun _ => b7.2.1 (by omega), fun _ q => absurd q c4, fun q => by omega, fun q => by omega⟩, b8, b9, b10, b11, b12, b13⟩
  · intro J hJ
    dsimp only
    unfold e_X10_negation k_X10_negation_86
    simp only [on_of sA_99, m_isWF hJ, Option.bind_some, ↓reduceIte, hSz J hJ, gI_of sA_99, if_neg hJ]

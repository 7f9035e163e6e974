/-! LEVEL 2: the reference's talk, bench by bench; both together -/
def MPost (s nw : Nat) (m m' : xD) (T S : Nat) (D : Nat → Nat → Prop) : Prop := m'.2.2 = m.2.2 ∧ (∀ k, k ≠ 117 → k ≠ 118 → m'.2.1 k = m.2.1 k) ∧ (∀ k, k ≠ 99 → k ≠ 121 → k ≠ 130 → m'.1 k = m.1 k) ∧ (∀ k, k ≠ 34 → m'.1 99 k = m.1 99 k) ∧ (∀ i, i ≠ s → m'.1 121 i = m.1 121 i) ∧ (∀ i, (i < 6 * s ∨ 6 * s + 6 ≤ i) → m'.1 130 i = m.1 130 i) ∧ m'.1 121 s = nI (min 99999 (T + S)) ∧ ∀ i, i < nw → ∀ j, j < 32 → (bt (m'.1 130 (6 * s + i)) j = true ↔ bt (m.1 130 (6 * s + i)) j = true ∨ D i j)
theorem MPost.trans {s nw : Nat} {c c1 c2 : xD} {T S1 S2 : Nat} {D1 D2 : Nat → Nat → Prop} (h1 : MPost s nw c c1 T S1 D1) (h2 : MPost s nw c1 c2 (min 99999 (T + S1)) S2 D2) : MPost s nw c c2 T (S1 + S2) (fun i j => D1 i j ∨ D2 i j) := by
  obtain ⟨a1, a2, a3, a4, a5, a6, a7, a8⟩ := h1
  obtain ⟨b1, b2, b3, b4, b5, b6, b7, b8⟩ := h2
  refine ⟨b1.trans a1, fun k k1 k2 => (b2 k k1 k2).trans (a2 k k1 k2), fun k k1 k2 k3 => (b3 k k1 k2 k3).trans (a3 k k1 k2 k3), fun k k1 => (b4 k k1).trans (a4 k k1), fun k k1 => (b5 k k1).trans (a5 k k1), fun k k1 => (b6 k k1).trans (a6 k k1), ?_, fun i hi j hj => ?_⟩
  · rw [b7]; congr 1; omega
  · rw [b8 i hi j hj, a8 i hi j hj, or_assoc]
theorem MPost.mono {s nw : Nat} {c c1 : xD} {T S S' : Nat} {D D' : Nat → Nat → Prop} (h1 : MPost s nw c c1 T S D) (e : S = S') (hd : ∀ i, i < nw → ∀ j, j < 32 → (D i j ↔ D' i j)) : MPost s nw c c1 T S' D' := by
  obtain ⟨a1, a2, a3, a4, a5, a6, a7, a8⟩ := h1
  subst e
  exact ⟨a1, a2, a3, a4, a5, a6, a7, fun i hi j hj => (a8 i hi j hj).trans (or_congr Iff.rfl (hd i hi j hj))⟩
theorem MPost.refl {s nw : Nat} {c : xD} {T : Nat} {D : Nat → Nat → Prop} (hT : T ≤ 99999) (e : c.1 121 s = nI T) (hd : ∀ i, i < nw → ∀ j, j < 32 → ¬ D i j) : MPost s nw c c T 0 D :=
  ⟨rfl, fun _ _ _ => rfl, fun _ _ _ _ => rfl, fun _ _ => rfl, fun _ _ => rfl, fun _ _ => rfl, by rw [e]; congr 1; omega, fun i hi j hj => ⟨Or.inl, fun z => z.elim id (fun w => absurd w (hd i hi j hj))⟩⟩
theorem wf_M {P q s nw nb nr tp : Nat} {c0 m0 c m : xD} (h : WF P q s nw nb nr tp c0 m0 c m) {m' : xD} {T S : Nat} {D : Nat → Nat → Prop} (ht : MPost s nw m m' T S D) : WF P q s nw nb nr tp c0 m0 c m' := by
  obtain ⟨a1, a2, a3, a4, a5, a6, a7, a8⟩ := ht
  refine wf_mG h a1 (fun k k1 k2 => a3 k k2 (by omega) (by omega)) (fun k k1 k2 => a4 k k1) (fun k i k1 k2 k3 => ?_) (fun k i k1 k2 k3 => ?_) (fun i k1 => ?_) a2
  · by_cases e : k = 121
    · subst e; exact a5 i k3
    · rw [a3 k (by omega) e (by omega)]
  · by_cases e : k = 130
    · subst e; exact a6 i k3
    · rw [a3 k (by omega) (by omega) e]
  · rw [a3 131 (by omega) (by omega) (by omega)]
theorem vM_M {s nw : Nat} {m m' : xD} {T S : Nat} {D : Nat → Nat → Prop} (ht : MPost s nw m m' T S D) : ∀ j, j ≠ 2 → j ≠ 11 → vM s m'.1 j = vM s m.1 j := by
  intro j j1 j2
  funext k
  show m'.1 (119 + j) _ = m.1 (119 + j) _
  rw [ht.2.2.1 (119 + j) (by omega) (by omega) (by omega)]
def cdp (Y : Nat → Nat → Int32) (b i : Nat) : Prop := Y 5 i = 2 ∧ Y 8 i = nI b
def abN (G Y : Nat → Nat → Int32) (nw b i : Nat) : Nat := amN (lvv G Y nw 1 i b (Y 12 b))
def pB (G Y : Nat → Nat → Int32) (nw b p : Nat) : Nat → Nat := fun j => if (Y 5 p = 2 ∧ Y 8 p = nI b) ∧ (Y 5 j = 2 ∧ Y 8 j = nI b) then abN G Y nw b p else 0
def oB (G Y : Nat → Nat → Int32) (nw b : Nat) : Nat → Nat := fun i => sm (pB G Y nw b i) (i + 1) (nw - (i + 1))
theorem pB_t {G Y : Nat → Nat → Int32} {nw b p j : Nat} (h : cdp Y b p ∧ cdp Y b j) : pB G Y nw b p j = abN G Y nw b p := if_pos h
theorem pB_f {G Y : Nat → Nat → Int32} {nw b p j : Nat} (h : ¬ (cdp Y b p ∧ cdp Y b j)) : pB G Y nw b p j = 0 := if_neg h
theorem e_cd {Y : Nat → Nat → Int32} {nw b p j : Nat} (hw : nw ≤ 6) (hp : p < nw) (hj : j < nw) : ((((sit Y nw b) >>> (nI p &&& 31)) &&& ((sit Y nw b) >>> (nI j &&& 31))) &&& (1 : Int32)) = 0 ↔ ¬ (cdp Y b p ∧ cdp Y b j) := by
  rw [bi2 _ (by omega) (by omega), sit_bt hw (by omega), sit_bt hw (by omega), if10]
  rw [Bool.and_eq_false_iff, decide_eq_false_iff_not, decide_eq_false_iff_not]
  unfold cdp
  constructor
  · rintro (z | z) ⟨z1, z2⟩
    · exact z ⟨hp, z1⟩
    · exact z ⟨hj, z2⟩
  · intro z
    by_cases z1 : p < nw ∧ Y 5 p = 2 ∧ Y 8 p = nI b
    · exact Or.inr (fun z2 => z ⟨z1.2, z2.2⟩)
    · exact Or.inl z1
theorem e_pairM {P q s nw nb nr tp : Nat} {c0 m0 c m : xD} (h : WF P q s nw nb nr tp c0 m0 c m) {Y : Nat → Nat → Int32} (hY : ∀ j, j ≠ 2 → j ≠ 11 → vM s m.1 j = Y j) {b p j T : Nat} (hb : b < nb) (hpj : p < j) (hj6 : j < nw) (hT : T ≤ 99999) (hc1 : m.1 121 s = nI T) : ∃ (L1 : Nat → Nat → Int64) (h' : Int32) (L2 : Nat → Nat → Int64), f_X10_calls shA 99 (nI s) (nI p) (nI b) m = some (m.1, L1, m.2.2) ∧ f_X10_within shA 99 1 99 1 (m.1, L1, m.2.2) = some (nI (abN m0.1 Y nw b p), (xu m.1 99 34 h', L2, m.2.2)) ∧ MPost s nw m (xu (xu (xu (xu m.1 99 34 h') 121 s (nI (min 99999 (T + abN m0.1 Y nw b p)))) 130 (6 * s + p) (m.1 130 (6 * s + p) ||| ((1 : Int32) <<< (nI j &&& 31)))) 130 (6 * s + j) (m.1 130 (6 * s + j) ||| ((1 : Int32) <<< (nI p &&& 31))), L2, m.2.2) T (abN m0.1 Y nw b p) (fun i k => (i = p ∧ k = j) ∨ (i = j ∧ k = p)) := by
  have hRc := wf_rc h; have hRm := wf_rm h; have hq := wf_sq h; have hp := pr_pl (wf_pr h); have hs23 := wf_s23 h; have hqr := isSc_ge hq; have hpr := isPl_le hp; have hw6 := pr_w6 (wf_pr h); have hb8 := pr_b8 (wf_pr h); have hr12 := pr_r12 (wf_pr h); have ht2 := pr_t2 (wf_pr h); have ht60 := pr_t60 (wf_pr h)
  obtain ⟨L1, h', L2, e1, e2, e3⟩ := e_amountM h (k := 1) (by omega) (show p < nw by omega) hb
  have e4 : am (lvv m0.1 (vM s m.1) nw 1 p b (vM s m.1 12 b)) = nI (abN m0.1 Y nw b p) := by
    unfold abN
    rw [← (am_N _).1, lvv_congr (Y' := vM s m.1) (Y := Y) (fun j j1 j2 _ => hY j j1 j2), hY 12 (by omega) (by omega)]
  rw [e4] at e2
  refine ⟨L1, h', L2, e1, e2, rfl, e3, fun k k1 k2 k3 => ?_, fun k k1 => ?_, fun i i1 => ?_, fun i i1 => ?_, ?_, fun i hi k hk => ?_⟩
  · dsimp only
    rw [xu_off k3, xu_off k3, xu_off k2, xu_off k1]
  · dsimp only
    rw [xu_cell (by omega), xu_cell (by omega), xu_cell (by omega), xu_at2 k1]
  · dsimp only
    rw [xu_cell (by omega), xu_cell (by omega), xu_at2 i1, xu_cell (by omega)]
  · dsimp only
    rw [xu_at2 (by omega), xu_at2 (by omega), xu_cell (by omega), xu_cell (by omega)]
  · dsimp only
    rw [xu_cell (by omega), xu_cell (by omega), xu_at]
  · show bt (xu (xu (xu (xu m.1 99 34 h') 121 s _) 130 (6 * s + p) _) 130 (6 * s + j) _ 130 (6 * s + i)) k = true ↔ _
    rw [xu_is]
    by_cases i1 : i = j
    · subst i1
      rw [if_pos rfl, b_or1 _ (by omega) hk, Bool.or_eq_true, decide_eq_true_iff]
      constructor
      · rintro (z | z)
        · exact Or.inl z
        · exact Or.inr (Or.inr ⟨rfl, z⟩)
      · rintro (z | ⟨z, _⟩ | ⟨_, z⟩)
        · exact Or.inl z
        · omega
        · exact Or.inr z
    · rw [if_neg (by omega), xu_is]
      by_cases i2 : i = p
      · subst i2
        rw [if_pos rfl, b_or1 _ (by omega) hk, Bool.or_eq_true, decide_eq_true_iff]
        constructor
        · rintro (z | z)
          · exact Or.inl z
          · exact Or.inr (Or.inl ⟨rfl, z⟩)
        · rintro (z | ⟨_, z⟩ | ⟨z, _⟩)
          · exact Or.inl z
          · exact Or.inr z
          · omega
      · rw [if_neg (by omega), xu_cell (by omega), xu_cell (by omega)]
        constructor
        · exact Or.inl
        · rintro (z | ⟨z, _⟩ | ⟨z, _⟩)
          · exact z
          · exact absurd z i2
          · exact absurd z i1
theorem talkM_in {P q s nw nb nr tp : Nat} {c0 m0 c : xD} {Y : Nat → Nat → Int32} {b p F2 S2 : Nat} (hb : b < nb) {D2 : Nat → Nat → Prop} (hO : ∀ m T, WF P q s nw nb nr tp c0 m0 c m → (∀ j, j ≠ 2 → j ≠ 11 → vM s m.1 j = Y j) → m.1 121 s = nI T → T ≤ 99999 → ∃ m', xloop (fun _ _ _ _ _ _ => none) (b_X10_talks_10 shA) F2 99 (nI s) (nI b) (sit Y nw b) (nI (p + 1)) m = some m' ∧ MPost s nw m m' T S2 D2) : ∀ n j F m T, j + n = nw → p < j → n < F → WF P q s nw nb nr tp c0 m0 c m → (∀ j, j ≠ 2 → j ≠ 11 → vM s m.1 j = Y j) → m.1 121 s = nI T → T ≤ 99999 → ∃ m', xloop (fun _ _ _ _ _ _ _ => none) (b_X10_talks_27 shA (xloop (fun _ _ _ _ _ _ => none) (b_X10_talks_10 shA) F2)) F 99 (nI s) (nI b) (sit Y nw b) (nI p) (nI j) m = some m' ∧ MPost s nw m m' T (sm (pB m0.1 Y nw b p) j n + S2) (fun i k => ((i = p ∧ j ≤ k ∧ k < nw ∧ cdp Y b p ∧ cdp Y b k) ∨ (k = p ∧ j ≤ i ∧ i < nw ∧ cdp Y b p ∧ cdp Y b i)) ∨ D2 i k) := by
  intro n
  induction n with
  | zero =>
    intro j F m T h1 h2 h3 h hY hc hT
    obtain ⟨F, rfl⟩ : ∃ G, F = G + 1 := ⟨F - 1, by omega⟩
    obtain ⟨c', k1, k2⟩ := hO m T h hY hc hT
    have hRc := wf_rc h; have hRm := wf_rm h; have hq := wf_sq h; have hp := pr_pl (wf_pr h); have hs23 := wf_s23 h; have hqr := isSc_ge hq; have hpr := isPl_le hp; have hw6 := pr_w6 (wf_pr h); have hb8 := pr_b8 (wf_pr h); have hr12 := pr_r12 (wf_pr h); have ht2 := pr_t2 (wf_pr h); have ht60 := pr_t60 (wf_pr h)
    refine ⟨c', ?_, k2.mono (by rw [sm]; omega) (fun i hi k hk => ⟨Or.inr, ?_⟩)⟩
    · rw [loop_s, b_X10_talks_27]
      have cw : m.1 101 2 = nI nw := by rw [wf_om h 101 (Or.inl (by omega)) (by omega)]; exact p0_mW (wf_pr h)
      rw [gR_of sA_99 (rf_99_3 hRm), Option.bind_some, aN_2, Option.bind_some, cw, if_pos (nI_le (by omega) (by omega))]
      unfold k_X10_talks_133
      rw [nI_1]; exact k1
    · rintro ((⟨_, z1, z2, _⟩ | ⟨_, z1, z2, _⟩) | z)
      · omega
      · omega
      · exact z
  | succ n ih =>
    intro j F m T h1 h2 h3 h hY hc hT
    obtain ⟨F, rfl⟩ : ∃ G, F = G + 1 := ⟨F - 1, by omega⟩
    have hRc := wf_rc h; have hRm := wf_rm h; have hq := wf_sq h; have hp := pr_pl (wf_pr h); have hs23 := wf_s23 h; have hqr := isSc_ge hq; have hpr := isPl_le hp; have hw6 := pr_w6 (wf_pr h); have hb8 := pr_b8 (wf_pr h); have hr12 := pr_r12 (wf_pr h); have ht2 := pr_t2 (wf_pr h); have ht60 := pr_t60 (wf_pr h)
    have cw : m.1 101 2 = nI nw := by rw [wf_om h 101 (Or.inl (by omega)) (by omega)]; exact p0_mW (wf_pr h)
    have hcd := e_cd (Y := Y) (b := b) hw6 (show p < nw by omega) (show j < nw by omega)
    rw [loop_s, b_X10_talks_27, gR_of sA_99 (rf_99_3 hRm), Option.bind_some, aN_2, Option.bind_some, cw, if_neg (nI_ge (by omega) (by omega))]
    unfold k_X10_talks_127
    by_cases ht : cdp Y b p ∧ cdp Y b j
    · obtain ⟨L1, h', L2, e0, e1, e2⟩ := e_pairM h hY hb h2 (by omega) hT hc
      have hA : abN m0.1 Y nw b p ≤ 99 := (am_N _).2
      have hY1 := vM_M e2
      obtain ⟨c', k1, k2⟩ := ih (j + 1) F _ (min 99999 (T + abN m0.1 Y nw b p)) (by omega) (by omega) (by omega) (wf_M h e2) (fun j j1 j2 => (hY1 j j1 j2).trans (hY j j1 j2)) e2.2.2.2.2.2.2.1 (Nat.min_le_left _ _)
      refine ⟨c', ?_, (e2.trans k2).mono ?_ (fun i hi k hk => ?_)⟩
      · rw [if_neg (fun z => hcd.mp z ht), on_of sA_99, e0, Option.bind_some]
        simp (disch := omega) only [xgR, sA_99, rf_99_37 hRm, ↓reduceIte, Option.bind_some, aI_of sA_121, on_of sA_99, e1, hc, nI_add, minM (show (99999 : Int32) = nI 99999 from rfl) (show 99999 < 2 ^ 31 by omega) (show T + abN m0.1 Y nw b p < 2 ^ 31 by omega), sI_of sA_121, rf_99_46 hRm, m6_, aI_of sA_130, sI_of sA_130, xu_cell, xu_at2, nI_1]
        exact k1
      · rw [sm_s, pB_t ht]; omega
      · constructor
        · rintro ((⟨z1, z2⟩ | ⟨z1, z2⟩) | ((⟨z1, z2, z3, z4⟩ | ⟨z1, z2, z3, z4⟩) | z))
          · exact Or.inl (Or.inl ⟨z1, by omega, by omega, z2 ▸ ht⟩)
          · exact Or.inl (Or.inr ⟨z2, by omega, hi, z1 ▸ ht⟩)
          · exact Or.inl (Or.inl ⟨z1, by omega, z3, z4⟩)
          · exact Or.inl (Or.inr ⟨z1, by omega, z3, z4⟩)
          · exact Or.inr z
        · rintro ((⟨z1, z2, z3, z4⟩ | ⟨z1, z2, z3, z4⟩) | z)
          · by_cases w : k = j
            · exact Or.inl (Or.inl ⟨z1, w⟩)
            · exact Or.inr (Or.inl (Or.inl ⟨z1, by omega, z3, z4⟩))
          · by_cases w : i = j
            · exact Or.inl (Or.inr ⟨w, z1⟩)
            · exact Or.inr (Or.inl (Or.inr ⟨z1, by omega, z3, z4⟩))
          · exact Or.inr (Or.inr z)
    · obtain ⟨c', k1, k2⟩ := ih (j + 1) F m T (by omega) (by omega) (by omega) h hY hc hT
      refine ⟨c', ?_, k2.mono ?_ (fun i hi k hk => ?_)⟩
      · rw [if_pos (hcd.mpr ht), nI_1]
        exact k1
      · rw [sm_s, pB_f ht]; omega
      · constructor
        · rintro ((⟨z1, z2, z3, z4⟩ | ⟨z1, z2, z3, z4⟩) | z)
          · exact Or.inl (Or.inl ⟨z1, by omega, z3, z4⟩)
          · exact Or.inl (Or.inr ⟨z1, by omega, z3, z4⟩)
          · exact Or.inr z
        · rintro ((⟨z1, z2, z3, z4⟩ | ⟨z1, z2, z3, z4⟩) | z)
          · by_cases w : k = j
            · exact absurd (w ▸ z4) ht
            · exact Or.inl (Or.inl ⟨z1, by omega, z3, z4⟩)
          · by_cases w : i = j
            · exact absurd (w ▸ z4) ht
            · exact Or.inl (Or.inr ⟨z1, by omega, z3, z4⟩)
          · exact Or.inr z
theorem talkM_out {P q s nw nb nr tp : Nat} {c0 m0 c : xD} {Y : Nat → Nat → Int32} {b : Nat} (hb : b < nb) : ∀ n p F m T, p + n = nw → n < F → WF P q s nw nb nr tp c0 m0 c m → (∀ j, j ≠ 2 → j ≠ 11 → vM s m.1 j = Y j) → m.1 121 s = nI T → T ≤ 99999 → ∃ m', xloop (fun _ _ _ _ _ _ => none) (b_X10_talks_10 shA) F 99 (nI s) (nI b) (sit Y nw b) (nI p) m = some m' ∧ MPost s nw m m' T (sm (oB m0.1 Y nw b) p n) (fun i k => i < nw ∧ k < nw ∧ i ≠ k ∧ p ≤ i ∧ p ≤ k ∧ cdp Y b i ∧ cdp Y b k) := by
  intro n
  induction n with
  | zero =>
    intro p F m T h1 h2 h hY hc hT
    obtain ⟨F, rfl⟩ : ∃ G, F = G + 1 := ⟨F - 1, by omega⟩
    have hRc := wf_rc h; have hRm := wf_rm h; have hq := wf_sq h; have hp := pr_pl (wf_pr h); have hs23 := wf_s23 h; have hqr := isSc_ge hq; have hpr := isPl_le hp; have hw6 := pr_w6 (wf_pr h); have hb8 := pr_b8 (wf_pr h); have hr12 := pr_r12 (wf_pr h); have ht2 := pr_t2 (wf_pr h); have ht60 := pr_t60 (wf_pr h)
    have cw : m.1 101 2 = nI nw := by rw [wf_om h 101 (Or.inl (by omega)) (by omega)]; exact p0_mW (wf_pr h)
    refine ⟨m, ?_, MPost.refl hT hc (fun i hi k hk z => by omega)⟩
    rw [loop_s, b_X10_talks_10, gR_of sA_99 (rf_99_3 hRm), Option.bind_some, aN_2, Option.bind_some, cw, if_pos (nI_le (by omega) (by omega))]
    rfl
  | succ n ih =>
    intro p F m T h1 h2 h hY hc hT
    obtain ⟨F, rfl⟩ : ∃ G, F = G + 1 := ⟨F - 1, by omega⟩
    have hRc := wf_rc h; have hRm := wf_rm h; have hq := wf_sq h; have hp := pr_pl (wf_pr h); have hs23 := wf_s23 h; have hqr := isSc_ge hq; have hpr := isPl_le hp; have hw6 := pr_w6 (wf_pr h); have hb8 := pr_b8 (wf_pr h); have hr12 := pr_r12 (wf_pr h); have ht2 := pr_t2 (wf_pr h); have ht60 := pr_t60 (wf_pr h)
    have cw : m.1 101 2 = nI nw := by rw [wf_om h 101 (Or.inl (by omega)) (by omega)]; exact p0_mW (wf_pr h)
    obtain ⟨c', k1, k2⟩ := talkM_in hb (fun m T a1 a2 a3 a4 => ih (p + 1) F m T (by omega) (by omega) a1 a2 a3 a4) (nw - (p + 1)) (p + 1) xF m T (by omega) (by omega) (xF_big (by omega)) h hY hc hT
    refine ⟨c', ?_, k2.mono (by rw [sm_s]; rfl) (fun i hi k hk => ?_)⟩
    · rw [loop_s, b_X10_talks_10, gR_of sA_99 (rf_99_3 hRm), Option.bind_some, aN_2, Option.bind_some, cw, if_neg (nI_ge (by omega) (by omega)), nI_1]
      exact k1
    · constructor
      · rintro ((⟨z1, z2, z3, z4⟩ | ⟨z1, z2, z3, z4⟩) | ⟨z1, z2, z3, z4, z5, z6⟩)
        · subst z1; exact ⟨hi, z3, by omega, by omega, by omega, z4⟩
        · subst z1; exact ⟨hi, by omega, by omega, by omega, by omega, z4.2, z4.1⟩
        · exact ⟨z1, z2, z3, by omega, by omega, z6⟩
      · rintro ⟨z1, z2, z3, z4, z5, z6⟩
        by_cases w : i = p
        · subst w; exact Or.inl (Or.inl ⟨rfl, by omega, z2, z6⟩)
        · by_cases w2 : k = p
          · subst w2; exact Or.inl (Or.inr ⟨rfl, by omega, z1, z6.2, z6.1⟩)
          · exact Or.inr ⟨z1, z2, z3, by omega, by omega, z6⟩
theorem talkM_all {P q s nw nb nr tp : Nat} {c0 m0 c : xD} {Y : Nat → Nat → Int32} {bn : Int32} : ∀ n b F m T, b + n = nb → n < F → WF P q s nw nb nr tp c0 m0 c m → (∀ j, j ≠ 2 → j ≠ 11 → vM s m.1 j = Y j) → m.1 121 s = nI T → T ≤ 99999 → ∃ m', xloop (fun _ _ _ _ _ => none) (b_X10_passes_100 shA) F 99 (nI s) bn (nI b) m = k_X10_passes_122 shA 99 (nI s) bn m' ∧ MPost s nw m m' T (sm (fun b => sm (oB m0.1 Y nw b) 0 nw) b n) (fun i k => ∃ b', b ≤ b' ∧ b' < nb ∧ i < nw ∧ k < nw ∧ i ≠ k ∧ cdp Y b' i ∧ cdp Y b' k) := by
  intro n
  induction n with
  | zero =>
    intro b F m T h1 h2 h hY hc hT
    obtain ⟨F, rfl⟩ : ∃ G, F = G + 1 := ⟨F - 1, by omega⟩
    have hRc := wf_rc h; have hRm := wf_rm h; have hq := wf_sq h; have hp := pr_pl (wf_pr h); have hs23 := wf_s23 h; have hqr := isSc_ge hq; have hpr := isPl_le hp; have hw6 := pr_w6 (wf_pr h); have hb8 := pr_b8 (wf_pr h); have hr12 := pr_r12 (wf_pr h); have ht2 := pr_t2 (wf_pr h); have ht60 := pr_t60 (wf_pr h)
    have cw : m.1 101 1 = nI nb := by rw [wf_om h 101 (Or.inl (by omega)) (by omega)]; exact p0_mB (wf_pr h)
    refine ⟨m, ?_, MPost.refl hT hc (fun i hi k hk z => by obtain ⟨b', z1, z2, _⟩ := z; omega)⟩
    rw [loop_s, b_X10_passes_100, gR_of sA_99 (rf_99_3 hRm), Option.bind_some, aN_1, Option.bind_some, cw, if_pos (nI_le (by omega) (by omega))]
  | succ n ih =>
    intro b F m T h1 h2 h hY hc hT
    obtain ⟨F, rfl⟩ : ∃ G, F = G + 1 := ⟨F - 1, by omega⟩
    have hRc := wf_rc h; have hRm := wf_rm h; have hq := wf_sq h; have hp := pr_pl (wf_pr h); have hs23 := wf_s23 h; have hqr := isSc_ge hq; have hpr := isPl_le hp; have hw6 := pr_w6 (wf_pr h); have hb8 := pr_b8 (wf_pr h); have hr12 := pr_r12 (wf_pr h); have ht2 := pr_t2 (wf_pr h); have ht60 := pr_t60 (wf_pr h)
    have cw : m.1 101 1 = nI nb := by rw [wf_om h 101 (Or.inl (by omega)) (by omega)]; exact p0_mB (wf_pr h)
    obtain ⟨m1, k1, k2⟩ := talkM_out (b := b) (by omega) nw 0 xF m T (by omega) (xF_big (by omega)) h hY hc hT
    obtain ⟨m2, j1, j2⟩ := ih (b + 1) F m1 (min 99999 (T + sm (oB m0.1 Y nw b) 0 nw)) (by omega) (by omega) (wf_M h k2) (fun j j1 j2 => (vM_M k2 j j1 j2).trans (hY j j1 j2)) k2.2.2.2.2.2.2.1 (Nat.min_le_left _ _)
    refine ⟨m2, ?_, (k2.trans j2).mono (by rw [sm_s]) (fun i hi k hk => ?_)⟩
    · rw [loop_s, b_X10_passes_100, gR_of sA_99 (rf_99_3 hRm), Option.bind_some, aN_1, Option.bind_some, cw, if_neg (nI_ge (by omega) (by omega)), on_of sA_99]
      have e1 : f_X10_talks shA 99 (nI s) (nI b) m = some m1 := by
        unfold f_X10_talks
        rw [on_of sA_99, e_sitM h b, Option.bind_some]
        have e2 : sit (vM s m.1) nw b = sit Y nw b := by unfold sit; rw [hY 5 (by omega) (by omega), hY 8 (by omega) (by omega)]
        rw [e2]; exact k1
      rw [e1, Option.bind_some, nI_1]
      exact j1
    · constructor
      · rintro (⟨z1, z2, z3, _, _, z6⟩ | ⟨b', z1, z2, z3⟩)
        · exact ⟨b, by omega, by omega, z1, z2, z3, z6⟩
        · exact ⟨b', by omega, z2, z3⟩
      · rintro ⟨b', z1, z2, z3, z4, z5, z6⟩
        by_cases w : b' = b
        · subst w; exact Or.inl ⟨z3, z4, z5, by omega, by omega, z6⟩
        · exact Or.inr ⟨b', by omega, z2, z3, z4, z5, z6⟩
theorem sm_one' {f : Nat → Nat} {b0 : Nat} : ∀ n i, (∀ j, i ≤ j → j < i + n → j ≠ b0 → f j = 0) → i ≤ b0 → b0 < i + n → sm f i n = f b0 := by
  intro n
  induction n with
  | zero => intro i h0 h1 h2; omega
  | succ n ih =>
    intro i h0 h1 h2
    rw [sm_s]
    by_cases e : i = b0
    · rw [sm_zero n (i + 1) (fun j j1 j2 => h0 j (by omega) (by omega) (by omega)), e]; omega
    · rw [h0 i (by omega) (by omega) e, ih (i + 1) (fun j j1 j2 j3 => h0 j (by omega) (by omega) j3) (by omega) (by omega)]; omega
theorem cd_tg {Y G : Nat → Nat → Int32} {nw nb i j : Nat} (hnb : nb ≤ 8) (hso : ∀ i, i < nw → Y 5 i = 2 → ∃ b, b < nb ∧ Y 8 i = nI b ∧ G 103 b = Y 6 i) (hbd : ∀ i j, i < nb → j < nb → G 103 i = G 103 j → i = j) (hi : i < nw) (hj : j < nw) : tg Y i j ↔ ∃ b, b < nb ∧ cdp Y b i ∧ cdp Y b j := by
  constructor
  · rintro ⟨z1, z2, z3⟩
    obtain ⟨b, b1, b2, b3⟩ := hso i hi z1
    obtain ⟨b', c1, c2, c3⟩ := hso j hj z2
    have e : b' = b := hbd b' b c1 b1 (by rw [c3, b3, z3])
    subst e
    exact ⟨b', b1, ⟨z1, b2⟩, ⟨z2, c2⟩⟩
  · rintro ⟨b, b1, ⟨z1, z2⟩, ⟨z3, z4⟩⟩
    refine ⟨z1, z3, ?_⟩
    obtain ⟨b2, c1, c2, c3⟩ := hso i hi z1
    obtain ⟨b3, d1, d2, d3⟩ := hso j hj z3
    rw [c2] at z2; rw [d2] at z4
    have e1 := (nI_eq (show b2 < 2 ^ 31 by omega) (show b < 2 ^ 31 by omega)).mp z2
    have e2 := (nI_eq (show b3 < 2 ^ 31 by omega) (show b < 2 ^ 31 by omega)).mp z4
    rw [← c3, ← d3, e1, e2]
theorem talk_sum {Y G : Nat → Nat → Int32} {nw nb : Nat} (hnb : nb ≤ 8) (hso : ∀ i, i < nw → Y 5 i = 2 → ∃ b, b < nb ∧ Y 8 i = nI b ∧ G 103 b = Y 6 i) (hbd : ∀ i j, i < nb → j < nb → G 103 i = G 103 j → i = j) : sm (fun b => sm (oB G Y nw b) 0 nw) 0 nb = sm (oS G Y nw) 0 nw := by
  rw [sm_swap]
  apply sm_congr
  intro i _ hi
  unfold oB oS
  rw [sm_swap]
  apply sm_congr
  intro j j1 j2
  by_cases ht : tg Y i j
  · obtain ⟨b, b1, b2, b3⟩ := (cd_tg hnb hso hbd (show i < nw by omega) (show j < nw by omega)).mp ht
    have e := sm_one' (f := fun b => pB G Y nw b i j) (b0 := b) nb 0 (fun j' _ k2 k3 => by
      apply pB_f
      rintro ⟨⟨_, z⟩, _⟩
      rw [b2.2] at z
      exact k3 ((nI_eq (show b < 2 ^ 31 by omega) (show j' < 2 ^ 31 by omega)).mp z).symm) (by omega) (by omega)
    rw [e, pB_t ⟨b2, b3⟩, pS_t ht]
    have e2 : sbn Y i = b := by unfold sbn; rw [b2.2, nI_clamp (by omega)]
    unfold abN apN
    rw [e2]
  · rw [pS_f ht]
    apply sm_zero
    intro b _ hb
    apply pB_f
    rintro ⟨z1, z2⟩
    exact ht ((cd_tg hnb hso hbd (show i < nw by omega) (show j < nw by omega)).mpr ⟨b, by omega, z1, z2⟩)
theorem e_talk {P q s nw nb nr tp e tl : Nat} {mt : Nat → Nat → Prop} {fl : Prop} {c0 m0 c m : xD} (hr : RS P q s nw nb nr tp e tl mt fl c0 m0 c m) (bn : Int32) : ∃ c' m', f_X2_talkByTwo shA 87 q c = some c' ∧ k_X10_passes_98 shA 99 (nI s) bn m = k_X10_passes_122 shA 99 (nI s) bn m' ∧ RS P q s nw nb nr tp e tl mt fl c0 m0 c' m' := by
  have hr0 := hr
  obtain ⟨h, hs⟩ := hr
  have hRc := wf_rc h; have hRm := wf_rm h; have hq := wf_sq h; have hp := pr_pl (wf_pr h); have hs23 := wf_s23 h; have hqr := isSc_ge hq; have hpr := isPl_le hp; have hw6 := pr_w6 (wf_pr h); have hb8 := pr_b8 (wf_pr h); have hr12 := pr_r12 (wf_pr h); have ht2 := pr_t2 (wf_pr h); have ht60 := pr_t60 (wf_pr h)
  obtain ⟨T, hTl, hT, x1, y1⟩ := sc_ta hs
  have x1 : c.1 q 1 = nI T := x1
  have y1 : m.1 121 s = nI T := by rw [← y1]; exact rM_121
  have hrF : RS P q s nw nb nr tp e tl (fun _ _ => False) fl c0 m0 c m := by
    refine ⟨h, ?_⟩
    refine ⟨(sc_mi hs :), (sc_ta hs :), (sc_pi hs :), (sc_nu hs :), (sc_cw hs :), (sc_st hs :), (sc_sp hs :), (sc_dn hs :), (sc_pa hs :), (sc_lf hs :), (sc_la hs :), (sc_sa hs :), ?_, (sc_se hs :), (sc_wo hs :), (sc_so hs :), (sc_sn hs :), (sc_e1 hs :), (sc_rc hs :), (sc_rr hs :), (sc_rt hs :), (sc_rz hs :), (sc_x0 hs :), (sc_x1 hs :)⟩
    intro i _ j _ z; exact z.elim
  obtain ⟨c', k1, k2⟩ := talkC_out nw 0 xF c m T (by omega) (xF_big (by omega)) hrF (Y := vM s m.1) (fun _ _ _ => rfl) x1 hT
  obtain ⟨m', j1, j2⟩ := talkM_all (bn := bn) nb 0 xF m T (by omega) (xF_big (by omega)) h (Y := vM s m.1) (fun _ _ _ => rfl) y1 hT
  refine ⟨c', m', k1, j1, wf_M (wf_cG h k2.1 (fun k hk => k2.2.2.1 k (by omega) (by omega)) (fun k k0 k1 _ _ _ => k2.2.2.2.1 k k1) (fun k k0 k1 k2' => k2.2.1 k k1 k2')) j2, ?_⟩
  have hsum := talk_sum (G := m0.1) hb8 (fun i hi h2 => sc_so hs i hi h2) (p0_bd (wf_pr h))
  rw [j2.2.2.2.1 53 (by omega), k2.2.1 q (by omega) (by omega)]
  refine sc_talk hs (fun j j0 j7 => k2.2.2.1 (q + j) (by omega) (by omega)) (fun k k1 => k2.2.2.2.1 k k1) (vM_M j2) ⟨min 99999 (T + sm (oS m0.1 (vM s m.1) nw) 0 nw), by omega, Nat.min_le_left _ _, k2.2.2.2.2.1, ?_⟩ (fun i hi j hj hm => ?_)
  · rw [← rM_121, j2.2.2.2.2.2.2.1, hsum]
  · have a1 := k2.2.2.2.2.2 i hi j hj
    have a2 := j2.2.2.2.2.2.2.2 i hi j hj
    have a3 : bt (c.1 (q + 7) i) j = bt (m.1 130 (6 * s + i)) j := sc_me hs i hi j hj hm
    rw [Bool.eq_iff_iff]
    show bt (c'.1 (q + 7) i) j = true ↔ bt (m'.1 130 (6 * s + i)) j = true
    rw [a1, a2, a3]
    apply or_congr Iff.rfl
    constructor
    · rintro ⟨z1, z2, z3, _, _, z6⟩
      obtain ⟨b, b1, b2, b3⟩ := (cd_tg hb8 (fun i hi h2 => sc_so hs i hi h2) (p0_bd (wf_pr h)) z1 z2).mp z6
      exact ⟨b, by omega, b1, z1, z2, z3, b2, b3⟩
    · rintro ⟨b, _, b1, z1, z2, z3, b2, b3⟩
      exact ⟨z1, z2, z3, by omega, by omega, (cd_tg hb8 (fun i hi h2 => sc_so hs i hi h2) (p0_bd (wf_pr h)) z1 z2).mpr ⟨b, b1, b2, b3⟩⟩

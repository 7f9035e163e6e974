/-! LEVEL 2: talk by two: walker by walker (the class), bench by bench (the reference) -/
def sm (f : Nat → Nat) : Nat → Nat → Nat
  | _, 0 => 0
  | i, n + 1 => f i + sm f (i + 1) n
theorem sm_s {f : Nat → Nat} {i n : Nat} : sm f i (n + 1) = f i + sm f (i + 1) n := rfl
theorem sm_congr {f g : Nat → Nat} : ∀ n i, (∀ j, i ≤ j → j < i + n → f j = g j) → sm f i n = sm g i n := by
  intro n
  induction n with
  | zero => intro i _; rfl
  | succ n ih => intro i h; rw [sm_s, sm_s, h i (by omega) (by omega), ih (i + 1) (fun j h1 h2 => h j (by omega) (by omega))]
theorem sm_plus {f g : Nat → Nat} : ∀ n i, sm (fun j => f j + g j) i n = sm f i n + sm g i n := by
  intro n
  induction n with
  | zero => intro i; rfl
  | succ n ih => intro i; rw [sm_s, sm_s, sm_s, ih (i + 1)]; omega
theorem sm_zero {f : Nat → Nat} : ∀ n i, (∀ j, i ≤ j → j < i + n → f j = 0) → sm f i n = 0 := by
  intro n
  induction n with
  | zero => intro i _; rfl
  | succ n ih => intro i h; rw [sm_s, h i (by omega) (by omega), ih (i + 1) (fun j h1 h2 => h j (by omega) (by omega))]
theorem sm_swap {f : Nat → Nat → Nat} {a k : Nat} : ∀ n i, sm (fun b => sm (fun j => f b j) i n) a k = sm (fun j => sm (fun b => f b j) a k) i n := by
  intro n
  induction n with
  | zero => intro i; exact sm_zero k a (fun _ _ _ => rfl)
  | succ n ih =>
    intro i
    rw [sm_s, ← ih (i + 1), ← sm_plus]
    rfl
theorem sm_one {f : Nat → Nat} {b0 : Nat} (h0 : ∀ j, j ≠ b0 → f j = 0) : ∀ n i, i ≤ b0 → b0 < i + n → sm f i n = f b0 := by
  intro n
  induction n with
  | zero => intro i h1 h2; omega
  | succ n ih =>
    intro i h1 h2
    rw [sm_s]
    by_cases e : i = b0
    · rw [sm_zero n (i + 1) (fun j j1 _ => h0 j (by omega)), e]; omega
    · rw [h0 i e, ih (i + 1) (by omega) (by omega)]; omega
def amN (o : Option Int64) : Nat := (am o).toNatClampNeg
theorem am_N (o : Option Int64) : am o = nI (amN o) ∧ amN o ≤ 99 := by
  obtain ⟨a, ha, e⟩ := am_nat o
  unfold amN
  rw [e, nI_clamp (by omega)]
  exact ⟨rfl, ha⟩
theorem minC {n K : Nat} {k : Int32} (hk : k = nI K) (hK : K < 2 ^ 31) (hn : n < 2 ^ 31) : (if k < nI n then k else nI n) = nI (min K n) := by
  subst hk
  by_cases h : K < n
  · rw [if_pos (nI_lt h hn), Nat.min_eq_left (by omega)]
  · rw [if_neg (nI_nlt (by omega) hK), Nat.min_eq_right (by omega)]
theorem minM {n K : Nat} {k : Int32} (hk : k = nI K) (hK : K < 2 ^ 31) (hn : n < 2 ^ 31) : (if nI n < k then nI n else k) = nI (min K n) := by
  subst hk
  by_cases h : n < K
  · rw [if_pos (nI_lt h hK), Nat.min_eq_right (by omega)]
  · rw [if_neg (nI_nlt (by omega) hn), Nat.min_eq_left (by omega)]
theorem lvv_congr {G Y Y' : Nat → Nat → Int32} {nw k p b : Nat} {w : Int32} (h : ∀ j, j ≠ 2 → j ≠ 11 → j ≠ 12 → Y' j = Y j) : lvv G Y' nw k p b w = lvv G Y nw k p b w := by
  unfold lvv nmv sit
  rw [h 7 (by omega) (by omega) (by omega), h 10 (by omega) (by omega) (by omega), h 0 (by omega) (by omega) (by omega), h 5 (by omega) (by omega) (by omega), h 8 (by omega) (by omega) (by omega)]
/-- a frame for what the class's side may change -/
theorem wf_cG {P q s nw nb nr tp : Nat} {c0 m0 c m : xD} (h : WF P q s nw nb nr tp c0 m0 c m) {c' : xD} (e1 : c'.2.2 = c.2.2) (e2 : ∀ k, (k < q ∨ q + 14 ≤ k) → c'.1 k = c.1 k) (e3 : ∀ k, k ≠ 0 → k ≠ 1 → k ≠ 2 → k ≠ 4 → k ≠ 14 → c'.1 q k = c.1 q k) (e4 : ∀ k, k ≠ q → k ≠ 88 → k ≠ P + 18 → c'.2.1 k = c.2.1 k) : WF P q s nw nb nr tp c0 m0 c' m := by
  obtain ⟨z_rc0, z_rm0, z_sq, z_s23, z_pr, z_ec, z_em, z_oc, z_oq, z_om, z_o9, z_o1, z_o2, z_o3, z_lc, z_lm⟩ := id h
  exact ⟨z_rc0, z_rm0, z_sq, z_s23, z_pr, e1.trans z_ec, z_em, fun k hk => (e2 k hk).trans (wf_oc h k hk), fun k h1 h2 h3 h4 h5 => (e3 k h1 h2 h3 h4 h5).trans (wf_oq h k h1 h2 h3 h4 h5), z_om, z_o9, z_o1, z_o2, z_o3, fun k h1 h2 h3 => (e4 k h1 h2 h3).trans (wf_lc h k h1 h2 h3), z_lm⟩
theorem wf_mG {P q s nw nb nr tp : Nat} {c0 m0 c m : xD} (h : WF P q s nw nb nr tp c0 m0 c m) {m' : xD} (e1 : m'.2.2 = m.2.2) (e2 : ∀ k, (k < 119 ∨ 132 ≤ k) → k ≠ 99 → m'.1 k = m.1 k) (e3 : ∀ k, k ≠ 34 → k ≠ 53 → m'.1 99 k = m.1 99 k) (e4 : ∀ k i, 119 ≤ k → k < 124 → i ≠ s → m'.1 k i = m.1 k i) (e5 : ∀ k i, 124 ≤ k → k < 131 → (i < 6 * s ∨ 6 * s + 6 ≤ i) → m'.1 k i = m.1 k i) (e6 : ∀ i, (i < 8 * s ∨ 8 * s + 8 ≤ i) → m'.1 131 i = m.1 131 i) (e7 : ∀ k, k ≠ 117 → k ≠ 118 → m'.2.1 k = m.2.1 k) : WF P q s nw nb nr tp c0 m0 c m' := by
  obtain ⟨z_rc0, z_rm0, z_sq, z_s23, z_pr, z_ec, z_em, z_oc, z_oq, z_om, z_o9, z_o1, z_o2, z_o3, z_lc, z_lm⟩ := id h
  exact ⟨z_rc0, z_rm0, z_sq, z_s23, z_pr, z_ec, e1.trans z_em, z_oc, z_oq, fun k h1 h2 => (e2 k h1 h2).trans (wf_om h k h1 h2), fun k h1 h2 => (e3 k h1 h2).trans (wf_o9 h k h1 h2), fun k i h1 h2 h3 => (e4 k i h1 h2 h3).trans (wf_o1 h k i h1 h2 h3), fun k i h1 h2 h3 => (e5 k i h1 h2 h3).trans (wf_o2 h k i h1 h2 h3), fun i h1 => (e6 i h1).trans (wf_o3 h i h1), z_lc, fun k h1 h2 => (e7 k h1 h2).trans (wf_lm h k h1 h2)⟩
/-- behind some talk, on the class's side -/
def TPost (P q nw : Nat) (c c' : xD) (T S : Nat) (D : Nat → Nat → Prop) : Prop := c'.2.2 = c.2.2 ∧ (∀ k, k ≠ 88 → k ≠ P + 18 → c'.2.1 k = c.2.1 k) ∧ (∀ k, k ≠ q → k ≠ q + 7 → c'.1 k = c.1 k) ∧ (∀ k, k ≠ 1 → c'.1 q k = c.1 q k) ∧ c'.1 q 1 = nI (min 99999 (T + S)) ∧ ∀ i, i < nw → ∀ j, j < 32 → (bt (c'.1 (q + 7) i) j = true ↔ bt (c.1 (q + 7) i) j = true ∨ D i j)
theorem TPost.trans {P q nw : Nat} {c c1 c2 : xD} {T S1 S2 : Nat} {D1 D2 : Nat → Nat → Prop} (h1 : TPost P q nw c c1 T S1 D1) (h2 : TPost P q nw c1 c2 (min 99999 (T + S1)) S2 D2) : TPost P q nw c c2 T (S1 + S2) (fun i j => D1 i j ∨ D2 i j) := by
  obtain ⟨a1, a2, a3, a4, a5, a6⟩ := h1
  obtain ⟨b1, b2, b3, b4, b5, b6⟩ := h2
  refine ⟨b1.trans a1, fun k k1 k2 => (b2 k k1 k2).trans (a2 k k1 k2), fun k k1 k2 => (b3 k k1 k2).trans (a3 k k1 k2), fun k k1 => (b4 k k1).trans (a4 k k1), ?_, fun i hi j hj => ?_⟩
  · rw [b5]; congr 1; omega
  · rw [b6 i hi j hj, a6 i hi j hj, or_assoc]
theorem TPost.mono {P q nw : Nat} {c c1 : xD} {T S S' : Nat} {D D' : Nat → Nat → Prop} (h1 : TPost P q nw c c1 T S D) (e : S = S') (hd : ∀ i, i < nw → ∀ j, j < 32 → (D i j ↔ D' i j)) : TPost P q nw c c1 T S' D' := by
  obtain ⟨a1, a2, a3, a4, a5, a6⟩ := h1
  subst e
  exact ⟨a1, a2, a3, a4, a5, fun i hi j hj => (a6 i hi j hj).trans (or_congr Iff.rfl (hd i hi j hj))⟩
theorem TPost.refl {P q nw : Nat} {c : xD} {T : Nat} {D : Nat → Nat → Prop} (hT : T ≤ 99999) (e : c.1 q 1 = nI T) (hd : ∀ i, i < nw → ∀ j, j < 32 → ¬ D i j) : TPost P q nw c c T 0 D :=
  ⟨rfl, fun _ _ _ => rfl, fun _ _ _ => rfl, fun _ _ => rfl, by rw [e]; congr 1; omega, fun i hi j hj => ⟨Or.inl, fun z => z.elim id (fun w => absurd w (hd i hi j hj))⟩⟩
theorem rs_T {P q s nw nb nr tp e tl : Nat} {mt : Nat → Nat → Prop} {fl : Prop} {c0 m0 c m : xD} (hr : RS P q s nw nb nr tp e tl mt fl c0 m0 c m) {c' : xD} {T S : Nat} {D : Nat → Nat → Prop} (hT : T ≤ 99999) (hc : c.1 q 1 = nI T) (ht : TPost P q nw c c' T S D) : RS P q s nw nb nr tp e tl (fun _ _ => False) fl c0 m0 c' (xu m.1 121 s (nI (min 99999 (T + S))), m.2.1, m.2.2) := by
  obtain ⟨h, hs⟩ := hr
  have hRc := wf_rc h; have hRm := wf_rm h; have hq := wf_sq h; have hp := pr_pl (wf_pr h); have hs23 := wf_s23 h; have hqr := isSc_ge hq; have hpr := isPl_le hp; have hw6 := pr_w6 (wf_pr h); have hb8 := pr_b8 (wf_pr h); have hr12 := pr_r12 (wf_pr h); have ht2 := pr_t2 (wf_pr h); have ht60 := pr_t60 (wf_pr h)
  obtain ⟨a1, a2, a3, a4, a5, a6⟩ := ht
  have hTl : tl ≤ T := by
    obtain ⟨a, l1, l2, l3, _⟩ := sc_ta hs
    have l3 : c.1 q 1 = nI a := l3
    rw [hc] at l3
    have := (nI_eq (show T < 2 ^ 31 by omega) (show a < 2 ^ 31 by omega)).mp l3
    omega
  refine ⟨wf_m1 (wf_cG h a1 (fun k hk => a3 k (by omega) (by omega)) (fun k k0 k1 k2 k3 k4 => a4 k k1) (fun k k0 k1 k2 => a2 k k1 k2)) (by omega) (by omega), ?_⟩
  show SC nw nb nr e tp tl (fun _ _ => False) fl m0.1 (xu m.1 121 s (nI (min 99999 (T + S))) 99 53) (vC q c'.1) (c'.2.1 q 3) (vM s (xu m.1 121 s (nI (min 99999 (T + S)))))
  rw [xu_cell (by omega), vM_121, a2 q (by omega) (by omega)]
  have hs' : SC nw nb nr e tp tl (fun _ _ => False) fl m0.1 (m.1 99 53) (vC q c.1) (c.2.1 q 3) (vM s m.1) := by
    refine ⟨(sc_mi hs :), (sc_ta hs :), (sc_pi hs :), (sc_nu hs :), (sc_cw hs :), (sc_st hs :), (sc_sp hs :), (sc_dn hs :), (sc_pa hs :), (sc_lf hs :), (sc_la hs :), (sc_sa hs :), ?_, (sc_se hs :), (sc_wo hs :), (sc_so hs :), (sc_sn hs :), (sc_e1 hs :), (sc_rc hs :), (sc_rr hs :), (sc_rt hs :), (sc_rz hs :), (sc_x0 hs :), (sc_x1 hs :)⟩
    intro i _ j _ z; exact z.elim
  refine sc_talk hs' (fun j j0 j7 => ?_) (fun k k1 => a4 k k1) (fun j j2 j11 => xu_off j2) ⟨_, by omega, Nat.min_le_left _ _, a5, xu_at⟩ (fun i _ j _ z => z.elim)
  show c'.1 (q + j) = c.1 (q + j)
  exact a3 _ (by omega) (by omega)
/-- two sit together -/
def tg (Y : Nat → Nat → Int32) (i j : Nat) : Prop := Y 5 i = 2 ∧ Y 5 j = 2 ∧ Y 6 i = Y 6 j
def sbn (Y : Nat → Nat → Int32) (i : Nat) : Nat := (Y 8 i).toNatClampNeg
def apN (G Y : Nat → Nat → Int32) (nw k i : Nat) : Nat := amN (lvv G Y nw k i (sbn Y i) (Y 12 (sbn Y i)))
theorem e_together {P q s nw nb nr tp e tl : Nat} {mt : Nat → Nat → Prop} {fl : Prop} {c0 m0 c m : xD} (hr : RS P q s nw nb nr tp e tl mt fl c0 m0 c m) {Y : Nat → Nat → Int32} (hY : ∀ j, j ≠ 2 → j ≠ 11 → vM s m.1 j = Y j) {p j : Nat} (hp6 : p < nw) (hj6 : j < nw) : (tg Y p j → f_X2_sitTogether shA q (nI p) (nI j) c = some (1, c)) ∧ (¬ tg Y p j → f_X2_sitTogether shA q (nI p) (nI j) c = some (0, c)) := by
  obtain ⟨h, hs⟩ := hr
  have hRc := wf_rc h; have hRm := wf_rm h; have hq := wf_sq h; have hp := pr_pl (wf_pr h); have hs23 := wf_s23 h; have hqr := isSc_ge hq; have hpr := isPl_le hp; have hw6 := pr_w6 (wf_pr h); have hb8 := pr_b8 (wf_pr h); have hr12 := pr_r12 (wf_pr h); have ht2 := pr_t2 (wf_pr h); have ht60 := pr_t60 (wf_pr h)
  have a1 : c.1 (q + 1) p = Y 5 p := by rw [← hY 5 (by omega) (by omega)]; exact sc_st hs p hp6
  have a2 : c.1 (q + 1) j = Y 5 j := by rw [← hY 5 (by omega) (by omega)]; exact sc_st hs j hj6
  have a3 : c.1 (q + 2) p = Y 6 p := by rw [← hY 6 (by omega) (by omega)]; obtain ⟨a, _, y1, y2⟩ := sc_sp hs p hp6; rw [y2]; exact y1
  have a4 : c.1 (q + 2) j = Y 6 j := by rw [← hY 6 (by omega) (by omega)]; obtain ⟨a, _, y1, y2⟩ := sc_sp hs j hj6; rw [y2]; exact y1
  have key : f_X2_sitTogether shA q (nI p) (nI j) c = if Y 5 p = 2 then (if Y 5 j = 2 then (if Y 6 p = Y 6 j then some (1, c) else some (0, c)) else some (0, c)) else some (0, c) := by
    unfold f_X2_sitTogether k_X2_sitTogether_39 k_X2_sitTogether_40
    simp (disch := omega) only [xgR, ss_0 hq, rs_5 hRc hq, rs_6 hRc hq, aI_of (ss_1 hq), aI_of (ss_2 hq), ↓reduceIte, Option.bind_some, a1, a2, a3, a4, xz_0, xz_1]
  rw [key]
  unfold tg
  constructor
  · rintro ⟨b1, b2, b3⟩; rw [if_pos b1, if_pos b2, if_pos b3]
  · intro z
    by_cases b1 : Y 5 p = 2
    · by_cases b2 : Y 5 j = 2
      · rw [if_pos b1, if_pos b2, if_neg (fun b3 => z ⟨b1, b2, b3⟩)]
      · rw [if_pos b1, if_neg b2]
    · rw [if_neg b1]
theorem e_sbn {P q s nw nb nr tp e tl : Nat} {mt : Nat → Nat → Prop} {fl : Prop} {c0 m0 c m : xD} (hr : RS P q s nw nb nr tp e tl mt fl c0 m0 c m) {p : Nat} (hp6 : p < nw) (h2 : vM s m.1 5 p = 2) : sbn (vM s m.1) p < nb ∧ vM s m.1 8 p = nI (sbn (vM s m.1) p) ∧ m0.1 103 (sbn (vM s m.1) p) = vM s m.1 6 p := by
  obtain ⟨h, hs⟩ := hr
  have hRc := wf_rc h; have hRm := wf_rm h; have hq := wf_sq h; have hp := pr_pl (wf_pr h); have hs23 := wf_s23 h; have hqr := isSc_ge hq; have hpr := isPl_le hp; have hw6 := pr_w6 (wf_pr h); have hb8 := pr_b8 (wf_pr h); have hr12 := pr_r12 (wf_pr h); have ht2 := pr_t2 (wf_pr h); have ht60 := pr_t60 (wf_pr h)
  obtain ⟨b, hb, e1, e2⟩ := sc_so hs p hp6 h2
  have e3 : sbn (vM s m.1) p = b := by unfold sbn; rw [e1, nI_clamp (by omega)]
  rw [e3]
  exact ⟨hb, e1, e2⟩
/-- one talk of two -/
theorem e_pair {P q s nw nb nr tp e tl : Nat} {mt : Nat → Nat → Prop} {fl : Prop} {c0 m0 c m : xD} (hr : RS P q s nw nb nr tp e tl mt fl c0 m0 c m) {Y : Nat → Nat → Int32} (hY : ∀ j, j ≠ 2 → j ≠ 11 → vM s m.1 j = Y j) {p j T : Nat} (hpj : p < j) (hj6 : j < nw) (hT : T ≤ 99999) (hc1 : c.1 q 1 = nI T) (ht : tg Y p j) : ∃ (L' : Nat → Nat → Int64), f_X2_amount shA 87 q 1 (nI p) c = some (nI (apN m0.1 Y nw 1 p), (c.1, L', c.2.2)) ∧ TPost P q nw c (xu (xu (xu c.1 q 1 (nI (min 99999 (T + apN m0.1 Y nw 1 p)))) (q + 7) p (c.1 (q + 7) p ||| ((1 : Int32) <<< (nI j &&& 31)))) (q + 7) j (c.1 (q + 7) j ||| ((1 : Int32) <<< (nI p &&& 31))), L', c.2.2) T (apN m0.1 Y nw 1 p) (fun i k => (i = p ∧ k = j) ∨ (i = j ∧ k = p)) := by
  have hr0 := hr
  obtain ⟨h, hs⟩ := hr
  have hRc := wf_rc h; have hRm := wf_rm h; have hq := wf_sq h; have hp := pr_pl (wf_pr h); have hs23 := wf_s23 h; have hqr := isSc_ge hq; have hpr := isPl_le hp; have hw6 := pr_w6 (wf_pr h); have hb8 := pr_b8 (wf_pr h); have hr12 := pr_r12 (wf_pr h); have ht2 := pr_t2 (wf_pr h); have ht60 := pr_t60 (wf_pr h)
  have y5 : vM s m.1 5 p = 2 := by rw [hY 5 (by omega) (by omega)]; exact ht.1
  obtain ⟨s1, s2, s3⟩ := e_sbn hr0 (show p < nw by omega) y5
  obtain ⟨L', hL, e1⟩ := e_amountC h hs (k := 1) (by omega) (show p < nw by omega) s1 s3.symm
  have e2 : am (lvv m0.1 (vM s m.1) nw 1 p (sbn (vM s m.1) p) (vM s m.1 12 (sbn (vM s m.1) p))) = nI (apN m0.1 Y nw 1 p) := by
    unfold apN
    rw [← (am_N _).1, lvv_congr (Y' := vM s m.1) (Y := Y) (fun j j1 j2 _ => hY j j1 j2), hY 12 (by omega) (by omega), show sbn (vM s m.1) p = sbn Y p by unfold sbn; rw [hY 8 (by omega) (by omega)]]
  rw [e2] at e1
  refine ⟨L', e1, rfl, hL, fun k k1 k2 => ?_, fun k k1 => ?_, ?_, fun i hi k hk => ?_⟩
  · show xu (xu (xu c.1 q 1 _) (q + 7) p _) (q + 7) j _ k = c.1 k
    rw [xu_off k2, xu_off k2, xu_off k1]
  · show xu (xu (xu c.1 q 1 _) (q + 7) p _) (q + 7) j _ q k = c.1 q k
    rw [xu_cell (by omega), xu_cell (by omega), xu_at2 k1]
  · show xu (xu (xu c.1 q 1 _) (q + 7) p _) (q + 7) j _ q 1 = _
    rw [xu_cell (by omega), xu_cell (by omega), xu_at]
  · show bt (xu (xu (xu c.1 q 1 _) (q + 7) p _) (q + 7) j _ (q + 7) i) k = true ↔ _
    rw [xu_is]
    by_cases i1 : i = j
    · subst i1
      rw [if_pos rfl, b_or1 _ (by omega) hk, Bool.or_eq_true, decide_eq_true_iff]
      constructor
      · rintro (z | z)
        · exact Or.inl z
        · exact Or.inr (Or.inr ⟨rfl, z⟩)
      · rintro (z | ⟨z, _⟩ | ⟨_, z⟩)
        · exact Or.inl z
        · omega
        · exact Or.inr z
    · rw [if_neg i1, xu_is]
      by_cases i2 : i = p
      · subst i2
        rw [if_pos rfl, b_or1 _ (by omega) hk, Bool.or_eq_true, decide_eq_true_iff]
        constructor
        · rintro (z | z)
          · exact Or.inl z
          · exact Or.inr (Or.inl ⟨rfl, z⟩)
        · rintro (z | ⟨_, z⟩ | ⟨z, _⟩)
          · exact Or.inl z
          · exact Or.inr z
          · omega
      · rw [if_neg i2, xu_cell (by omega)]
        constructor
        · exact Or.inl
        · rintro (z | ⟨z, _⟩ | ⟨z, _⟩)
          · exact z
          · exact absurd z i2
          · exact absurd z i1
def pS (G Y : Nat → Nat → Int32) (nw p : Nat) : Nat → Nat := fun j => if Y 5 p = 2 ∧ Y 5 j = 2 ∧ Y 6 p = Y 6 j then apN G Y nw 1 p else 0
def oS (G Y : Nat → Nat → Int32) (nw : Nat) : Nat → Nat := fun i => sm (pS G Y nw i) (i + 1) (nw - (i + 1))
theorem pS_t {G Y : Nat → Nat → Int32} {nw p j : Nat} (h : tg Y p j) : pS G Y nw p j = apN G Y nw 1 p := if_pos h
theorem pS_f {G Y : Nat → Nat → Int32} {nw p j : Nat} (h : ¬ tg Y p j) : pS G Y nw p j = 0 := if_neg h
theorem tg_symm {Y : Nat → Nat → Int32} {i j : Nat} (h : tg Y i j) : tg Y j i := ⟨h.2.1, h.1, h.2.2.symm⟩
theorem talkC_in {P q s nw nb nr tp e tl : Nat} {fl : Prop} {c0 m0 : xD} {Y : Nat → Nat → Int32} {p : Nat} {F2 : Nat} {S2 : Nat} {D2 : Nat → Nat → Prop} (hO : ∀ c m T, RS P q s nw nb nr tp e tl (fun _ _ => False) fl c0 m0 c m → (∀ j, j ≠ 2 → j ≠ 11 → vM s m.1 j = Y j) → c.1 q 1 = nI T → T ≤ 99999 → ∃ c', xloop (fun _ _ _ _ => none) (b_X2_talkByTwo_2 shA) F2 87 q (nI (p + 1)) c = some c' ∧ TPost P q nw c c' T S2 D2) : ∀ n j F c m T, j + n = nw → p < j → n < F → RS P q s nw nb nr tp e tl (fun _ _ => False) fl c0 m0 c m → (∀ j, j ≠ 2 → j ≠ 11 → vM s m.1 j = Y j) → c.1 q 1 = nI T → T ≤ 99999 → ∃ c', xloop (fun _ _ _ _ _ => none) (b_X2_talkByTwo_17 shA (xloop (fun _ _ _ _ => none) (b_X2_talkByTwo_2 shA) F2)) F 87 q (nI p) (nI j) c = some c' ∧ TPost P q nw c c' T (sm (pS m0.1 Y nw p) j n + S2) (fun i k => ((i = p ∧ j ≤ k ∧ k < nw ∧ tg Y p k) ∨ (k = p ∧ j ≤ i ∧ i < nw ∧ tg Y p i)) ∨ D2 i k) := by
  intro n
  induction n with
  | zero =>
    intro j F c m T h1 h2 h3 hr hY hc hT
    obtain ⟨F, rfl⟩ : ∃ G, F = G + 1 := ⟨F - 1, by omega⟩
    obtain ⟨c', k1, k2⟩ := hO c m T hr hY hc hT
    obtain ⟨h, hs⟩ := hr
    have hRc := wf_rc h; have hRm := wf_rm h; have hq := wf_sq h; have hp := pr_pl (wf_pr h); have hs23 := wf_s23 h; have hqr := isSc_ge hq; have hpr := isPl_le hp; have hw6 := pr_w6 (wf_pr h); have hb8 := pr_b8 (wf_pr h); have hr12 := pr_r12 (wf_pr h); have ht2 := pr_t2 (wf_pr h); have ht60 := pr_t60 (wf_pr h)
    refine ⟨c', ?_, k2.mono (by rw [sm]; omega) (fun i hi k hk => ⟨Or.inr, ?_⟩)⟩
    · rw [loop_s, b_X2_talkByTwo_17]
      have cw : c.1 P 9 = nI nw := by rw [wf_oc h P (Or.inl (by omega))]; exact pr_cW (wf_pr h)
      rw [gR_of sA_87 (rf_87_0 hRc), Option.bind_some, gI_of (sp_0 hp), Option.bind_some, cw, if_pos (nI_le (by omega) (by omega))]
      unfold k_X2_talkByTwo_92
      rw [nI_1]; exact k1
    · rintro ((⟨_, z1, z2, _⟩ | ⟨_, z1, z2, _⟩) | z)
      · omega
      · omega
      · exact z
  | succ n ih =>
    intro j F c m T h1 h2 h3 hr hY hc hT
    obtain ⟨F, rfl⟩ : ∃ G, F = G + 1 := ⟨F - 1, by omega⟩
    have hr0 := hr
    obtain ⟨h, hs⟩ := hr
    have hRc := wf_rc h; have hRm := wf_rm h; have hq := wf_sq h; have hp := pr_pl (wf_pr h); have hs23 := wf_s23 h; have hqr := isSc_ge hq; have hpr := isPl_le hp; have hw6 := pr_w6 (wf_pr h); have hb8 := pr_b8 (wf_pr h); have hr12 := pr_r12 (wf_pr h); have ht2 := pr_t2 (wf_pr h); have ht60 := pr_t60 (wf_pr h)
    have cw : c.1 P 9 = nI nw := by rw [wf_oc h P (Or.inl (by omega))]; exact pr_cW (wf_pr h)
    obtain ⟨t1, t0⟩ := e_together hr0 hY (show p < nw by omega) (show j < nw by omega)
    rw [loop_s, b_X2_talkByTwo_17, gR_of sA_87 (rf_87_0 hRc), Option.bind_some, gI_of (sp_0 hp), Option.bind_some, cw, if_neg (nI_ge (by omega) (by omega))]
    unfold k_X2_talkByTwo_86
    by_cases ht : tg Y p j
    · obtain ⟨L', e1, e2⟩ := e_pair hr0 hY h2 (by omega) hT hc ht
      have hA : apN m0.1 Y nw 1 p ≤ 99 := (am_N _).2
      have hr1 := rs_T hr0 hT hc e2
      have hY1 : ∀ j, j ≠ 2 → j ≠ 11 → vM s (xu m.1 121 s (nI (min 99999 (T + apN m0.1 Y nw 1 p)))) j = Y j := by
        intro j j1 j2; rw [vM_121, xu_off j1]; exact hY j j1 j2
      obtain ⟨c', k1, k2⟩ := ih (j + 1) F _ _ (min 99999 (T + apN m0.1 Y nw 1 p)) (by omega) (by omega) (by omega) hr1 hY1 e2.2.2.2.2.1 (Nat.min_le_left _ _)
      refine ⟨c', ?_, (e2.trans k2).mono ?_ (fun i hi k hk => ?_)⟩
      · rw [t1 ht, Option.bind_some]
        dsimp only
        rw [if_neg one_ne_zero32, on_of sA_87, e1, Option.bind_some]
        simp (disch := omega) only [gI_of (ss_0 hq), Option.bind_some, hc, nI_add, minC (show (99999 : Int32) = nI 99999 from rfl) (show 99999 < 2 ^ 31 by omega) (show T + apN m0.1 Y nw 1 p < 2 ^ 31 by omega), pS_1 hq, xgR, ss_0 hq, rs_11 hRc hq, aI_of (ss_7 hq), sI_of (ss_7 hq), ↓reduceIte, xu_cell, xu_at2, nI_1]
        exact k1
      · rw [sm_s, pS_t ht]; omega
      · constructor
        · rintro ((⟨z1, z2⟩ | ⟨z1, z2⟩) | ((⟨z1, z2, z3, z4⟩ | ⟨z1, z2, z3, z4⟩) | z))
          · exact Or.inl (Or.inl ⟨z1, by omega, by omega, z2 ▸ ht⟩)
          · exact Or.inl (Or.inr ⟨z2, by omega, hi, z1 ▸ ht⟩)
          · exact Or.inl (Or.inl ⟨z1, by omega, z3, z4⟩)
          · exact Or.inl (Or.inr ⟨z1, by omega, z3, z4⟩)
          · exact Or.inr z
        · rintro ((⟨z1, z2, z3, z4⟩ | ⟨z1, z2, z3, z4⟩) | z)
          · by_cases w : k = j
            · exact Or.inl (Or.inl ⟨z1, w⟩)
            · exact Or.inr (Or.inl (Or.inl ⟨z1, by omega, z3, z4⟩))
          · by_cases w : i = j
            · exact Or.inl (Or.inr ⟨w, z1⟩)
            · exact Or.inr (Or.inl (Or.inr ⟨z1, by omega, z3, z4⟩))
          · exact Or.inr (Or.inr z)
    · obtain ⟨c', k1, k2⟩ := ih (j + 1) F c m T (by omega) (by omega) (by omega) hr0 hY hc hT
      refine ⟨c', ?_, k2.mono ?_ (fun i hi k hk => ?_)⟩
      · rw [t0 ht, Option.bind_some]
        dsimp only
        rw [if_pos rfl, nI_1]
        exact k1
      · rw [sm_s, pS_f ht]; omega
      · constructor
        · rintro ((⟨z1, z2, z3, z4⟩ | ⟨z1, z2, z3, z4⟩) | z)
          · exact Or.inl (Or.inl ⟨z1, by omega, z3, z4⟩)
          · exact Or.inl (Or.inr ⟨z1, by omega, z3, z4⟩)
          · exact Or.inr z
        · rintro ((⟨z1, z2, z3, z4⟩ | ⟨z1, z2, z3, z4⟩) | z)
          · by_cases w : k = j
            · exact absurd (w ▸ z4) ht
            · exact Or.inl (Or.inl ⟨z1, by omega, z3, z4⟩)
          · by_cases w : i = j
            · exact absurd (w ▸ z4) ht
            · exact Or.inl (Or.inr ⟨z1, by omega, z3, z4⟩)
          · exact Or.inr z
theorem talkC_out {P q s nw nb nr tp e tl : Nat} {fl : Prop} {c0 m0 : xD} {Y : Nat → Nat → Int32} : ∀ n p F c m T, p + n = nw → n < F → RS P q s nw nb nr tp e tl (fun _ _ => False) fl c0 m0 c m → (∀ j, j ≠ 2 → j ≠ 11 → vM s m.1 j = Y j) → c.1 q 1 = nI T → T ≤ 99999 → ∃ c', xloop (fun _ _ _ _ => none) (b_X2_talkByTwo_2 shA) F 87 q (nI p) c = some c' ∧ TPost P q nw c c' T (sm (oS m0.1 Y nw) p n) (fun i k => i < nw ∧ k < nw ∧ i ≠ k ∧ p ≤ i ∧ p ≤ k ∧ tg Y i k) := by
  intro n
  induction n with
  | zero =>
    intro p F c m T h1 h2 hr hY hc hT
    obtain ⟨F, rfl⟩ : ∃ G, F = G + 1 := ⟨F - 1, by omega⟩
    obtain ⟨h, hs⟩ := hr
    have hRc := wf_rc h; have hRm := wf_rm h; have hq := wf_sq h; have hp := pr_pl (wf_pr h); have hs23 := wf_s23 h; have hqr := isSc_ge hq; have hpr := isPl_le hp; have hw6 := pr_w6 (wf_pr h); have hb8 := pr_b8 (wf_pr h); have hr12 := pr_r12 (wf_pr h); have ht2 := pr_t2 (wf_pr h); have ht60 := pr_t60 (wf_pr h)
    have cw : c.1 P 9 = nI nw := by rw [wf_oc h P (Or.inl (by omega))]; exact pr_cW (wf_pr h)
    refine ⟨c, ?_, TPost.refl hT hc (fun i hi k hk z => by omega)⟩
    rw [loop_s, b_X2_talkByTwo_2, gR_of sA_87 (rf_87_0 hRc), Option.bind_some, gI_of (sp_0 hp), Option.bind_some, cw, if_pos (nI_le (by omega) (by omega))]
    rfl
  | succ n ih =>
    intro p F c m T h1 h2 hr hY hc hT
    obtain ⟨F, rfl⟩ : ∃ G, F = G + 1 := ⟨F - 1, by omega⟩
    have hr0 := hr
    obtain ⟨h, hs⟩ := hr
    have hRc := wf_rc h; have hRm := wf_rm h; have hq := wf_sq h; have hp := pr_pl (wf_pr h); have hs23 := wf_s23 h; have hqr := isSc_ge hq; have hpr := isPl_le hp; have hw6 := pr_w6 (wf_pr h); have hb8 := pr_b8 (wf_pr h); have hr12 := pr_r12 (wf_pr h); have ht2 := pr_t2 (wf_pr h); have ht60 := pr_t60 (wf_pr h)
    have cw : c.1 P 9 = nI nw := by rw [wf_oc h P (Or.inl (by omega))]; exact pr_cW (wf_pr h)
    obtain ⟨c', k1, k2⟩ := talkC_in (fun c m T a1 a2 a3 a4 => ih (p + 1) F c m T (by omega) (by omega) a1 a2 a3 a4) (nw - (p + 1)) (p + 1) xF c m T (by omega) (by omega) (xF_big (by omega)) hr0 hY hc hT
    refine ⟨c', ?_, k2.mono (by rw [sm_s]; rfl) (fun i hi k hk => ?_)⟩
    · rw [loop_s, b_X2_talkByTwo_2, gR_of sA_87 (rf_87_0 hRc), Option.bind_some, gI_of (sp_0 hp), Option.bind_some, cw, if_neg (nI_ge (by omega) (by omega)), nI_1]
      exact k1
    · constructor
      · rintro ((⟨z1, z2, z3, z4⟩ | ⟨z1, z2, z3, z4⟩) | ⟨z1, z2, z3, z4, z5, z6⟩)
        · subst z1; exact ⟨hi, z3, by omega, by omega, by omega, z4⟩
        · subst z1; exact ⟨hi, by omega, by omega, by omega, by omega, tg_symm z4⟩
        · exact ⟨z1, z2, z3, by omega, by omega, z6⟩
      · rintro ⟨z1, z2, z3, z4, z5, z6⟩
        by_cases w : i = p
        · subst w; exact Or.inl (Or.inl ⟨rfl, by omega, z2, z6⟩)
        · by_cases w2 : k = p
          · subst w2; exact Or.inl (Or.inr ⟨rfl, by omega, z1, tg_symm z6⟩)
          · exact Or.inr ⟨z1, z2, z3, by omega, by omega, z6⟩

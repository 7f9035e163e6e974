/-! LEVEL 2: count, rests, rest -/
def smI (f : Nat → Int32) : Nat → Nat → Int32 → Int32
  | _, 0, a => a
  | i, n + 1, a => smI f (i + 1) n (a + f i)
theorem smI_congr {f g : Nat → Int32} : ∀ n i a, (∀ j, i ≤ j → j < i + n → f j = g j) → smI f i n a = smI g i n a := by
  intro n
  induction n with
  | zero => intro i a _; rfl
  | succ n ih => intro i a h; rw [smI, smI, h i (by omega) (by omega), ih (i + 1) _ (fun j h1 h2 => h j (by omega) (by omega))]
theorem smI_add {f : Nat → Int32} : ∀ n k i a, smI f i (n + k) a = smI f (i + n) k (smI f i n a) := by
  intro n
  induction n with
  | zero => intro k i a; rw [Nat.zero_add, Nat.add_zero]; rfl
  | succ n ih => intro k i a; rw [show n + 1 + k = (n + k) + 1 by omega, smI, smI, ih, show i + 1 + n = i + (n + 1) by omega]
theorem smI_0 {f : Nat → Int32} : ∀ n i a, (∀ j, i ≤ j → j < i + n → f j = 0) → smI f i n a = a := by
  intro n
  induction n with
  | zero => intro i a _; rfl
  | succ n ih => intro i a h; rw [smI, h i (by omega) (by omega), Int32.add_zero, ih (i + 1) a (fun j h1 h2 => h j (by omega) (by omega))]
theorem sumOf_loop {d : xD} {q N n : Nat} (h : shA[q]? = some (.inr (.int, N))) (hN : N < 2 ^ 31) (hn : n ≤ N) : ∀ k i F a, i + k = n → k < F → xloop (fun _ _ _ _ _ => none) (b_X9_sumOf_4 shA) F q (nI n) a (nI i) d = some (smI (d.1 q) i k a, d) := by
  intro k
  induction k with
  | zero =>
    intro i F a h1 h2
    obtain ⟨F, rfl⟩ : ∃ G, F = G + 1 := ⟨F - 1, by omega⟩
    rw [loop_s, b_X9_sumOf_4, if_pos (nI_le (by omega) (by omega))]; rfl
  | succ k ih =>
    intro i F a h1 h2
    obtain ⟨F, rfl⟩ : ∃ G, F = G + 1 := ⟨F - 1, by omega⟩
    rw [loop_s, b_X9_sumOf_4, if_neg (nI_ge (by omega) (by omega)), len_of h, Option.bind_some, if_neg (nI_ge (by omega) (by omega)), aI_of h (by omega) hN, Option.bind_some, nI_1, smI]
    exact ih (i + 1) F _ (by omega) (by omega)
theorem wornAll_loop {P q s nw nb nr tp : Nat} {c0 m0 c m : xD} (h : WF P q s nw nb nr tp c0 m0 c m) : ∀ k i F a, i + k = nb → k < F → xloop (fun _ _ _ _ _ => none) (b_X10_wornAll_4 shA) F 99 (nI s) a (nI i) m = some (smI (vM s m.1 12) i k a, m) := by
  have hRc := wf_rc h; have hRm := wf_rm h; have hq := wf_sq h; have hp := pr_pl (wf_pr h); have hs23 := wf_s23 h; have hqr := isSc_ge hq; have hpr := isPl_le hp; have hw6 := pr_w6 (wf_pr h); have hb8 := pr_b8 (wf_pr h); have hr12 := pr_r12 (wf_pr h); have ht2 := pr_t2 (wf_pr h); have ht60 := pr_t60 (wf_pr h)
  have mb : m.1 101 1 = nI nb := by rw [wf_om h 101 (Or.inl (by omega)) (by omega)]; exact p0_mB (wf_pr h)
  intro k
  induction k with
  | zero =>
    intro i F a h1 h2
    obtain ⟨F, rfl⟩ : ∃ G, F = G + 1 := ⟨F - 1, by omega⟩
    rw [loop_s, b_X10_wornAll_4, gR_of sA_99 (rf_99_3 hRm), Option.bind_some, aN_1, Option.bind_some, mb, if_pos (nI_le (by omega) (by omega))]; rfl
  | succ k ih =>
    intro i F a h1 h2
    obtain ⟨F, rfl⟩ : ∃ G, F = G + 1 := ⟨F - 1, by omega⟩
    rw [loop_s, b_X10_wornAll_4, gR_of sA_99 (rf_99_3 hRm), Option.bind_some, aN_1, Option.bind_some, mb, if_neg (nI_ge (by omega) (by omega)), gR_of sA_99 (rf_99_47 hRm), Option.bind_some, m8_, nI_add, aI_of sA_131 (by omega) (by omega), Option.bind_some, nI_1, smI]
    exact ih (i + 1) F _ (by omega) (by omega)
theorem bo_sm {x : Int32} : ∀ n k a, k + n ≤ 32 → bo x k n a = smI (fun k => if bt x k then 1 else 0) k n a := by
  intro n
  induction n with
  | zero => intro k a _; rfl
  | succ n ih => intro k a h; rw [bo, smI, bi1 x (by omega), ih (k + 1) _ (by omega)]
theorem l2_count : L2_count Rel := by
  intro d a1 hd
  refine co_L2 (fC := f_X9_count shA 0 a1) (fM := f_X10_count shA 99 a1) (co_look hd ?_)
  intro P nw nb nr tp md m hm hQ
  have hp := pr_pl (rq_pr hQ)
  have hw6 := pr_w6 (rq_pr hQ); have hb8 := pr_b8 (rq_pr hQ); have hr12 := pr_r12 (rq_pr hQ)
  have hRc := rq_rc hQ; have hRm := rq_rm hQ
  obtain ⟨hW, hS⟩ := rq_rs hQ
  have c4 : d.1 P 4 = nI nb := pr_cB (rq_pr hQ)
  have c9 : d.1 P 9 = nI nw := pr_cW (rq_pr hQ)
  have c15 : d.1 P 15 = nI nr := pr_cR (rq_pr hQ)
  have c0 : d.1 P 0 = nI tp := pr_cT (rq_pr hQ)
  have n1 : m.1 101 1 = nI nb := p0_mB (rq_pr hQ)
  have n2 : m.1 101 2 = nI nw := p0_mW (rq_pr hQ)
  have n3 : m.1 101 3 = nI nr := p0_mR (rq_pr hQ)
  have n0 : m.1 101 0 = nI tp := p0_mT (rq_pr hQ)
  obtain ⟨kn, _, q1, q2, _⟩ := p0_kn (rq_pr hQ)
  have mi : d.1 45 0 = m.1 119 0 := (sc_mi (rq_sn hQ)).trans rM_119.symm
  obtain ⟨T, _, _, t1, t2⟩ := sc_ta (rq_sn hQ)
  have t1 : d.1 45 1 = nI T := t1
  have t2 : m.1 121 0 = nI T := by rw [← t2]; exact rM_121
  have w1 : ∀ v, f_X4_howMany shA 45 v d = some (nI (cntI (vM 0 m.1 5) v 0 nw 0), d) := by
    intro v
    rw [e_howMany hRc sc45 (sc_cw (rq_sn hQ)) hw6, cntI_congr (f := d.1 (45 + 1)) (g := vM 0 m.1 5) nw 0 0 (fun j _ hj => sc_st (rq_sn hQ) j (by omega))]
  have w2 : ∀ v, f_X10_walkersOf shA 99 0 v m = some (nI (cntI (vM 0 m.1 5) v 0 nw 0), m) := fun v => e_walkersOf hW v
  have w3 : f_X9_sumOf shA (45 + 9) (nI nb) d = some (smI (vM 0 m.1 12) 0 nb 0, d) := by
    have z := sumOf_loop (d := d) (ss_9 sc45) (by omega) hb8 nb 0 xF 0 (by omega) (xF_big (by omega))
    rw [smI_congr nb 0 0 (g := vM 0 m.1 12) (fun j _ hj => by obtain ⟨a, _, y1, y2⟩ := sc_wo (rq_sn hQ) j (by omega); exact y1.trans y2.symm)] at z
    exact z
  have w4 : f_X10_wornAll shA 99 0 m = some (smI (vM 0 m.1 12) 0 nb 0, m) := wornAll_loop hW nb 0 xF 0 (by omega) (xF_big (by omega))
  have w5 : f_X9_sumOf shA (45 + 13) (nI nr) d = some (bo (m.1 123 0) 0 12 0, d) := by
    have z := sumOf_loop (d := d) (ss_13 sc45) (by omega) (show nr ≤ 13 by omega) nr 0 xF 0 (by omega) (xF_big (by omega))
    have e4 : vM 0 m.1 4 0 = m.1 123 0 := rM_123.symm
    have y : ∀ j, 0 ≤ j → j < 0 + nr → d.1 (45 + 13) j = (fun k => if bt (m.1 123 0) k then (1 : Int32) else 0) j := by
      intro j _ hj
      have y : d.1 (45 + 13) j = _ := sc_rt (rq_sn hQ) j (by omega)
      rw [rq_tw hQ, if_neg (by decide), e4] at y
      exact y
    rw [smI_congr nr 0 0 y] at z
    rw [bo_sm 12 0 0 (by omega), show 12 = nr + (12 - nr) by omega, smI_add, smI_0 (12 - nr) (0 + nr) _ (fun j j1 j2 => by have r := sc_rz (rq_sn hQ) j (by omega) (by omega); rw [e4] at r; simp [r])]
    exact z
  obtain ⟨n, h1, h2, h3, h4, h5, _⟩ := rq_se hQ
  obtain ⟨u, u1, u2, u3, _⟩ := rq_un hQ
  have w6 : f_X5_howManyKnown shA 92 d = some (if m.1 99 58 = -1 then nI n else m.1 99 58, d) := by
    unfold f_X5_howManyKnown k_X5_howManyKnown_19
    simp only [gI_of sA_92, Option.bind_some, h2, h4]
    by_cases z : m.1 99 58 = -1
    · rw [if_pos z, if_pos z]
    · rw [if_neg z, if_neg z]
  have w7 : f_X10_knownMany shA 99 m = some (if m.1 99 58 = -1 then nI n else m.1 99 58, m) := by
    unfold f_X10_knownMany k_X10_knownMany_19
    simp only [gI_of sA_99, Option.bind_some, h3]
    by_cases z : m.1 99 58 = -1
    · rw [if_pos z, if_pos z]
    · rw [if_neg z, if_neg z]
  unfold f_X10_count
  rw [t0_e, ← hm]
  unfold f_X9_count
  simp only [g0_4 hQ, g0_8 hQ, g0_13 hQ, g0_14 hQ, Option.bind_some, gI_of (sp_0 hp), gR_of (sp_0 hp) (rp_19 hRc hp), gI_of (sp_13 hp), gI_of sA_45, gI_of sA_89, gI_of sA_92, c4, c9, c15, c0, q2, mi, t1, on_of sA_45, w1, gR_of sA_45 (rs_13 hRc sc45), gR_of sA_45 (rs_18 hRc sc45), w3, w5, h2, on_of sA_92, w6, u2, gR_of sA_99 (rf_99_3 hRm), aN_0, aN_1, aN_2, aN_3, aN_7, n0, n1, n2, n3, q1, gR_of sA_99 (rf_99_35 hRm), gR_of sA_99 (rf_99_37 hRm), gR_of sA_99 (rf_99_39 hRm), a0_1, a0_3, a0_5, t2, on_of sA_99, w2, w4, e_bitsOf, gI_of sA_99, h3, w7, u3]
  by_cases k0 : a1 = 0
  · rw [if_pos k0, if_pos k0]; exact ⟨_, rfl, rfl⟩
  rw [if_neg k0, if_neg k0]
  by_cases k1 : a1 = 1
  · rw [if_pos k1, if_pos k1]; exact ⟨_, rfl, rfl⟩
  rw [if_neg k1, if_neg k1]
  by_cases k2 : a1 = 2
  · rw [if_pos k2, if_pos k2]; exact ⟨_, rfl, rfl⟩
  rw [if_neg k2, if_neg k2]
  by_cases k3 : a1 = 3
  · rw [if_pos k3, if_pos k3]; exact ⟨_, rfl, rfl⟩
  rw [if_neg k3, if_neg k3]
  by_cases k4 : a1 = 4
  · rw [if_pos k4, if_pos k4]; exact ⟨_, rfl, rfl⟩
  rw [if_neg k4, if_neg k4]
  by_cases k5 : a1 = 5
  · rw [if_pos k5, if_pos k5]; exact ⟨_, rfl, rfl⟩
  rw [if_neg k5, if_neg k5]
  by_cases k6 : a1 = 6
  · rw [if_pos k6, if_pos k6]; exact ⟨_, rfl, rfl⟩
  rw [if_neg k6, if_neg k6]
  by_cases k7 : a1 = 7
  · rw [if_pos k7, if_pos k7]; exact ⟨_, rfl, rfl⟩
  rw [if_neg k7, if_neg k7]
  by_cases k8 : a1 = 8
  · rw [if_pos k8, if_pos k8]; exact ⟨_, rfl, rfl⟩
  rw [if_neg k8, if_neg k8]
  by_cases k9 : a1 = 9
  · rw [if_pos k9, if_pos k9]; exact ⟨_, rfl, rfl⟩
  rw [if_neg k9, if_neg k9]
  by_cases k10 : a1 = 10
  · rw [if_pos k10, if_pos k10]; exact ⟨_, rfl, rfl⟩
  rw [if_neg k10, if_neg k10]
  by_cases k11 : a1 = 11
  · rw [if_pos k11, if_pos k11]; exact ⟨_, rfl, rfl⟩
  rw [if_neg k11, if_neg k11]
  by_cases k12 : a1 = 12
  · rw [if_pos k12, if_pos k12]; exact ⟨_, rfl, rfl⟩
  rw [if_neg k12, if_neg k12]
  by_cases k13 : a1 = 13
  · rw [if_pos k13, if_pos k13]; exact ⟨_, rfl, rfl⟩
  rw [if_neg k13, if_neg k13]
  exact ⟨_, rfl, rfl⟩
def gn (x y a b : Int32) : Int32 := if a = 1 then (if b = 1 then y else 0) else if b = 1 then x else x / 2
theorem e_gain (x y a b : Int32) (d : xD) : f_X9_gain shA x y a b d = some (gn x y a b, d) := by
  unfold f_X9_gain k_X9_gain_15 k_X9_gain_28 gn
  have e2 : xdI x 2 = some (x / 2) := by unfold xdI; rw [if_neg (by decide)]
  rw [e2]
  by_cases h1 : a = 1
  · rw [if_pos h1, if_pos h1]
    by_cases h2 : b = 1
    · rw [if_pos h2, if_pos h2]
    · rw [if_neg h2, if_neg h2]
  · rw [if_neg h1, if_neg h1]
    by_cases h2 : b = 1
    · rw [if_pos h2, if_pos h2]
    · rw [if_neg h2, if_neg h2]; rfl
theorem e_hasOf {m : xD} {P p o : Nat} (hRm : RefOK m P) (hp : p < 6) (ho : o < 6) (a b : Int32) : f_X10_hasOf shA 99 (nI p) (nI o) a b m = some (gn (m.1 108 p) (m.1 108 o) a b, m) := by
  unfold f_X10_hasOf k_X10_hasOf_21 k_X10_hasOf_45 gn
  have e2 : ∀ x : Int32, xdI x 2 = some (x / 2) := fun x => by unfold xdI; rw [if_neg (by decide)]
  simp (disch := omega) only [gR_of sA_99 (rf_99_10 hRm), Option.bind_some, aI_of sA_108, e2]
  by_cases h1 : a = 1
  · rw [if_pos h1, if_pos h1]
    by_cases h2 : b = 1
    · rw [if_pos h2, if_pos h2]
    · rw [if_neg h2, if_neg h2]
  · rw [if_neg h1, if_neg h1]
    by_cases h2 : b = 1
    · rw [if_pos h2, if_pos h2]
    · rw [if_neg h2, if_neg h2]
def isr (x y a b : Int32) : Int32 := if gn x y a b < gn x y (1 - a) b then 0 else if gn y x b a < gn y x (1 - b) a then 0 else 1
theorem e_isRestC (x y a b : Int32) (d : xD) : f_X9_isRest shA x y a b d = some (isr x y a b, d) := by
  unfold f_X9_isRest k_X9_isRest_42 k_X9_isRest_43 isr
  simp only [e_gain, Option.bind_some, xz_0, xz_1]
  by_cases h1 : gn x y a b < gn x y (1 - a) b
  · rw [if_pos h1, if_pos h1]
  · rw [if_neg h1, if_neg h1]
    by_cases h2 : gn y x b a < gn y x (1 - b) a
    · rw [if_pos h2, if_pos h2]
    · rw [if_neg h2, if_neg h2]
theorem div2 : ∀ i, i < 4 → xdI (nI i) 2 = some (nI i >>> ((1 : Int32) &&& 31)) ∧ xmI (nI i) 2 = some (nI i &&& 1) := by decide +kernel
theorem e_isRestM {m : xD} {P p o i : Nat} (hRm : RefOK m P) (hp : p < 6) (ho : o < 6) (hi : i < 4) : f_X10_isRest shA 99 (nI p) (nI o) (nI i) m = some (isr (m.1 108 p) (m.1 108 o) (nI i >>> ((1 : Int32) &&& 31)) (nI i &&& 1), m) := by
  obtain ⟨d1, d2⟩ := div2 i hi
  unfold f_X10_isRest k_X10_isRest_64 k_X10_isRest_65 isr
  rw [d1, Option.bind_some, d2, Option.bind_some]
  simp only [on_of sA_99, e_hasOf hRm hp ho, e_hasOf hRm ho hp, Option.bind_some, xz_0, xz_1]
  (repeat' split) <;> first | rfl | contradiction
theorem rest_loops {P nw nb nr tp p o : Nat} {d m : xD} (hQ : RQ P nw nb nr tp d m) (hpw : p < nw) (how : o < nw) : (∀ n i F1 F2 ct, i + n = 4 → n < F1 → n < F2 → ct ≤ i → ∃ r, xloop (fun _ _ _ _ _ _ => none) (b_X9_rests_16 shA) F1 0 (nI p) (nI o) (nI ct) (nI i) d = some (r, d) ∧ xloop (fun _ _ _ _ _ _ _ => none) (b_X10_restIn_6 shA) F2 99 (nI p) (nI o) (-1) (nI ct) (nI i) m = some (r, m)) ∧ (∀ k : Int32, ¬ k < 0 → ∀ n i F1 F2 ct, i + n = 4 → n < F1 → n < F2 → ∃ r, xloop (fun _ _ _ _ _ _ _ => none) (b_X9_rest_21 shA) F1 0 (nI p) (nI o) k ct (nI i) d = some (r, d) ∧ xloop (fun _ _ _ _ _ _ _ => none) (b_X10_restIn_6 shA) F2 99 (nI p) (nI o) k ct (nI i) m = some (r, m)) := by
  have hw6 := pr_w6 (rq_pr hQ)
  have hRc := rq_rc hQ; have hRm := rq_rm hQ
  have pc : ∀ i, i < nw → d.1 (45 + 4) i = m.1 108 i := fun i hi => by have z : d.1 (45 + 4) i = _ := sc_pa (rq_sn hQ) i hi; rw [pac_m1 (by omega) (rq_po hQ)] at z; exact z
  constructor
  · intro n
    induction n with
    | zero =>
      intro i F1 F2 ct h1 h2 h3 _
      obtain ⟨F1, rfl⟩ : ∃ G, F1 = G + 1 := ⟨F1 - 1, by omega⟩
      obtain ⟨F2, rfl⟩ : ∃ G, F2 = G + 1 := ⟨F2 - 1, by omega⟩
      have e : (4 : Int32) ≤ nI i := nI_le (a := 4) (by omega) (by omega)
      rw [loop_s, loop_s, b_X9_rests_16, b_X10_restIn_6, if_pos e, if_pos e]
      unfold k_X10_restIn_54
      rw [if_pos rfl]
      exact ⟨_, rfl, rfl⟩
    | succ n ih =>
      intro i F1 F2 ct h1 h2 h3 hct
      obtain ⟨F1, rfl⟩ : ∃ G, F1 = G + 1 := ⟨F1 - 1, by omega⟩
      obtain ⟨F2, rfl⟩ : ∃ G, F2 = G + 1 := ⟨F2 - 1, by omega⟩
      have e : ¬ (4 : Int32) ≤ nI i := nI_ge (b := 4) (by omega) (by omega)
      rw [loop_s, loop_s, b_X9_rests_16, b_X10_restIn_6, if_neg e, if_neg e]
      unfold k_X9_rests_57 k_X10_restIn_48
      simp (disch := omega) only [g0_8 hQ, Option.bind_some, gR_of sA_45 (rs_8 hRc sc45), aI_of (ss_4 sc45), pc p hpw, pc o how, e_isRestC, on_of sA_99, e_isRestM hRm (show p < 6 by omega) (show o < 6 by omega) (show i < 4 by omega), nI_1]
      by_cases z : isr (m.1 108 p) (m.1 108 o) (nI i >>> ((1 : Int32) &&& 31)) (nI i &&& 1) = 0
      · rw [if_pos z, if_pos z]; exact ih (i + 1) F1 F2 ct (by omega) (by omega) (by omega) (by omega)
      · rw [if_neg z, if_neg z, if_neg (nI_ne_m1 (by omega))]; exact ih (i + 1) F1 F2 (ct + 1) (by omega) (by omega) (by omega) (by omega)
  · intro k hk n
    induction n with
    | zero =>
      intro i F1 F2 ct h1 h2 h3
      obtain ⟨F1, rfl⟩ : ∃ G, F1 = G + 1 := ⟨F1 - 1, by omega⟩
      obtain ⟨F2, rfl⟩ : ∃ G, F2 = G + 1 := ⟨F2 - 1, by omega⟩
      have e : (4 : Int32) ≤ nI i := nI_le (a := 4) (by omega) (by omega)
      rw [loop_s, loop_s, b_X9_rest_21, b_X10_restIn_6, if_pos e, if_pos e]
      unfold k_X10_restIn_54
      rw [if_neg (fun z => hk (by rw [z]; decide))]
      exact ⟨_, rfl, rfl⟩
    | succ n ih =>
      intro i F1 F2 ct h1 h2 h3
      obtain ⟨F1, rfl⟩ : ∃ G, F1 = G + 1 := ⟨F1 - 1, by omega⟩
      obtain ⟨F2, rfl⟩ : ∃ G, F2 = G + 1 := ⟨F2 - 1, by omega⟩
      have e : ¬ (4 : Int32) ≤ nI i := nI_ge (b := 4) (by omega) (by omega)
      obtain ⟨d1, d2⟩ := div2 i (by omega)
      rw [loop_s, loop_s, b_X9_rest_21, b_X10_restIn_6, if_neg e, if_neg e]
      unfold k_X9_rest_81 k_X9_rest_65 k_X10_restIn_48 k_X10_restIn_32
      rw [d1, d2]
      simp (disch := omega) only [g0_8 hQ, Option.bind_some, gR_of sA_45 (rs_8 hRc sc45), aI_of (ss_4 sc45), pc p hpw, pc o how, e_isRestC, on_of sA_99, e_isRestM hRm (show p < 6 by omega) (show o < 6 by omega) (show i < 4 by omega), nI_1]
      by_cases z : isr (m.1 108 p) (m.1 108 o) (nI i >>> ((1 : Int32) &&& 31)) (nI i &&& 1) = 0
      · rw [if_pos z, if_pos z]; exact ih (i + 1) F1 F2 ct (by omega) (by omega) (by omega)
      · rw [if_neg z, if_neg z]
        by_cases y : ct = k
        · rw [if_pos y, if_pos y]; exact ⟨_, rfl, rfl⟩
        · rw [if_neg y, if_neg y]; exact ih (i + 1) F1 F2 (ct + 1) (by omega) (by omega) (by omega)
theorem l2_rests : L2_rests Rel := by
  intro d a1 a2 hd
  refine co_L2 (fC := f_X9_rests shA 0 a1 a2) (fM := f_X10_rests shA 99 a1 a2) (co_look hd ?_)
  intro P nw nb nr tp md m hm hQ
  unfold f_X10_rests
  rw [t0_e, ← hm]
  unfold f_X9_rests k_X10_rests_25
  rw [on_of sA_0, on_of sA_99]
  rcases e_areTwo hQ a1 a2 with ⟨p, o, hpw, how, hne, rfl, rfl, e1, e2⟩ | ⟨e1, e2⟩
  · obtain ⟨r, k1, k2⟩ := (rest_loops hQ hpw how).1 4 0 xF xF 0 (by omega) (xF_big (by omega)) (xF_big (by omega)) (by omega)
    rw [nI_0] at k1 k2
    have k2 : f_X10_restIn shA 99 (nI p) (nI o) (-1) m = some (r, m) := k2
    rw [e1, e2, Option.bind_some, Option.bind_some]
    dsimp only
    rw [if_neg one_ne_zero32, if_neg one_ne_zero32, on_of sA_99, k2]
    exact ⟨r, k1, rfl⟩
  · rw [e1, e2]; exact ⟨_, rfl, rfl⟩
theorem l2_rest : L2_rest Rel := by
  intro d a1 a2 a3 hd
  refine co_L2 (fC := f_X9_rest shA 0 a1 a2 a3) (fM := f_X10_rest shA 99 a1 a2 a3) (co_look hd ?_)
  intro P nw nb nr tp md m hm hQ
  unfold f_X10_rest
  rw [t0_e, ← hm]
  unfold f_X9_rest k_X9_rest_13 k_X10_rest_28 k_X10_rest_29
  rw [on_of sA_0, on_of sA_99]
  rcases e_areTwo hQ a1 a2 with ⟨p, o, hpw, how, hne, rfl, rfl, e1, e2⟩ | ⟨e1, e2⟩
  · rw [e1, e2, Option.bind_some, Option.bind_some]
    dsimp only
    rw [if_neg one_ne_zero32, if_neg one_ne_zero32]
    by_cases c : a3 < 0
    · rw [if_pos c, if_neg (fun z => absurd c (Int32.not_lt.mpr z))]; exact ⟨_, rfl, rfl⟩
    · obtain ⟨r, k1, k2⟩ := (rest_loops hQ hpw how).2 a3 c 4 0 xF xF 0 (by omega) (xF_big (by omega)) (xF_big (by omega))
      rw [nI_0] at k1 k2
      have k2 : f_X10_restIn shA 99 (nI p) (nI o) a3 m = some (r, m) := k2
      rw [if_neg c, if_pos (Int32.not_lt.mp c), on_of sA_99, k2]
      exact ⟨r, k1, rfl⟩
  · rw [e1, e2]; exact ⟨_, rfl, rfl⟩

/-! LEVEL 2: push -/
theorem someoneOn_loop {P nw nb nr tp : Nat} {d m : xD} (hQ : RQ P nw nb nr tp d m) (x : Int32) : ∀ k i F, i + k = nw → k < F → xloop (fun _ _ _ _ => none) (b_X4_someoneOn_2 shA) F 45 x (nI i) d = some (if (fstR (fun i => decide (d.1 (45 + 2) i = x) && thr (d.1 (45 + 1) i)) i k).isSome then 1 else 0, d) := by
  have hw6 := pr_w6 (rq_pr hQ)
  have hRc := rq_rc hQ
  have cw : d.1 45 4 = nI nw := sc_cw (rq_sn hQ)
  intro k
  induction k with
  | zero =>
    intro i F h1 h2
    obtain ⟨F, rfl⟩ : ∃ G, F = G + 1 := ⟨F - 1, by omega⟩
    rw [loop_s, b_X4_someoneOn_2, gI_of sA_45, Option.bind_some, cw, if_pos (nI_le (by omega) (by omega))]; rfl
  | succ k ih =>
    intro i F h1 h2
    obtain ⟨F, rfl⟩ : ∃ G, F = G + 1 := ⟨F - 1, by omega⟩
    rw [loop_s, b_X4_someoneOn_2, gI_of sA_45, Option.bind_some, cw, if_neg (nI_ge (by omega) (by omega)), gR_of sA_45 (rs_6 hRc sc45), Option.bind_some, aI_of (ss_2 sc45) (by omega) (by omega), Option.bind_some]
    unfold k_X4_someoneOn_30 k_X4_someoneOn_28
    by_cases c1 : d.1 (45 + 2) i = x
    · rw [if_pos c1, on_of sA_45, e_thereC hRc sc45 (by omega), Option.bind_some]
      dsimp only
      cases t : thr (d.1 (45 + 1) i) with
      | false => 
        rw [if_pos (by decide), nI_1, ih (i + 1) F (by omega) (by omega), fstR_f (by rw [t, Bool.and_false])]
      | true =>
        rw [if_neg (by decide), fstR_t (by rw [t, Bool.and_true]; exact decide_eq_true c1)]; rfl
    · rw [if_neg c1, nI_1, ih (i + 1) F (by omega) (by omega), fstR_f (by rw [decide_eq_false c1, Bool.false_and])]
theorem freeStep_loop {P nw nb nr tp : Nat} {d m : xD} (hQ : RQ P nw nb nr tp d m) (x : Int32) : ∀ k i F, i + k = nw → k < F → xloop (fun _ _ _ _ => none) (b_X10_isFreeStep_19 shA) F 99 x (nI i) m = some (if (fstR (fun i => decide (d.1 (45 + 2) i = x) && thr (d.1 (45 + 1) i)) i k).isSome then 0 else 1, m) := by
  have hw6 := pr_w6 (rq_pr hQ)
  have hRm := rq_rm hQ
  have e2 : m.1 101 2 = nI nw := p0_mW (rq_pr hQ)
  intro k
  induction k with
  | zero =>
    intro i F h1 h2
    obtain ⟨F, rfl⟩ : ∃ G, F = G + 1 := ⟨F - 1, by omega⟩
    rw [loop_s, b_X10_isFreeStep_19, gR_of sA_99 (rf_99_3 hRm), Option.bind_some, aN_2, Option.bind_some, e2, if_pos (nI_le (by omega) (by omega))]; rfl
  | succ k ih =>
    intro i F h1 h2
    obtain ⟨F, rfl⟩ : ∃ G, F = G + 1 := ⟨F - 1, by omega⟩
    have m1 := e_thereM (s := 0) (p := i) hRm (by omega) (by omega)
    rw [nI_0] at m1
    have s1 : d.1 (45 + 1) i = vM 0 m.1 5 i := sc_st (rq_sn hQ) i (by omega)
    have s2 : d.1 (45 + 2) i = m.1 125 i := by
      obtain ⟨a, ha, x2, y2⟩ := sc_sp (rq_sn hQ) i (by omega)
      have y2 : m.1 125 (6 * 0 + i) = nI a := y2
      rw [Nat.mul_zero, Nat.zero_add] at y2
      rw [y2]; exact x2
    rw [loop_s, b_X10_isFreeStep_19, gR_of sA_99 (rf_99_3 hRm), Option.bind_some, aN_2, Option.bind_some, e2, if_neg (nI_ge (by omega) (by omega)), on_of sA_99, m1, Option.bind_some]
    unfold k_X10_isFreeStep_50 k_X10_isFreeStep_48
    dsimp only
    cases t : thr (vM 0 m.1 5 i) with
    | false => 
      rw [if_pos (by decide), nI_1, ih (i + 1) F (by omega) (by omega), fstR_f (by rw [s1, t, Bool.and_false])]
    | true =>
      rw [if_neg (by decide), gR_of sA_99 (rf_99_41 hRm), Option.bind_some, aI_of sA_125 (by omega) (by omega), Option.bind_some, ← s2]
      by_cases c1 : d.1 (45 + 2) i = x
      · rw [if_pos c1, fstR_t (by rw [s1, t, Bool.and_true]; exact decide_eq_true c1)]; rfl
      · rw [if_neg c1, nI_1, ih (i + 1) F (by omega) (by omega), fstR_f (by rw [decide_eq_false c1, Bool.false_and])]
def frs (nw tp : Nat) (d : xD) (x : Int32) : Bool := decide (¬ x < 1 ∧ x < nI tp) && !(fstR (fun i => decide (d.1 (45 + 2) i = x) && thr (d.1 (45 + 1) i)) 0 nw).isSome
theorem e_isFreeStep {P nw nb nr tp : Nat} {d m : xD} (hQ : RQ P nw nb nr tp d m) (x : Int32) : f_X10_isFreeStep shA 99 x m = some (if frs nw tp d x then 1 else 0, m) := by
  have hw6 := pr_w6 (rq_pr hQ)
  have hRm := rq_rm hQ
  have e0 : m.1 101 0 = nI tp := p0_mT (rq_pr hQ)
  unfold f_X10_isFreeStep frs k_X10_isFreeStep_15
  by_cases c1 : x < 1
  · rw [if_pos c1, decide_eq_false (fun z => z.1 c1), Bool.false_and]; rfl
  · rw [if_neg c1, gR_of sA_99 (rf_99_3 hRm), Option.bind_some, aN_0, Option.bind_some, e0]
    by_cases c2 : x < nI tp
    · have z := freeStep_loop hQ x nw 0 xF (by omega) (by unfold xF; omega)
      rw [nI_0] at z
      rw [if_pos c2, decide_eq_true ⟨c1, c2⟩, z, Bool.true_and]
      cases (fstR (fun i => decide (d.1 (45 + 2) i = x) && thr (d.1 (45 + 1) i)) 0 nw).isSome <;> rfl
    · rw [if_neg c2, decide_eq_false (fun z => c2 z.2), Bool.false_and]; rfl
def allR (t : Nat → Bool) : Nat → Nat → Bool
  | _, 0 => true
  | i, n + 1 => t i && allR t (i + 1) n
theorem allR_last {t : Nat → Bool} : ∀ n i, allR t i (n + 1) = true → t (i + n) = true := by
  intro n
  induction n with
  | zero => intro i h; rw [allR, Bool.and_eq_true] at h; exact h.1
  | succ n ih => intro i h; rw [allR, Bool.and_eq_true] at h; rw [show i + (n + 1) = i + 1 + n by omega]; exact ih (i + 1) h.2
theorem pu1 : ∀ (n j : Fin 4) (w : Bool), (((nI n.val * (if w then 1 else -1)) * (if w then 1 else -1) < nI (j.val + 1)) ↔ n.val ≤ j.val) ∧ (nI (j.val + 1) * (if w then 1 else -1) = nI n.val * (if w then 1 else -1) + (if w then (1 : Int32) else -1) ↔ j.val = n.val) ∧ nI (j.val + 1) * (if w then 1 else -1) + (if w then (1 : Int32) else -1) = nI (j.val + 2) * (if w then 1 else -1) := by decide +kernel
theorem pushC_loop {P nw nb nr tp : Nat} {d m : xD} (hQ : RQ P nw nb nr tp d m) {n : Nat} (hn : n ≤ 3) {w : Bool} {x : Int32} (hx : d.1 45 2 = x) : ∀ k j F, j + k = n → k < F → xloop (fun _ _ _ _ _ => none) (b_X9_push_41 shA) F 0 (nI n * (if w then 1 else -1)) (if w then 1 else -1) (nI (j + 1)) d = if allR (fun i => frs nw tp d (x + nI (i + 1) * (if w then 1 else -1))) j k then k_X9_push_100 shA 0 (nI n * (if w then 1 else -1)) d else some (-2, d) := by
  have hw6 := pr_w6 (rq_pr hQ)
  have hp := pr_pl (rq_pr hQ)
  have hRc := rq_rc hQ
  have ct : d.1 P 0 = nI tp := pr_cT (rq_pr hQ)
  intro k
  induction k with
  | zero =>
    intro j F h1 h2
    obtain ⟨F, rfl⟩ : ∃ G, F = G + 1 := ⟨F - 1, by omega⟩
    obtain ⟨q1, q2, q3⟩ := pu1 ⟨n, by omega⟩ ⟨j, by omega⟩ w
    rw [loop_s, b_X9_push_41, if_pos (q1.mpr (by show n ≤ j; omega))]; rfl
  | succ k ih =>
    intro j F h1 h2
    obtain ⟨F, rfl⟩ : ∃ G, F = G + 1 := ⟨F - 1, by omega⟩
    obtain ⟨q1, q2, q3⟩ := pu1 ⟨n, by omega⟩ ⟨j, by omega⟩ w
    have z := someoneOn_loop hQ (x + nI (j + 1) * (if w then 1 else -1)) nw 0 xF (by omega) (by unfold xF; omega)
    rw [nI_0] at z
    rw [loop_s, b_X9_push_41, if_neg (fun y => by have y1 : n ≤ j := q1.mp y; omega), g0_8 hQ, Option.bind_some, gI_of sA_45, Option.bind_some, hx, allR]
    unfold k_X9_push_91
    by_cases c1 : x + nI (j + 1) * (if w then 1 else -1) < 1
    · rw [if_pos c1, show frs nw tp d (x + nI (j + 1) * (if w then 1 else -1)) = false by unfold frs; rw [decide_eq_false (fun z => z.1 c1), Bool.false_and]]; rfl
    rw [if_neg c1, g0_4 hQ, Option.bind_some, gI_of (sp_0 hp), Option.bind_some, ct]
    by_cases c2 : nI tp ≤ x + nI (j + 1) * (if w then 1 else -1)
    · rw [if_pos c2, show frs nw tp d (x + nI (j + 1) * (if w then 1 else -1)) = false by unfold frs; rw [decide_eq_false (fun z => Int32.not_lt.mpr c2 z.2), Bool.false_and]]; rfl
    rw [if_neg c2, Option.bind_some, on_of sA_45, f_X4_someoneOn, z, Option.bind_some]
    dsimp only
    cases t : (fstR (fun i => decide (d.1 (45 + 2) i = x + nI (j + 1) * (if w then 1 else -1)) && thr (d.1 (45 + 1) i)) 0 nw).isSome with
    | true => 
      rw [if_neg (by decide), show frs nw tp d (x + nI (j + 1) * (if w then 1 else -1)) = false by unfold frs; rw [t]; exact Bool.and_false _]; rfl
    | false => 
      rw [if_pos (by decide), nI_1, ih (j + 1) F (by omega) (by omega), show frs nw tp d (x + nI (j + 1) * (if w then 1 else -1)) = true by unfold frs; rw [t, decide_eq_true ⟨c1, Int32.not_le.mp c2⟩]; rfl, Bool.true_and]
theorem pushM_loop {P nw nb nr tp : Nat} {d m : xD} (hQ : RQ P nw nb nr tp d m) {n : Nat} (hn : n ≤ 3) {w : Bool} {x : Int32} : ∀ k j F, j + k = n → k < F → xloop (fun _ _ _ _ _ _ => none) (b_X10_canPush_13 shA) F 99 x (nI n * (if w then 1 else -1)) (if w then 1 else -1) (nI (j + 1) * (if w then 1 else -1)) m = some (if allR (fun i => frs nw tp d (x + nI (i + 1) * (if w then 1 else -1))) j k then 1 else 0, m) := by
  intro k
  induction k with
  | zero =>
    intro j F h1 h2
    obtain ⟨F, rfl⟩ : ∃ G, F = G + 1 := ⟨F - 1, by omega⟩
    obtain ⟨q1, q2, q3⟩ := pu1 ⟨n, by omega⟩ ⟨j, by omega⟩ w
    rw [loop_s, b_X10_canPush_13, if_pos (q2.mpr (by show j = n; omega))]; rfl
  | succ k ih =>
    intro j F h1 h2
    obtain ⟨F, rfl⟩ : ∃ G, F = G + 1 := ⟨F - 1, by omega⟩
    obtain ⟨q1, q2, q3⟩ := pu1 ⟨n, by omega⟩ ⟨j, by omega⟩ w
    rw [loop_s, b_X10_canPush_13, if_neg (fun y => by have y1 : j = n := q2.mp y; omega), on_of sA_99, e_isFreeStep hQ, Option.bind_some, allR]
    unfold k_X10_canPush_32
    dsimp only
    cases t : frs nw tp d (x + nI (j + 1) * (if w then 1 else -1)) with
    | false => rw [if_pos (by decide)]; rfl
    | true => 
      rw [if_neg (by decide), Bool.true_and]
      have q3 : nI (j + 1) * (if w then 1 else -1) + (if w then (1 : Int32) else -1) = nI (j + 2) * (if w then 1 else -1) := q3
      rw [q3]
      exact ih (j + 1) F (by omega) (by omega)
theorem pu2 {a : Int32} (h1 : ¬ a < -3) (h2 : ¬ 3 < a) (h3 : ¬ a = 0) : ∃ n w, 1 ≤ n ∧ n ≤ 3 ∧ a = nI n * (if w then 1 else -1) ∧ (0 ≤ a ↔ w = true) := by
  have w1 : ¬ a.toInt < -3 := fun z => h1 (Int32.lt_iff_toInt_lt.mpr z)
  have w2 : ¬ 3 < a.toInt := fun z => h2 (Int32.lt_iff_toInt_lt.mpr z)
  have e : ∀ b : Int32, a.toInt = b.toInt → a = b := fun b z => Int32.toInt_inj.mp z
  rcases (show a.toInt = -3 ∨ a.toInt = -2 ∨ a.toInt = -1 ∨ a.toInt = 0 ∨ a.toInt = 1 ∨ a.toInt = 2 ∨ a.toInt = 3 by omega) with z | z | z | z | z | z | z
  · exact ⟨3, false, by omega, by omega, e (-3) z, by rw [e (-3) z]; decide⟩
  · exact ⟨2, false, by omega, by omega, e (-2) z, by rw [e (-2) z]; decide⟩
  · exact ⟨1, false, by omega, by omega, e (-1) z, by rw [e (-1) z]; decide⟩
  · exact absurd (e 0 z) h3
  · exact ⟨1, true, by omega, by omega, e 1 z, by rw [e 1 z]; decide⟩
  · exact ⟨2, true, by omega, by omega, e 2 z, by rw [e 2 z]; decide⟩
  · exact ⟨3, true, by omega, by omega, e 3 z, by rw [e 3 z]; decide⟩
theorem sc_piano {nw nb nr e tp tl : Nat} {mt : Nat → Nat → Prop} {fl : Prop} {G : Nat → Nat → Int32} {xw : Int32} {X : Nat → Nat → Int32} {nu : Int64} {Y : Nat → Nat → Int32} (hs : SC nw nb nr e tp tl mt fl G xw X nu Y) {b : Nat} (hb : b < tp) (hb1 : b ≠ 0) : SC nw nb nr e tp tl mt fl G xw (xu X 0 2 (nI b)) nu (xu Y 3 0 (nI b)) := by
  have hX : ∀ j, j ≠ 0 → xu X 0 2 (nI b) j = X j := fun j hj => xu_off hj
  have hX0 : ∀ k, k ≠ 2 → xu X 0 2 (nI b) 0 k = X 0 k := fun k hk => xu_at2 hk
  have hY : ∀ j, j ≠ 3 → xu Y 3 0 (nI b) j = Y j := fun j hj => xu_off hj
  have hz : ∃ a, a < tp ∧ xu Y 3 0 (nI b) 3 0 = nI a ∧ xu X 0 2 (nI b) 0 2 = (if a = 0 then -2 else nI a) := ⟨b, hb, xu_at, by rw [if_neg hb1]; exact xu_at⟩
  generalize xu X 0 2 (nI b) = X' at *
  generalize xu Y 3 0 (nI b) = Y' at *
  unfold SC at hs ⊢
  rw [hX0 0 (by omega), hX0 1 (by omega), hX0 4 (by omega), hX0 14 (by omega), hX 1 (by omega), hX 2 (by omega), hX 3 (by omega), hX 4 (by omega), hX 5 (by omega), hX 6 (by omega), hX 7 (by omega), hX 8 (by omega), hX 9 (by omega), hX 10 (by omega), hX 11 (by omega), hX 12 (by omega), hX 13 (by omega), hY 0 (by omega), hY 1 (by omega), hY 2 (by omega), hY 4 (by omega), hY 5 (by omega), hY 6 (by omega), hY 7 (by omega), hY 8 (by omega), hY 9 (by omega), hY 10 (by omega), hY 11 (by omega), hY 12 (by omega)]
  obtain ⟨z1, z2, z3, z4, z5, z6, z7, z8, z9, z10, z11, z12, z13, z14, z15, z16, z17, z18, z19, z20, z21, z22, z23, z24⟩ := hs
  exact ⟨z1, z2, hz, z4, z5, z6, z7, z8, z9, z10, z11, z12, z13, z14, z15, z16, z17, z18, z19, z20, z21, z22, z23, z24⟩
theorem rs_piano {P q s nw nb nr tp e tl : Nat} {mt : Nat → Nat → Prop} {fl : Prop} {c0 m0 c m : xD} (hr : RS P q s nw nb nr tp e tl mt fl c0 m0 c m) {b : Nat} (hb : b < tp) (hb1 : b ≠ 0) : RS P q s nw nb nr tp e tl mt fl c0 m0 (xu c.1 q 2 (nI b), c.2.1, c.2.2) (xu m.1 122 s (nI b), m.2.1, m.2.2) := by
  obtain ⟨h, hs⟩ := hr
  refine ⟨wf_m1 (wf_c0 h (by omega)) (by omega) (by omega), ?_⟩
  show SC nw nb nr e tp tl mt fl m0.1 (xu m.1 122 s (nI b) 99 53) (vC q (xu c.1 q 2 (nI b))) (c.2.1 q 3) (vM s (xu m.1 122 s (nI b)))
  rw [xu_cell (by omega), vC_xu0, vM_122]
  exact sc_piano hs hb hb1
theorem uns_piano {nw nb tp a : Nat} {G Y Y1 : Nat → Nat → Int32} {v : Int32} (hw : nw ≤ 6) (hb : nb ≤ 8) (h : VE Y1 Y) (ha : a < tp) (ha0 : a ≠ 0) (hy : Y 3 0 = nI a) : UNs nw nb tp G (-1) (nI a) Y (xu Y1 3 0 v) := by
  obtain ⟨a1, a2, a3⟩ := h
  refine ⟨⟨?_, ?_, ?_, ?_, fun i hi => ⟨?_, ?_, ?_, ?_⟩, fun b hb => ?_⟩, Or.inl ⟨rfl, ⟨a, ha, ha0, hy, rfl⟩, fun i hi => ⟨?_, ?_, ?_⟩⟩⟩
  · rw [xu_cell (by omega), a1 0 (by omega)]
  · rw [xu_cell (by omega), a1 1 (by omega)]
  · rw [xu_cell (by omega), a1 2 (by omega)]
  · rw [xu_cell (by omega), a1 4 (by omega)]
  · rw [xu_cell (by omega), a2 6 i (by omega) (by omega) (by omega)]
  · rw [xu_cell (by omega), a2 7 i (by omega) (by omega) (by omega)]
  · rw [xu_cell (by omega), a2 10 i (by omega) (by omega) (by omega)]
  · rw [xu_cell (by omega), a2 11 i (by omega) (by omega) (by omega)]
  · rw [xu_cell (by omega), a3 b (by omega)]
  · rw [xu_cell (by omega), a2 5 i (by omega) (by omega) (by omega)]
  · rw [xu_cell (by omega), a2 8 i (by omega) (by omega) (by omega)]
  · rw [xu_cell (by omega), a2 9 i (by omega) (by omega) (by omega)]
theorem l2_push : L2_push Rel := by
  intro d a1 hd
  refine co_L2 (fC := f_X9_push shA 0 a1) (fM := f_X10_push shA 99 a1) (co_do hd ?_)
  intro P nw nb nr tp md m hm hQ
  have hp := pr_pl (rq_pr hQ)
  have hw6 := pr_w6 (rq_pr hQ); have hb8 := pr_b8 (rq_pr hQ); have ht60 := pr_t60 (rq_pr hQ)
  have hRc := rq_rc hQ; have hRm := rq_rm hQ
  obtain ⟨a, ha, ya, xa⟩ := sc_pi (rq_sn hQ)
  have ya' : m.1 122 0 = nI a := by rw [← ya]; exact rM_122
  have xa : d.1 45 2 = _ := xa
  unfold f_X10_push
  rw [t0_e, ← hm]
  unfold f_X9_push k_X9_push_27 k_X10_push_29
  by_cases c1 : a1 < -3
  · rw [if_pos c1, if_pos c1]; exact do_same hQ _
  rw [if_neg c1, if_neg c1]
  by_cases c2 : 3 < a1
  · rw [if_pos c2, if_pos c2]; exact do_same hQ _
  rw [if_neg c2, if_neg c2]
  by_cases c3 : a1 = 0
  · rw [if_pos c3, if_pos c3]; exact do_same hQ _
  rw [if_neg c3, if_neg c3, g0_8 hQ, Option.bind_some, gI_of sA_45, Option.bind_some, gR_of sA_99 (rf_99_38 hRm), Option.bind_some, a0_4, Option.bind_some, ya']
  by_cases z0 : a = 0
  · rw [xa, if_pos z0, if_pos rfl, z0, nI_0, if_pos rfl]; exact do_same hQ _
  rw [if_neg z0] at xa
  rw [xa, if_neg (nI_ne_m2 (by omega)), if_neg (show ¬ nI a = 0 from fun z => z0 ((nI_eq (b := 0) (show a < 2 ^ 31 by omega) (by omega)).mp z))]
  obtain ⟨n, w, n1, n3, rfl, hw⟩ := pu2 c1 c2 c3
  have eC := pushC_loop hQ n3 (w := w) xa n 0 xF (by omega) (by unfold xF; omega)
  have eM := pushM_loop hQ n3 (w := w) (x := nI a) n 0 xF (by omega) (by unfold xF; omega)
  have eC' : (if 0 ≤ nI n * (if w then 1 else -1) then k_X9_push_38 shA 0 (nI n * (if w then 1 else -1)) 1 d else k_X9_push_38 shA 0 (nI n * (if w then 1 else -1)) (-1) d) = if allR (fun i => frs nw tp d (nI a + nI (i + 1) * (if w then 1 else -1))) 0 n then k_X9_push_100 shA 0 (nI n * (if w then 1 else -1)) d else some (-2, d) := by
    unfold k_X9_push_38
    cases w with
    | true => rw [if_pos (hw.mpr rfl)]; exact eC
    | false => rw [if_neg (fun z => by have := hw.mp z; exact absurd this (by decide))]; exact eC
  have eM' : f_X10_canPush shA 99 (nI a) (nI n * (if w then 1 else -1)) m = some (if allR (fun i => frs nw tp d (nI a + nI (i + 1) * (if w then 1 else -1))) 0 n then 1 else 0, m) := by
    unfold f_X10_canPush k_X10_canPush_9
    cases w with
    | true => rw [if_pos (hw.mpr rfl)]; exact eM
    | false => rw [if_neg (fun z => by have := hw.mp z; exact absurd this (by decide))]; exact eM
  rw [eC', Option.bind_some, a0_4, Option.bind_some, ya', on_of sA_99, eM', Option.bind_some]
  dsimp only
  cases hA : allR (fun i => frs nw tp d (nI a + nI (i + 1) * (if w then 1 else -1))) 0 n with
  | false => rw [if_neg (by decide), if_pos (show (if false = true then (1 : Int32) else 0) = 0 by decide)]; exact do_same hQ _
  | true =>
    rw [if_pos rfl, if_neg (show ¬ (if true = true then (1 : Int32) else 0) = 0 by decide)]
    have hL : frs nw tp d (nI a + nI (0 + (n - 1) + 1) * (if w then 1 else -1)) = true := allR_last (t := fun i => frs nw tp d (nI a + nI (i + 1) * (if w then 1 else -1))) (n - 1) 0 (by rw [show n - 1 + 1 = n by omega]; exact hA)
    rw [show 0 + (n - 1) + 1 = n by omega] at hL
    unfold frs at hL
    rw [Bool.and_eq_true, decide_eq_true_iff] at hL
    obtain ⟨⟨l1, l2⟩, _⟩ := hL
    generalize hv : nI n * (if w then 1 else -1) = v at l1 l2 ⊢
    obtain ⟨b, hb, eb⟩ := nI_of (x := nI a + v) (fun z => l1 (Int32.lt_trans z (by decide)))
    have hb1 : b ≠ 0 := fun z => by rw [eb, z] at l1; exact l1 (by decide)
    have hbt : b < tp := by
      rcases Nat.lt_or_ge b tp with z | z
      · exact z
      · rw [eb] at l2; exact absurd l2 (nI_nlt z hb)
    obtain ⟨c1, m1, k1, k2, k3, k4, k5, k6, k7⟩ := rq_op hQ (-1) (nI a)
    have hr := rs_piano k3 hbt hb1
    have hnew : UNs nw nb tp m.1 (-1) (nI a) (vM 0 m.1) (vM 0 (xu m1.1 122 0 (nI b))) := by
      rw [vM_122]
      exact uns_piano hw6 hb8 k5 ha z0 ya
    obtain ⟨f1, f2, f3⟩ := k7 _ _ hr hnew
    have hRm1 := wf_rm k3.1
    have hRc1 := wf_rc k3.1
    have xa1 : c1.1 45 2 = nI a := by rw [k4 45 (by omega) (by omega) (by omega)]; exact xa
    have ya1 : m1.1 122 0 = nI a := (k5.1 3 (by omega)).trans ya
    refine ⟨nI b, (xu c1.1 45 2 (nI b), c1.2.1, c1.2.2), (xu m1.1 122 0 (nI b), m1.2.1, m1.2.2), ?_, ?_, f1, f2, f3⟩
    · have g8 : xgR 9 shA (xu c1.1 45 2 (nI b), c1.2.1, c1.2.2) 0 8 = some 45 := gR_of sA_0 (rf_0_8 hRc1)
      unfold k_X9_push_100
      rw [g0_13 hQ, Option.bind_some, g0_8 hQ, Option.bind_some, gI_of sA_45, Option.bind_some, xa, on_of sA_89, k1, Option.bind_some, g0R_8 hRc1, Option.bind_some, gI_of sA_45, Option.bind_some, xa1, eb, pI_of sA_45 rfl, Option.bind_some, g8, Option.bind_some, gI_of sA_45, Option.bind_some]
      dsimp only
      rw [xu_at]
    · have g38 : xgR 10 shA (xu m1.1 122 0 (nI b), m1.2.1, m1.2.2) 99 38 = some 122 := gR_of sA_99 (rf_99_38 hRm1)
      have s0 : xsI .int shA m1 122 (0 : Int32) (nI b) = some (xu m1.1 122 0 (nI b), m1.2.1, m1.2.2) := sI_of (i := 0) sA_122 (by omega) (by omega)
      rw [on_of sA_99, k2, Option.bind_some, gR_of sA_99 (rf_99_38 hRm1), Option.bind_some, a0_4, Option.bind_some, ya1, eb, s0, Option.bind_some, g38, Option.bind_some, a0_4, Option.bind_some]
      dsimp only
      rw [xu_at]

/-! LEVEL 2: carry -/
def cdN (a x : Nat) : Nat := (x - a + 2) / 3
def cnn (fr : Nat → Bool) (a x : Nat) : Prop := ∀ y, a < y → y ≤ x → fr y = true
def DD (a T x2 j x : Nat) : Prop := a + 3 * T < x2 ∨ (a + 3 * T = x2 ∧ x + 3 < x2 + j)
def IT (fr : Nat → Bool) (a tp T : Nat) (D : Nat → Prop) (p : Nat → Int32) : Prop := (∀ x, a ≤ x → x < tp → (cnn fr a x → cdN a x ≤ T → p x = nI (cdN a x)) ∧ (cnn fr a x → cdN a x = T + 1 → (p x = -1 ∨ p x = nI (T + 1)) ∧ (D x → p x = nI (T + 1))) ∧ (cnn fr a x → T + 1 < cdN a x → p x = -1) ∧ (¬ cnn fr a x → p x = -1)) ∧ ∀ x, 1 ≤ x → x < a → p x = -1 ∨ ∃ t, 1 ≤ t ∧ t ≤ T + 1 ∧ p x = nI t
theorem it_mono {fr : Nat → Bool} {a tp T : Nat} {D D' : Nat → Prop} {p : Nat → Int32} (h : IT fr a tp T D p) (hD : ∀ x, a ≤ x → x < tp → cnn fr a x → cdN a x = T + 1 → D' x → D x ∨ p x = nI (T + 1)) : IT fr a tp T D' p := by
  refine ⟨fun x x1 x2 => ?_, h.2⟩
  obtain ⟨z1, z2, z3, z4⟩ := h.1 x x1 x2
  exact ⟨z1, fun c1 c2 => ⟨(z2 c1 c2).1, fun hd => (hD x x1 x2 c1 c2 hd).elim (z2 c1 c2).2 id⟩, z3, z4⟩
theorem it_T {fr : Nat → Bool} {a tp T x2 : Nat} {D : Nat → Prop} {p : Nat → Int32} (h : IT fr a tp T D p) (hT : T < 64) (h1 : a ≤ x2) (h2 : x2 < tp) (hp : p x2 = nI T) : cnn fr a x2 ∧ cdN a x2 = T := by
  obtain ⟨z1, z2, z3, z4⟩ := h.1 x2 h1 h2
  by_cases c : cnn fr a x2
  · refine ⟨c, ?_⟩
    rcases Nat.lt_trichotomy (cdN a x2) (T + 1) with y | y | y
    · have w := z1 c (by omega)
      rw [hp] at w
      have := (nI_eq (by omega) (by omega)).mp w
      omega
    · rcases (z2 c y).1 with w | w
      · rw [hp] at w; exact absurd w (nI_ne_m1 (by omega))
      · rw [hp] at w
        have := (nI_eq (by omega) (by omega)).mp w
        omega
    · have w := z3 c y; rw [hp] at w; exact absurd w (nI_ne_m1 (by omega))
  · have w := z4 c; rw [hp] at w; exact absurd w (nI_ne_m1 (by omega))
theorem it_set {fr : Nat → Bool} {a tp T x2 y : Nat} {D : Nat → Prop} {p p' : Nat → Int32} (h : IT fr a tp T D p) (ha : 1 ≤ a) (ht : tp ≤ 60) (hT : T < 64) (h1 : 1 ≤ x2) (h2 : x2 < tp) (hp : p x2 = nI T) (hy : (x2 < y ∧ y ≤ x2 + 3 ∧ ∀ z, x2 < z → z ≤ y → fr z = true) ∨ y < x2) (hyt : y < tp) (hpy : p y = -1) (hp' : ∀ i, p' i = if i = y then nI (T + 1) else p i) : IT fr a tp T (fun x => D x ∨ x = y) p' := by
  have key : a ≤ y → cnn fr a y ∧ cdN a y = T + 1 := by
    intro hay
    have ney : ∀ n, n < 2 ^ 31 → p y ≠ nI n := fun n hn z => by rw [hpy] at z; exact nI_ne_m1 hn z.symm
    obtain ⟨w1, w2, w3, w4⟩ := h.1 y hay hyt
    by_cases c : a ≤ x2
    · obtain ⟨i1, i2⟩ := it_T h hT c h2 hp
      unfold cdN at i2
      rcases hy with ⟨y1, y2, y3⟩ | y1
      · have cy : cnn fr a y := fun z z1 z2 => by
          rcases Nat.lt_or_ge x2 z with q | q
          · exact y3 z q z2
          · exact i1 z z1 q
        refine ⟨cy, ?_⟩
        rcases Nat.lt_or_ge T (cdN a y) with q | q
        · unfold cdN at q ⊢; omega
        · exact absurd (w1 cy q) (ney _ (by omega))
      · have cy : cnn fr a y := fun z z1 z2 => i1 z z1 (by omega)
        exact absurd (w1 cy (by unfold cdN; omega)) (ney _ (by unfold cdN; omega))
    · rcases hy with ⟨y1, y2, y3⟩ | y1
      · rcases h.2 x2 h1 (by omega) with q | ⟨t, t1, t2, t3⟩
        · rw [hp] at q; exact absurd q (nI_ne_m1 (by omega))
        · rw [hp] at t3
          have := (nI_eq (show T < 2 ^ 31 by omega) (show t < 2 ^ 31 by omega)).mp t3
          have cy : cnn fr a y := fun z z1 z2 => y3 z (by omega) z2
          exact absurd (w1 cy (by unfold cdN; omega)) (ney _ (by unfold cdN; omega))
      · omega
  refine ⟨fun x x1 x2' => ?_, fun x x1 x2' => ?_⟩
  · rw [hp' x]
    by_cases e : x = y
    · subst e
      obtain ⟨k1, k2⟩ := key x1
      rw [if_pos rfl]
      exact ⟨fun _ q => by omega, fun _ _ => ⟨Or.inr rfl, fun _ => rfl⟩, fun _ q => by omega, fun q => absurd k1 q⟩
    · rw [if_neg e]
      obtain ⟨z1, z2, z3, z4⟩ := h.1 x x1 x2'
      exact ⟨z1, fun c1 c2 => ⟨(z2 c1 c2).1, fun hd => hd.elim (z2 c1 c2).2 (fun q => absurd q e)⟩, z3, z4⟩
  · rw [hp' x]
    by_cases e : x = y
    · rw [if_pos e]; exact Or.inr ⟨T + 1, by omega, by omega, rfl⟩
    · rw [if_neg e]; exact h.2 x x1 x2'
theorem rq_132 {P nw nb nr tp : Nat} {c m : xD} (h : RQ P nw nb nr tp c m) {J : Nat → Nat → Int32} (hJ : ∀ q, q ≠ 132 → J q = m.1 q) : RQ P nw nb nr tp c (J, m.2.1, m.2.2) := by
  have hp := pr_pl (rq_pr h)
  have hw6 := pr_w6 (rq_pr h); have hb8 := pr_b8 (rq_pr h); have hr12 := pr_r12 (rq_pr h)
  have v : ∀ s, VE (vM s J) (vM s m.1) := fun s => ve_rows (fun k k1 k2 => hJ k (by omega))
  have hG : ∀ k, 101 ≤ k → k ≤ 116 → J k = m.1 k := fun k k1 k2 => hJ k (by omega)
  have g51 : J 99 51 = -1 := by rw [hJ 99 (by omega)]; exact rq_po h
  have scx : ∀ q s, SC nw nb nr 0 tp 0 (fun _ _ => True) True m.1 (-1) (vC q c.1) (c.2.1 q 3) (vM s m.1) → SC nw nb nr 0 tp 0 (fun _ _ => True) True J (-1) (vC q c.1) (c.2.1 q 3) (vM s J) := by
    intro q s hs
    exact sc_ve hs hw6 hb8 hr12 (by rw [hJ 99 (by omega)]) (rq_po h) g51 rfl hG (fun k hk => rfl) (fun j j1 j2 k hk => rfl) (v s)
  refine rq_build h rfl rfl (fun _ _ _ _ => rfl) (fun _ _ => rfl) (fun k k1 k2 k3 => hJ k (by omega)) (fun k _ _ _ _ _ _ _ _ _ _ => by dsimp only; rw [hJ 99 (by omega)]) (by dsimp only; rw [hJ 99 (by omega)]; exact rq_tw h) g51 (by dsimp only; rw [hJ 99 (by omega)]; exact rq_ew h) (scx 45 0 (rq_sn h)) ?_ ?_
  · dsimp only
    rw [hJ 99 (by omega)]
    rcases rq_im h with z | ⟨z1, z2, z3⟩
    · exact Or.inl z
    · exact Or.inr ⟨z1, z2, scx 59 2 z3⟩
  · obtain ⟨u, u1, u2, u3, u4⟩ := rq_un h
    refine ⟨u, u1, u2, by dsimp only; rw [hJ 99 (by omega)]; exact u3, fun k hk => ?_⟩
    exact ve_uns hw6 hb8 (hJ 103 (by omega)) (u4 k hk) (v _) (v _)
theorem allR_iff {t : Nat → Bool} : ∀ n i, allR t i n = true ↔ ∀ l, i ≤ l → l < i + n → t l = true := by
  intro n
  induction n with
  | zero => intro i; exact ⟨fun _ l l1 l2 => by omega, fun _ => rfl⟩
  | succ n ih =>
    intro i
    rw [allR, Bool.and_eq_true, ih (i + 1)]
    refine ⟨fun ⟨z1, z2⟩ l l1 l2 => ?_, fun z => ⟨z i (by omega) (by omega), fun l l1 l2 => z l (by omega) (by omega)⟩⟩
    by_cases e : l = i
    · rw [e]; exact z1
    · exact z2 l (by omega) (by omega)
theorem cp_1 : ∀ n : Fin 4, 1 ≤ n.val → 0 ≤ nI n.val * (if true then 1 else (-1 : Int32)) ∧ ¬ 0 ≤ nI n.val * (if false then 1 else (-1 : Int32)) := by decide +kernel
theorem e_canPush {P nw nb nr tp : Nat} {d m : xD} (hQ : RQ P nw nb nr tp d m) {n : Nat} (n1 : 1 ≤ n) (n3 : n ≤ 3) (w : Bool) (x : Int32) : f_X10_canPush shA 99 x (nI n * (if w then 1 else -1)) m = some (if allR (fun i => frs nw tp d (x + nI (i + 1) * (if w then 1 else -1))) 0 n then 1 else 0, m) := by
  have eM := pushM_loop hQ n3 (w := w) (x := x) n 0 xF (by omega) (by unfold xF; omega)
  have z := cp_1 ⟨n, by omega⟩ n1
  unfold f_X10_canPush k_X10_canPush_9
  cases w with
  | true => rw [if_pos z.1]; exact eM
  | false => rw [if_neg z.2]; exact eM
theorem frs_lt {nw tp y : Nat} {d : xD} (hy : y < 2 ^ 31) (h : frs nw tp d (nI y) = true) : y < tp := by
  unfold frs at h
  rw [Bool.and_eq_true, decide_eq_true_iff] at h
  rcases Nat.lt_or_ge y tp with z | z
  · exact z
  · exact absurd h.1.2 (nI_nlt z hy)
theorem cp_2 : ∀ x : Fin 61, ∀ j : Fin 7, (3 ≤ x.val + j.val → nI x.val + (nI j.val + (-3)) = nI (x.val + j.val - 3)) ∧ (j.val < 3 → nI j.val + (-3) = nI (3 - j.val) * (if false then 1 else (-1 : Int32)) ∧ (¬ nI x.val + nI (3 - j.val) * (if false then 1 else (-1 : Int32)) < 1 → 3 - j.val < x.val)) ∧ (3 < j.val → nI j.val + (-3) = nI (j.val - 3) * (if true then 1 else (-1 : Int32))) ∧ (¬ (3 : Int32) < nI j.val + (-3)) ∧ (nI j.val + (-3) + 1 = nI (j.val + 1) + (-3)) ∧ (nI j.val + (-3) = (0 : Int32) ↔ j.val = 3) := by decide +kernel
/-- up or down from x2: what canPush says -/
theorem canP {P nw nb nr tp : Nat} {d m : xD} (hQ : RQ P nw nb nr tp d m) {x2 j : Nat} (h2 : x2 < tp) (hj : j ≤ 6) (hj3 : j ≠ 3) : ∃ b : Bool, f_X10_canPush shA 99 (nI x2) (nI j + (-3)) m = some (if b then 1 else 0, m) ∧ (b = true → 1 ≤ x2 → 3 ≤ x2 + j ∧ x2 + j - 3 < tp ∧ ((x2 < x2 + j - 3 ∧ x2 + j - 3 ≤ x2 + 3 ∧ ∀ z, x2 < z → z ≤ x2 + j - 3 → frs nw tp d (nI z) = true) ∨ x2 + j - 3 < x2)) ∧ (3 < j → (∀ z, x2 < z → z ≤ x2 + j - 3 → frs nw tp d (nI z) = true) → b = true) := by
  have ht60 := pr_t60 (rq_pr hQ)
  obtain ⟨q1, q2, q3, q4, q5, q6⟩ := cp_2 ⟨x2, by omega⟩ ⟨j, by omega⟩
  dsimp only at q1 q2 q3 q4 q5 q6
  by_cases c : j < 3
  · obtain ⟨r1, r2⟩ := q2 c
    refine ⟨_, by rw [r1]; exact e_canPush hQ (n := 3 - j) (by omega) (by omega) false (nI x2), fun hb h1 => ?_, fun z => by omega⟩
    have z := allR_last (t := fun i => frs nw tp d (nI x2 + nI (i + 1) * (if false then 1 else -1))) (3 - j - 1) 0 (by rw [show 3 - j - 1 + 1 = 3 - j by omega]; exact hb)
    rw [show 0 + (3 - j - 1) + 1 = 3 - j by omega] at z
    unfold frs at z
    rw [Bool.and_eq_true, decide_eq_true_iff] at z
    have := r2 z.1.1
    exact ⟨by omega, by omega, Or.inr (by omega)⟩
  · have r1 := q3 (by omega)
    have e := e_canPush hQ (n := j - 3) (by omega) (by omega) true (nI x2)
    rw [← r1] at e
    have hf : ∀ i, frs nw tp d (nI x2 + nI (i + 1) * (if true then 1 else -1)) = frs nw tp d (nI (x2 + (i + 1))) := fun i => by
      rw [if_pos rfl, Int32.mul_one, nI_add]
    refine ⟨_, e, fun hb h1 => ?_, fun _ hz => ?_⟩
    · have z := (allR_iff _ _).mp hb
      have all : ∀ z, x2 < z → z ≤ x2 + j - 3 → frs nw tp d (nI z) = true := fun y y1 y2 => by
        have w := z (y - x2 - 1) (by omega) (by omega)
        rw [hf, show x2 + (y - x2 - 1 + 1) = y by omega] at w
        exact w
      exact ⟨by omega, frs_lt (by omega) (all _ (by omega) (by omega)), Or.inl ⟨by omega, by omega, all⟩⟩
    · refine (allR_iff _ _).mpr fun l l1 l2 => ?_
      rw [hf]
      exact hz _ (by omega) (by omega)
theorem carry_in {P nw nb nr tp : Nat} {d m : xD} (hQ : RQ P nw nb nr tp d m) {a T x2 : Nat} (ha : 1 ≤ a) (hT : T < 64) (h1 : 1 ≤ x2) (h2 : x2 < tp) (rec53 : Nat → Int32 → xD → Option (Int32 × xD)) (rec61 : Nat → Int32 → Int32 → xD → Option (Int32 × xD)) : ∀ k j J F, j + k = 7 → k < F → (∀ q, q ≠ 132 → J q = m.1 q) → IT (fun y => frs nw tp d (nI y)) a tp T (DD a T x2 j) (J 132) → ∃ J', (∀ q, q ≠ 132 → J' q = m.1 q) ∧ IT (fun y => frs nw tp d (nI y)) a tp T (DD a T (x2 + 1) 0) (J' 132) ∧ xloop (fun _ _ _ _ _ => none) (b_X10_carry_74 shA rec53 rec61) F 99 (nI T) (nI x2) (nI j + (-3)) (J, m.2.1, m.2.2) = rec61 99 (nI T) (nI (x2 + 1)) (J', m.2.1, m.2.2) := by
  have ht60 := pr_t60 (rq_pr hQ)
  intro k
  induction k with
  | zero =>
    intro j J F h3 h4 hJ hI
    obtain ⟨F, rfl⟩ : ∃ G, F = G + 1 := ⟨F - 1, by omega⟩
    refine ⟨J, hJ, it_mono hI (fun x x1 x2' c1 c2 hd => Or.inl ?_), ?_⟩
    · unfold DD at hd ⊢; unfold cdN at c2; omega
    · rw [loop_s, b_X10_carry_74, show j = 7 by omega, if_pos (by decide), k_X10_carry_131, nI_1]
  | succ k ih =>
    intro j J F h3 h4 hJ hI
    obtain ⟨F, rfl⟩ : ∃ G, F = G + 1 := ⟨F - 1, by omega⟩
    obtain ⟨q1, q2, q3, q4, q5, q6⟩ := cp_2 ⟨x2, by omega⟩ ⟨j, by omega⟩
    dsimp only at q1 q2 q3 q4 q5 q6
    have hQ' := rq_132 hQ hJ
    have hRm : RefOK (J, m.2.1, m.2.2) P := rq_rm hQ'
    rw [loop_s, b_X10_carry_74, if_neg q4, gR_of sA_99 (rf_99_56 hRm), Option.bind_some, aI_of sA_132 (by omega) (by omega), Option.bind_some]
    dsimp only
    unfold k_X10_carry_125 k_X10_carry_131
    rw [q5, nI_1]
    by_cases c1 : J 132 x2 = nI T
    · rw [if_pos c1]
      by_cases c2 : j = 3
      · rw [if_pos (q6.mpr c2)]
        refine ih (j + 1) J F (by omega) (by omega) hJ (it_mono hI (fun x x1 x2' e1 e2 hd => Or.inl ?_))
        unfold DD at hd ⊢; unfold cdN at e2; omega
      rw [if_neg (fun z => c2 (q6.mp z))]
      obtain ⟨b, e1, e2, e3⟩ := canP hQ' h2 (show j ≤ 6 by omega) c2
      rw [on_of sA_99, e1, Option.bind_some]
      dsimp only
      cases b with
      | false =>
        rw [if_pos (by decide)]
        refine ih (j + 1) J F (by omega) (by omega) hJ (it_mono hI (fun x x1 x2' g1 g2 hd => ?_))
        by_cases c3 : a + 3 * T = x2 ∧ x + 3 = x2 + j
        · unfold cdN at g2
          have := e3 (by omega) (fun z z1 z2 => g1 z (by omega) (by omega))
          exact absurd this (by decide)
        · refine Or.inl ?_
          unfold DD at hd ⊢; omega
      | true =>
        obtain ⟨y1, y2, y3⟩ := e2 rfl h1
        rw [if_neg (by decide), gR_of sA_99 (rf_99_56 hRm), Option.bind_some, q1 y1, aI_of sA_132 (by omega) (by omega), Option.bind_some]
        dsimp only
        by_cases c4 : J 132 (x2 + j - 3) = -1
        · rw [if_pos c4, Option.bind_some, sI_of sA_132 (by omega) (by omega), Option.bind_some]
          dsimp only
          have hS := it_set (p' := xu J 132 (x2 + j - 3) (nI (T + 1)) 132) hI ha ht60 hT h1 h2 c1 y3 y2 c4 (fun i => xu_is)
          refine ih (j + 1) _ F (by omega) (by omega) (fun q hq => by rw [xu_off hq]; exact hJ q hq) (it_mono hS (fun x x1 x2' g1 g2 hd => Or.inl ?_))
          by_cases c5 : x = x2 + j - 3
          · exact Or.inr c5
          · refine Or.inl ?_
            unfold DD at hd ⊢; omega
        · rw [if_neg c4]
          refine ih (j + 1) J F (by omega) (by omega) hJ (it_mono hI (fun x x1 x2' g1 g2 hd => ?_))
          by_cases c5 : x = x2 + j - 3
          · subst c5
            exact Or.inr (((hI.1 _ x1 x2').2.1 g1 g2).1.elim (fun z => absurd z c4) id)
          · refine Or.inl ?_
            unfold DD at hd ⊢; omega
    · rw [if_neg c1]
      refine ⟨J, hJ, it_mono hI (fun x x1 x2' g1 g2 hd => ?_), by rw [nI_1]⟩
      by_cases c5 : a + 3 * T = x2
      · unfold cdN at g2
        have z := (hI.1 x2 (by omega) h2).1 (fun y z1 z2 => g1 y z1 (by omega)) (by unfold cdN; omega)
        rw [show cdN a x2 = T by unfold cdN; omega] at z
        exact absurd z c1
      · refine Or.inl ?_
        unfold cdN at g2
        unfold DD at hd ⊢; omega
theorem carry_mid {P nw nb nr tp : Nat} {d m : xD} (hQ : RQ P nw nb nr tp d m) {a T : Nat} (ha : 1 ≤ a) (hT : T < 64) (rec53 : Nat → Int32 → xD → Option (Int32 × xD)) : ∀ k x2 J F, x2 + k = tp → k < F → 1 ≤ x2 → (∀ q, q ≠ 132 → J q = m.1 q) → IT (fun y => frs nw tp d (nI y)) a tp T (DD a T x2 0) (J 132) → ∃ J', (∀ q, q ≠ 132 → J' q = m.1 q) ∧ IT (fun y => frs nw tp d (nI y)) a tp T (DD a T tp 0) (J' 132) ∧ xloop (fun _ _ _ _ => none) (b_X10_carry_61 shA rec53) F 99 (nI T) (nI x2) (J, m.2.1, m.2.2) = rec53 99 (nI (T + 1)) (J', m.2.1, m.2.2) := by
  have ht60 := pr_t60 (rq_pr hQ)
  intro k
  induction k with
  | zero =>
    intro x2 J F h3 h4 h1 hJ hI
    obtain ⟨F, rfl⟩ : ∃ G, F = G + 1 := ⟨F - 1, by omega⟩
    have hQ' := rq_132 hQ hJ
    have hRm : RefOK (J, m.2.1, m.2.2) P := rq_rm hQ'
    have mt : (J, m.2.1, m.2.2).1 101 0 = nI tp := p0_mT (rq_pr hQ')
    have e : x2 = tp := by omega
    subst e
    refine ⟨J, hJ, hI, ?_⟩
    rw [loop_s, b_X10_carry_61, gR_of sA_99 (rf_99_3 hRm), Option.bind_some, aN_0, Option.bind_some, mt, if_pos (nI_le (by omega) (by omega)), k_X10_carry_137, nI_1]
  | succ k ih =>
    intro x2 J F h3 h4 h1 hJ hI
    obtain ⟨F, rfl⟩ : ∃ G, F = G + 1 := ⟨F - 1, by omega⟩
    have hQ' := rq_132 hQ hJ
    have hRm : RefOK (J, m.2.1, m.2.2) P := rq_rm hQ'
    have mt : (J, m.2.1, m.2.2).1 101 0 = nI tp := p0_mT (rq_pr hQ')
    obtain ⟨J1, j1, j2, j3⟩ := carry_in hQ ha hT h1 (show x2 < tp by omega) rec53 (xloop (fun _ _ _ _ => none) (b_X10_carry_61 shA rec53) F) 7 0 J xF (by omega) (by unfold xF; omega) hJ hI
    obtain ⟨J2, k1, k2, k3⟩ := ih (x2 + 1) J1 F (by omega) (by omega) (by omega) j1 j2
    refine ⟨J2, k1, k2, ?_⟩
    rw [loop_s, b_X10_carry_61, gR_of sA_99 (rf_99_3 hRm), Option.bind_some, aN_0, Option.bind_some, mt, if_neg (nI_ge (by omega) (by omega)), ← k3]
    exact j3
theorem it_next {fr : Nat → Bool} {a tp T : Nat} {p : Nat → Int32} (ha : 1 ≤ a) (h : IT fr a tp T (DD a T tp 0) p) : IT fr a tp (T + 1) (DD a (T + 1) 1 0) p := by
  refine ⟨fun x x1 x2 => ?_, fun x x1 x2 => ?_⟩
  · obtain ⟨z1, z2, z3, z4⟩ := h.1 x x1 x2
    refine ⟨fun c1 c2 => ?_, fun c1 c2 => ⟨Or.inl (z3 c1 (by omega)), fun hd => ?_⟩, fun c1 c2 => z3 c1 (by omega), z4⟩
    · by_cases e : cdN a x ≤ T
      · exact z1 c1 e
      · have e1 : cdN a x = T + 1 := by omega
        rw [e1]
        exact (z2 c1 e1).2 (Or.inl (by unfold cdN at e1; omega))
    · unfold DD at hd; omega
  · rcases h.2 x x1 x2 with q | ⟨t, t1, t2, t3⟩
    · exact Or.inl q
    · exact Or.inr ⟨t, t1, by omega, t3⟩
theorem carry_out {P nw nb nr tp : Nat} {d m : xD} (hQ : RQ P nw nb nr tp d m) {a : Nat} (ha : 1 ≤ a) : ∀ k T J F, T + k = 64 → k < F → (∀ q, q ≠ 132 → J q = m.1 q) → IT (fun y => frs nw tp d (nI y)) a tp T (DD a T 1 0) (J 132) → ∃ J', (∀ q, q ≠ 132 → J' q = m.1 q) ∧ IT (fun y => frs nw tp d (nI y)) a tp 64 (DD a 64 1 0) (J' 132) ∧ xloop (fun _ _ _ => none) (b_X10_carry_53 shA) F 99 (nI T) (J, m.2.1, m.2.2) = k_X10_carry_143 shA 99 (J', m.2.1, m.2.2) := by
  have ht60 := pr_t60 (rq_pr hQ); have ht2 := pr_t2 (rq_pr hQ)
  intro k
  induction k with
  | zero =>
    intro T J F h3 h4 hJ hI
    obtain ⟨F, rfl⟩ : ∃ G, F = G + 1 := ⟨F - 1, by omega⟩
    have e : T = 64 := by omega
    subst e
    refine ⟨J, hJ, hI, ?_⟩
    rw [loop_s, b_X10_carry_53, if_pos (show (64 : Int32) ≤ nI 64 by decide)]
  | succ k ih =>
    intro T J F h3 h4 hJ hI
    obtain ⟨F, rfl⟩ : ∃ G, F = G + 1 := ⟨F - 1, by omega⟩
    obtain ⟨J1, j1, j2, j3⟩ := carry_mid hQ ha (show T < 64 by omega) (xloop (fun _ _ _ => none) (b_X10_carry_53 shA) F) (tp - 1) 1 J xF (by omega) (by unfold xF; omega) (by omega) hJ hI
    obtain ⟨J2, k1, k2, k3⟩ := ih (T + 1) J1 F (by omega) (by omega) j1 (it_next ha j2)
    refine ⟨J2, k1, k2, ?_⟩
    rw [loop_s, b_X10_carry_53, if_neg (show ¬ (64 : Int32) ≤ nI T from nI_ge (b := 64) (by omega) (by omega)), ← k3]
    exact j3
theorem carry_ini {P nw nb nr tp : Nat} {d m : xD} (hQ : RQ P nw nb nr tp d m) {a : Nat} (ha : a < 64) (hp : m.1 122 0 = nI a) : ∀ k i J F, i + k = 64 → k < F → (∀ q, q ≠ 132 → J q = m.1 q) → (∀ l, l < i → J 132 l = if l = a then 0 else -1) → ∃ J', (∀ q, q ≠ 132 → J' q = m.1 q) ∧ (∀ l, l < 64 → J' 132 l = if l = a then 0 else -1) ∧ xloop (fun _ _ _ => none) (b_X10_carry_18 shA) F 99 (nI i) (J, m.2.1, m.2.2) = k_X10_carry_51 shA 99 (J', m.2.1, m.2.2) := by
  intro k
  induction k with
  | zero =>
    intro i J F h3 h4 hJ hI
    obtain ⟨F, rfl⟩ : ∃ G, F = G + 1 := ⟨F - 1, by omega⟩
    have e : i = 64 := by omega
    subst e
    refine ⟨J, hJ, hI, ?_⟩
    rw [loop_s, b_X10_carry_18, if_pos (show (64 : Int32) ≤ nI 64 by decide)]
  | succ k ih =>
    intro i J F h3 h4 hJ hI
    obtain ⟨F, rfl⟩ : ∃ G, F = G + 1 := ⟨F - 1, by omega⟩
    have hRm : RefOK (J, m.2.1, m.2.2) P := rq_rm (rq_132 hQ hJ)
    have hp' : (J, m.2.1, m.2.2).1 122 0 = nI a := by dsimp only; rw [hJ 122 (by omega)]; exact hp
    obtain ⟨J1, j1, j2, j3⟩ := ih (i + 1) (xu J 132 i (if i = a then 0 else -1)) F (by omega) (by omega) (fun q hq => by rw [xu_off hq]; exact hJ q hq) (fun l hl => by
      rw [xu_is]
      by_cases e : l = i
      · rw [if_pos e, e]
      · rw [if_neg e]; exact hI l (by omega))
    refine ⟨J1, j1, j2, ?_⟩
    rw [loop_s, b_X10_carry_18, if_neg (show ¬ (64 : Int32) ≤ nI i from nI_ge (b := 64) (by omega) (by omega)), gR_of sA_99 (rf_99_56 hRm), Option.bind_some, gR_of sA_99 (rf_99_38 hRm), Option.bind_some, a0_4, Option.bind_some, hp', ← j3]
    unfold k_X10_carry_44
    by_cases e : i = a
    · rw [if_pos (show nI i = nI a by rw [e]), if_pos e, sI_of sA_132 (by omega) (by omega), Option.bind_some, nI_1]
    · rw [if_neg (fun z => e ((nI_eq (by omega) (by omega)).mp z)), if_neg e, sI_of sA_132 (by omega) (by omega), Option.bind_some, nI_1]
theorem carryC_loop {P nw nb nr tp : Nat} {d m : xD} (hQ : RQ P nw nb nr tp d m) : ∀ k i F, i + k = tp → 1 ≤ i → k < F → ((∀ y, i ≤ y → y < tp → frs nw tp d (nI y) = true) ∧ xloop (fun _ _ _ => none) (b_X9_carry_24 shA) F 0 (nI i) d = k_X9_carry_55 shA 0 d) ∨ ((∃ y, i ≤ y ∧ y < tp ∧ frs nw tp d (nI y) = false) ∧ xloop (fun _ _ _ => none) (b_X9_carry_24 shA) F 0 (nI i) d = some (-2, d)) := by
  have hp := pr_pl (rq_pr hQ)
  have ht60 := pr_t60 (rq_pr hQ)
  have ct : d.1 P 0 = nI tp := pr_cT (rq_pr hQ)
  intro k
  induction k with
  | zero =>
    intro i F h1 h0 h2
    obtain ⟨F, rfl⟩ : ∃ G, F = G + 1 := ⟨F - 1, by omega⟩
    refine Or.inl ⟨fun y y1 y2 => by omega, ?_⟩
    rw [loop_s, b_X9_carry_24, g0_4 hQ, Option.bind_some, gI_of (sp_0 hp), Option.bind_some, ct, if_pos (nI_le (by omega) (by omega))]
  | succ k ih =>
    intro i F h1 h0 h2
    obtain ⟨F, rfl⟩ : ∃ G, F = G + 1 := ⟨F - 1, by omega⟩
    have z := someoneOn_loop hQ (nI i) nw 0 xF (by omega) (by have := pr_w6 (rq_pr hQ); unfold xF; omega)
    rw [nI_0] at z
    have fz : frs nw tp d (nI i) = !(fstR (fun l => decide (d.1 (45 + 2) l = nI i) && thr (d.1 (45 + 1) l)) 0 nw).isSome := by
      unfold frs
      rw [decide_eq_true ⟨show ¬ nI i < 1 from nI_nlt (b := 1) h0 (by omega), nI_lt (by omega) (by omega)⟩, Bool.true_and]
    rw [loop_s, b_X9_carry_24, g0_4 hQ, Option.bind_some, gI_of (sp_0 hp), Option.bind_some, ct, if_neg (nI_ge (by omega) (by omega)), g0_8 hQ, Option.bind_some, on_of sA_45, f_X4_someoneOn, z, Option.bind_some]
    dsimp only
    cases t : (fstR (fun l => decide (d.1 (45 + 2) l = nI i) && thr (d.1 (45 + 1) l)) 0 nw).isSome with
    | true =>
      rw [t] at fz
      exact Or.inr ⟨⟨i, by omega, by omega, fz⟩, rfl⟩
    | false =>
      rw [t] at fz
      rw [if_pos (by decide), nI_1]
      rcases ih (i + 1) F (by omega) (by omega) (by omega) with ⟨z1, z2⟩ | ⟨⟨y, y1, y2, y3⟩, z2⟩
      · refine Or.inl ⟨fun y y1 y2 => ?_, z2⟩
        by_cases e : y = i
        · rw [e]; exact fz
        · exact z1 y (by omega) y2
      · exact Or.inr ⟨⟨y, by omega, y2, y3⟩, z2⟩
theorem ca_1 : ∀ tp : Fin 61, ∀ a : Fin 61, 2 ≤ tp.val → a.val < tp.val → nI tp.val - 1 = nI (tp.val - 1) ∧ xdI ((((nI tp.val - (1 : Int32)) - nI a.val) + (3 : Int32)) - (1 : Int32)) (3 : Int32) = some (nI (cdN a.val (tp.val - 1))) := by decide +kernel
theorem l2_carry : L2_carry Rel := by
  intro d hd
  refine co_L2 (fC := f_X9_carry shA 0) (fM := f_X10_carry shA 99) (co_do hd ?_)
  intro P nw nb nr tp md m hm hQ
  have hp := pr_pl (rq_pr hQ)
  have ht60 := pr_t60 (rq_pr hQ); have ht2 := pr_t2 (rq_pr hQ)
  have hRc := rq_rc hQ; have hRm := rq_rm hQ
  have ct : d.1 P 0 = nI tp := pr_cT (rq_pr hQ)
  obtain ⟨a, ha, ya, xa⟩ := sc_pi (rq_sn hQ)
  have ya' : m.1 122 0 = nI a := by rw [← ya]; exact rM_122
  have xa : d.1 45 2 = _ := xa
  unfold f_X10_carry
  rw [t0_e, ← hm]
  unfold f_X9_carry
  rw [g0_8 hQ, Option.bind_some, gI_of sA_45, Option.bind_some, gR_of sA_99 (rf_99_38 hRm), Option.bind_some, Option.bind_some, a0_4, Option.bind_some, ya']
  by_cases z0 : a = 0
  · rw [xa, if_pos z0, if_pos rfl, z0, nI_0, if_pos rfl]; exact do_same hQ _
  rw [if_neg z0] at xa
  rw [xa, if_neg (nI_ne_m2 (by omega)), if_neg (show ¬ nI a = 0 from fun z => z0 ((nI_eq (b := 0) (show a < 2 ^ 31 by omega) (by omega)).mp z)), gI_of sA_45, Option.bind_some, xa, nI_1]
  obtain ⟨J1, j1, j2, j3⟩ := carry_ini hQ (show a < 64 by omega) ya' 64 0 m.1 xF (by omega) (by unfold xF; omega) (fun _ _ => rfl) (fun l hl => by omega)
  have i0 : IT (fun y => frs nw tp d (nI y)) a tp 0 (DD a 0 1 0) (J1 132) := by
    refine ⟨fun x x1 x2 => ⟨fun _ c2 => ?_, fun _ c2 => ⟨Or.inl ?_, fun hd => ?_⟩, fun _ c2 => ?_, fun c1 => ?_⟩, fun x x1 x2 => Or.inl ?_⟩
    · have e : x = a := by unfold cdN at c2; omega
      rw [j2 x (by omega), if_pos e, e, show cdN a a = 0 by unfold cdN; omega, nI_0]
    · rw [j2 x (by omega), if_neg (fun e => by unfold cdN at c2; omega)]
    · unfold DD at hd; omega
    · rw [j2 x (by omega), if_neg (fun e => by unfold cdN at c2; omega)]
    · rw [j2 x (by omega), if_neg (fun e => c1 (fun y y1 y2 => by omega))]
    · rw [j2 x (by omega), if_neg (by omega)]
  obtain ⟨J2, k1, k2, k3⟩ := carry_out hQ (show 1 ≤ a by omega) 64 0 J1 xF (by omega) (by unfold xF; omega) j1 i0
  have hQ2 := rq_132 hQ k1
  have hRm2 : RefOK (J2, m.2.1, m.2.2) P := rq_rm hQ2
  have mt2 : (J2, m.2.1, m.2.2).1 101 0 = nI tp := p0_mT (rq_pr hQ2)
  rw [nI_0] at j3 k3
  have j3 : xloop (fun _ _ _ => none) (b_X10_carry_18 shA) xF 99 0 m = _ := j3
  have k3 : k_X10_carry_51 shA 99 (J1, m.2.1, m.2.2) = _ := k3
  obtain ⟨v1, v2⟩ := ca_1 ⟨tp, by omega⟩ ⟨a, by omega⟩ ht2 ha
  dsimp only at v1 v2
  obtain ⟨w1, w2, w3, w4⟩ := k2.1 (tp - 1) (by omega) (by omega)
  have fin : ∀ r, xloop (fun _ _ _ => none) (b_X9_carry_24 shA) xF 0 (nI (a + 1)) d = some (r, d) → (if J2 132 (tp - 1) = -1 then (-2 : Int32) else J2 132 (tp - 1)) = r → DO P nw nb nr tp d m (xloop (fun _ _ _ => none) (b_X9_carry_24 shA) xF 0 (nI (a + 1)) d) (xloop (fun _ _ _ => none) (b_X10_carry_18 shA) xF 99 0 m) := by
    intro r e1 e2
    refine ⟨r, d, (J2, m.2.1, m.2.2), e1, ?_, ⟨rfl, fun _ _ => ⟨rfl, rfl⟩⟩, ⟨rfl, fun k hk => ⟨k1 k (by omega), rfl⟩⟩, hQ2⟩
    rw [j3, k3]
    unfold k_X10_carry_143 k_X10_carry_168
    rw [gR_of sA_99 (rf_99_56 hRm2), Option.bind_some, gR_of sA_99 (rf_99_3 hRm2), Option.bind_some, aN_0, Option.bind_some, mt2, v1, aI_of sA_132 (by omega) (by omega), Option.bind_some]
    dsimp only
    rw [← e2]
    by_cases c : J2 132 (tp - 1) = -1
    · rw [if_pos c, if_pos c]
    · rw [if_neg c, if_neg c]
  rcases carryC_loop hQ (tp - (a + 1)) (a + 1) xF (by omega) (by omega) (by unfold xF; omega) with ⟨z1, z2⟩ | ⟨⟨y, y1, y2, y3⟩, z2⟩
  · have cc : cnn (fun y => frs nw tp d (nI y)) a (tp - 1) := fun y y1 y2 => z1 y (by omega) (by omega)
    have e := w1 cc (by unfold cdN; omega)
    refine fin (nI (cdN a (tp - 1))) ?_ ?_
    · rw [z2]
      unfold k_X9_carry_55
      rw [g0_4 hQ, Option.bind_some, gI_of (sp_0 hp), Option.bind_some, ct, g0_8 hQ, Option.bind_some, gI_of sA_45, Option.bind_some, xa, v2, Option.bind_some]
    · rw [e, if_neg (nI_ne_m1 (by unfold cdN; omega))]
  · have cc : ¬ cnn (fun y => frs nw tp d (nI y)) a (tp - 1) := fun z => by
      have := z y (by omega) (by omega)
      dsimp only at this
      rw [y3] at this
      exact absurd this (by decide)
    refine fin (-2) z2 ?_
    rw [w4 cc, if_pos rfl]

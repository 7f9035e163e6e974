/-! LEVEL 2: feed -/
theorem by_1 : ∀ f : Fin 256, nI f.val = (Int32.ofBitVec ((BitVec.ofFin f : BitVec 8).setWidth 32)) ∧ (Int8.ofBitVec (BitVec.ofFin f : BitVec 8)).toInt32 = sgn f.val ∧ vp_nar .byte (Int8.ofBitVec (BitVec.ofFin f : BitVec 8)).toInt32 = (Int8.ofBitVec (BitVec.ofFin f : BitVec 8)).toInt32 := by decide +kernel
theorem by_2 (x : Int32) : ∃ a, a < 256 ∧ (x &&& 255) = nI a ∧ vp_nar .byte (x.toInt8.toInt32) = sgn a := by
  have e1 : x.toInt8 = Int8.ofBitVec (x.toBitVec.setWidth 8) := by
    show Int8.ofBitVec (x.toBitVec.signExtend 8) = _
    rw [BitVec.signExtend_eq_setWidth_of_le _ (by omega)]
  have e2 : (x &&& 255) = Int32.ofBitVec ((x.toBitVec.setWidth 8).setWidth 32) := by
    apply Int32.toBitVec_inj.mp
    rw [Int32.toBitVec_and]
    apply BitVec.eq_of_toNat_eq
    rw [BitVec.toNat_and]
    show x.toBitVec.toNat &&& 255 = ((x.toBitVec.setWidth 8).setWidth 32).toNat
    rw [BitVec.toNat_setWidth, BitVec.toNat_setWidth, show 255 = 2 ^ 8 - 1 from rfl, Nat.and_two_pow_sub_one_eq_mod]
    omega
  obtain ⟨z1, z2, z3⟩ := by_1 (x.toBitVec.setWidth 8).toFin
  refine ⟨(x.toBitVec.setWidth 8).toFin.val, (x.toBitVec.setWidth 8).toFin.isLt, ?_, ?_⟩
  · rw [e2, z1]
  · rw [e1]; exact z3.trans z2
theorem sY_of {d : xD} {i : Nat} {v : Int32} (hi : i < 700) : xsI .byte shA d 1 (nI i) v = some (xu d.1 1 i (vp_nar .byte v), d.2.1, d.2.2) := by
  have h1 : ¬ (nI i < 0 ∨ 700 ≤ (nI i).toNatClampNeg) := nI_in hi (by omega)
  unfold xsI
  rw [len_of sA_1, Option.bind_some, if_neg h1, nI_clamp (show i < 2 ^ 31 by omega)]
theorem pT_1 {d : xD} {v : Int32} : xpI 9 shA d 0 1 v = some (xu d.1 0 1 v, d.2.1, d.2.2) := pI_of sA_0 rfl
theorem fe_1 : ∀ k : Fin 4, nI (8 * (k.val + 1)) + (-8) = nI (8 * k.val) ∧ ¬ nI (8 * k.val) < 0 ∧ nI (8 * k.val) &&& 31 = nI (8 * k.val) := by decide +kernel
def byC (x : Int32) (k : Nat) : Int32 := vp_nar .byte ((x >>> nI (8 * k)).toInt8.toInt32)
theorem put_loop {P : Nat} {L : Nat → Nat → Int64} {R : Nat → Nat → Option Nat} (hR : ∀ I, RefOK (I, L, R) P) {x : Int32} : ∀ k I t F, k ≤ 4 → I 0 1 = nI t → t + k ≤ 700 → k < F → ∃ J, xloop (fun _ _ _ _ => none) (b_X9_putOnTape_3 shA) F 0 x (nI (8 * k) + (-8)) (I, L, R) = some (J, L, R) ∧ (∀ q, q ≠ 0 → q ≠ 1 → J q = I q) ∧ (∀ q, q ≠ 1 → J 0 q = I 0 q) ∧ J 0 1 = nI (t + k) ∧ (∀ i, i < t → J 1 i = I 1 i) ∧ ∀ j, j < k → J 1 (t + j) = byC x (k - 1 - j) := by
  intro k
  induction k with
  | zero =>
    intro I t F _ h0 h1 h2
    obtain ⟨F, rfl⟩ : ∃ G, F = G + 1 := ⟨F - 1, by omega⟩
    refine ⟨I, ?_, fun _ _ _ => rfl, fun _ _ => rfl, h0, fun _ _ => rfl, fun j hj => by omega⟩
    rw [loop_s, b_X9_putOnTape_3, if_pos (by decide)]; rfl
  | succ k ih =>
    intro I t F hk h0 h1 h2
    obtain ⟨F, rfl⟩ : ∃ G, F = G + 1 := ⟨F - 1, by omega⟩
    obtain ⟨f1, f2, f3⟩ := fe_1 ⟨k, by omega⟩
    dsimp only at f1 f2 f3
    obtain ⟨J, e1, e2, e3, e4, e5, e6⟩ := ih (xu (xu I 1 t (byC x k)) 0 1 (nI (t + 1))) (t + 1) F (by omega) xu_at (by omega) (by omega)
    refine ⟨J, ?_, fun q q1 q2 => ?_, fun q q1 => ?_, ?_, fun i hi => ?_, fun j hj => ?_⟩
    · rw [loop_s, b_X9_putOnTape_3, f1, if_neg f2, gR_of sA_0 (rf_0_0 (hR _)), Option.bind_some, gI_of sA_0, Option.bind_some]
      dsimp only
      rw [h0, f3, sY_of (by omega), Option.bind_some, gI_of sA_0, Option.bind_some]
      dsimp only
      rw [xu_cell (by omega), h0, nI_1, pT_1, Option.bind_some]
      exact e1
    · rw [e2 q q1 q2, xu_off q1, xu_off q2]
    · rw [e3 q q1, xu_at2 q1, xu_cell (by omega)]
    · rw [e4, show t + 1 + k = t + (k + 1) by omega]
    · rw [e5 i (by omega), xu_cell (by omega), xu_at2 (by omega)]
    · rcases Nat.eq_zero_or_pos j with z | z
      · subst z
        rw [Nat.add_zero, e5 t (by omega), xu_cell (by omega), xu_at]; rfl
      · have z1 := e6 (j - 1) (by omega)
        rw [show t + 1 + (j - 1) = t + j by omega] at z1
        rw [z1, show k + 1 - 1 - j = k - 1 - (j - 1) by omega]
theorem e_put {P : Nat} {L : Nat → Nat → Int64} {R : Nat → Nat → Option Nat} (hR : ∀ I, RefOK (I, L, R) P) (x : Int32) (I : Nat → Nat → Int32) (t : Nat) (h0 : I 0 1 = nI t) (ht : t + 4 ≤ 700) : ∃ J, f_X9_putOnTape shA 0 x (I, L, R) = some (J, L, R) ∧ (∀ q, q ≠ 0 → q ≠ 1 → J q = I q) ∧ (∀ q, q ≠ 1 → J 0 q = I 0 q) ∧ J 0 1 = nI (t + 4) ∧ (∀ i, i < t → J 1 i = I 1 i) ∧ ∀ j, j < 4 → J 1 (t + j) = byC x (3 - j) :=
  put_loop hR 4 I t xF (by omega) h0 ht (by unfold xF; omega)
def w5 (x1 x2 x3 x4 x5 : Int32) (i : Nat) : Int32 := if i = 0 then x1 else if i = 1 then x2 else if i = 2 then x3 else if i = 3 then x4 else x5
theorem fe_2 : ∀ i : Fin 20, xmI (nI i.val) 4 = some (nI (i.val % 4)) ∧ ((24 : Int32) - 8 * nI (i.val % 4)) &&& 31 = nI (8 * (3 - i.val % 4)) := by decide +kernel
theorem feedM_loop {P : Nat} {L : Nat → Nat → Int64} {R : Nat → Nat → Option Nat} (hR : ∀ I, RefOK (I, L, R) P) {x1 x2 x3 x4 x5 : Int32} {t : Nat} (ht : t + 20 ≤ 700) : ∀ k i I F, i + k = 20 → I 99 2 = nI t → k < F → ∃ J, xloop (fun _ _ _ _ _ _ _ _ => none) (b_X10_feed_20 shA) F 99 x1 x2 x3 x4 x5 (nI i) (I, L, R) = k_X10_feed_110 shA 99 (J, L, R) ∧ (∀ q, q ≠ 100 → J q = I q) ∧ (∀ l, l < t + i → J 100 l = I 100 l) ∧ ∀ l, i ≤ l → l < 20 → J 100 (t + l) = (w5 x1 x2 x3 x4 x5 (l / 4) >>> nI (8 * (3 - l % 4))) &&& 255 := by
  intro k
  induction k with
  | zero =>
    intro i I F h1 h0 h2
    obtain ⟨F, rfl⟩ : ∃ G, F = G + 1 := ⟨F - 1, by omega⟩
    refine ⟨I, ?_, fun _ _ => rfl, fun _ _ => rfl, fun l l1 l2 => by omega⟩
    rw [loop_s, b_X10_feed_20, show i = 20 by omega, if_pos (by decide)]
  | succ k ih =>
    intro i I F h1 h0 h2
    obtain ⟨F, rfl⟩ : ∃ G, F = G + 1 := ⟨F - 1, by omega⟩
    obtain ⟨f1, f2⟩ := fe_2 ⟨i, by omega⟩
    dsimp only at f1 f2
    obtain ⟨J, e1, e2, e3, e4⟩ := ih (i + 1) (xu I 100 (t + i) ((w5 x1 x2 x3 x4 x5 (i / 4) >>> nI (8 * (3 - i % 4))) &&& 255)) F (by omega) (by rw [xu_cell (by omega)]; exact h0) (by omega)
    refine ⟨J, ?_, fun q q1 => ?_, fun l hl => ?_, fun l l1 l2 => ?_⟩
    · have hb : b_X10_feed_20 shA (xloop (fun _ _ _ _ _ _ _ _ => none) (b_X10_feed_20 shA) F) 99 x1 x2 x3 x4 x5 (nI i) (I, L, R) = k_X10_feed_73 shA (xloop (fun _ _ _ _ _ _ _ _ => none) (b_X10_feed_20 shA) F) 99 x1 x2 x3 x4 x5 (nI i) (w5 x1 x2 x3 x4 x5 (i / 4)) (I, L, R) := by
        generalize xloop (fun _ _ _ _ _ _ _ _ => none) (b_X10_feed_20 shA) F = rc
        rw [b_X10_feed_20, if_neg (show ¬ (20 : Int32) ≤ nI i from nI_ge (b := 20) (by omega) (by omega))]
        have g : ∀ c, c ≤ 20 → (nI c ≤ nI i ↔ c ≤ i) := fun c hc => ⟨fun z => by
          rcases Nat.lt_or_ge i c with y | y
          · exact absurd z (nI_ge y (by omega))
          · exact y, fun z => nI_le z (by omega)⟩
        have g4 : ((4 : Int32) ≤ nI i ↔ 4 ≤ i) := g 4 (by omega)
        have g8 : ((8 : Int32) ≤ nI i ↔ 8 ≤ i) := g 8 (by omega)
        have g12 : ((12 : Int32) ≤ nI i ↔ 12 ≤ i) := g 12 (by omega)
        have g16 : ((16 : Int32) ≤ nI i ↔ 16 ≤ i) := g 16 (by omega)
        unfold w5
        by_cases c1 : 4 ≤ i
        · rw [if_pos (g4.mpr c1), if_neg (show ¬ i / 4 = 0 by omega)]
          by_cases c2 : 8 ≤ i
          · rw [if_pos (g8.mpr c2), if_neg (show ¬ i / 4 = 1 by omega)]
            by_cases c3 : 12 ≤ i
            · rw [if_pos (g12.mpr c3), if_neg (show ¬ i / 4 = 2 by omega)]
              by_cases c4 : 16 ≤ i
              · rw [if_pos (g16.mpr c4), if_neg (show ¬ i / 4 = 3 by omega)]
              · rw [if_neg (fun z => c4 (g16.mp z)), if_pos (show i / 4 = 3 by omega)]
            · rw [if_neg (fun z => c3 (g12.mp z)), if_pos (show i / 4 = 2 by omega)]
          · rw [if_neg (fun z => c2 (g8.mp z)), if_pos (show i / 4 = 1 by omega)]
        · rw [if_neg (fun z => c1 (g4.mp z)), if_pos (show i / 4 = 0 by omega)]
      rw [loop_s, hb, k_X10_feed_73, gR_of sA_99 (rf_99_1 (hR _)), Option.bind_some, gI_of sA_99, Option.bind_some, f1, Option.bind_some]
      dsimp only
      rw [h0, f2, nI_add, sI_of sA_100 (by omega) (by omega), Option.bind_some, nI_1]
      exact e1
    · rw [e2 q q1, xu_off q1]
    · rw [e3 l (by omega), xu_at2 (by omega)]
    · by_cases z : l = i
      · subst z; rw [e3 (t + l) (by omega), xu_at]
      · exact e4 l (by omega) l2
theorem rq_tape {P nw nb nr tp : Nat} {c m c' m' : xD} (h : RQ P nw nb nr tp c m) (e1 : c'.2.2 = c.2.2) (eL : c'.2.1 = c.2.1) (e2 : m'.2.2 = m.2.2) (c2 : ∀ k, k ≠ 0 → k ≠ 1 → c'.1 k = c.1 k) (c3 : ∀ k, k ≠ 1 → c'.1 0 k = c.1 0 k) (m2 : ∀ k, k ≠ 99 → k ≠ 100 → m'.1 k = m.1 k) (m3 : ∀ k, k ≠ 2 → m'.1 99 k = m.1 99 k) (hta : TAP c'.1 m'.1) : RQ P nw nb nr tp c' m' := by
  have hp := pr_pl (rq_pr h)
  have hpr := isPl_le hp
  have hw6 := pr_w6 (rq_pr h); have hb8 := pr_b8 (rq_pr h); have hr12 := pr_r12 (rq_pr h)
  have v : ∀ s, VE (vM s m'.1) (vM s m.1) := fun s => ve_rows (fun k k1 k2 => m2 k (by omega) (by omega))
  have hG : ∀ k, 101 ≤ k → k ≤ 116 → m'.1 k = m.1 k := fun k k1 k2 => m2 k (by omega) (by omega)
  have g51 : m'.1 99 51 = -1 := by rw [m3 51 (by omega)]; exact rq_po h
  have scx : ∀ q s, (q = 45 ∨ q = 59) → SC nw nb nr 0 tp 0 (fun _ _ => True) True m.1 (-1) (vC q c.1) (c.2.1 q 3) (vM s m.1) → SC nw nb nr 0 tp 0 (fun _ _ => True) True m'.1 (-1) (vC q c'.1) (c'.2.1 q 3) (vM s m'.1) := by
    intro q s hq hs
    rw [eL]
    refine sc_ve hs hw6 hb8 hr12 (m3 50 (by omega)) (rq_po h) g51 rfl hG (fun k hk => ?_) (fun j j1 j2 k hk => ?_) (v s)
    · show c'.1 q k = c.1 q k; rw [c2 q (by omega) (by omega)]
    · show c'.1 (q + j) k = c.1 (q + j) k; rw [c2 (q + j) (by omega) (by omega)]
  refine ⟨(rq_rc h).same e1, (rq_rm h).same e2, pr_congr (rq_pr h) (fun j hj => c2 _ (by omega) (by omega)) hG, scx 45 0 (Or.inl rfl) (rq_sn h), (m3 50 (by omega)).trans (rq_tw h), g51, (m3 53 (by omega)).trans (rq_ew h), ?_, ?_, ?_, hta, ?_, ?_⟩
  · rw [c3 11 (by omega), m3 48 (by omega)]
    rcases rq_im h with z | ⟨z1, z2, z3⟩
    · exact Or.inl z
    · exact Or.inr ⟨z1, z2, scx 59 2 (Or.inr rfl) z3⟩
  · obtain ⟨u, u1, u2, u3, u4⟩ := rq_un h
    refine ⟨u, u1, ?_, ?_, fun k hk => ?_⟩
    · rw [c2 89 (by omega) (by omega)]; exact u2
    · rw [m3 49 (by omega)]; exact u3
    · rw [c2 90 (by omega) (by omega), c2 91 (by omega) (by omega)]
      exact ve_uns hw6 hb8 (m2 103 (by omega) (by omega)) (u4 k hk) (v _) (v _)
  · have z := rq_se h
    unfold SE at z ⊢
    rw [c2 92 (by omega) (by omega), c2 93 (by omega) (by omega), c2 94 (by omega) (by omega), c2 95 (by omega) (by omega), c2 96 (by omega) (by omega), c2 97 (by omega) (by omega), m3 57 (by omega), m3 58 (by omega), m2 133 (by omega) (by omega), m2 134 (by omega) (by omega), m2 135 (by omega) (by omega), m2 136 (by omega) (by omega), m2 137 (by omega) (by omega)]
    exact z
  · rw [c3 2 (by omega), c3 3 (by omega), m3 28 (by omega), m3 29 (by omega)]; exact rq_fa h
  · rw [c2 41 (by omega) (by omega)]; exact rq_wd h
theorem l2_feed : L2_feed Rel := by
  intro d a1 a2 a3 a4 a5 hd
  refine co_L2 (fC := f_X9_feed shA 0 a1 a2 a3 a4 a5) (fM := f_X10_feed shA 99 a1 a2 a3 a4 a5) (co_do hd ?_)
  intro P nw nb nr tp md m hm hQ
  have hRc := rq_rc hQ; have hRm := rq_rm hQ
  obtain ⟨t, t1, t2, t3, t4⟩ := rq_ta hQ
  have hC : ∀ I, RefOK (I, d.2.1, d.2.2) P := fun I => hRc.same rfl
  have hM : ∀ I, RefOK (I, m.2.1, m.2.2) P := fun I => hRm.same rfl
  unfold f_X10_feed
  rw [t0_e, ← hm]
  unfold f_X9_feed
  rw [gI_of sA_0, Option.bind_some, gI_of sA_99, Option.bind_some, t2, t3, show nI t + (20 : Int32) = nI (t + 20) from nI_add t 20]
  by_cases c1 : t + 20 ≤ 700
  · rw [if_pos (show nI (t + 20) ≤ (700 : Int32) from nI_le (b := 700) c1 (by omega)), if_pos (show nI t ≤ (680 : Int32) from nI_le (b := 680) (by omega) (by omega))]
    obtain ⟨J1, p1, p2, p3, p4, p5, p6⟩ := e_put hC a1 d.1 t t2 (by omega)
    obtain ⟨J2, q1, q2, q3, q4, q5, q6⟩ := e_put hC a2 J1 (t + 4) p4 (by omega)
    obtain ⟨J3, r1, r2, r3, r4, r5, r6⟩ := e_put hC a3 J2 (t + 4 + 4) q4 (by omega)
    obtain ⟨J4, s1, s2, s3, s4, s5, s6⟩ := e_put hC a4 J3 (t + 4 + 4 + 4) r4 (by omega)
    obtain ⟨J5, u1, u2, u3, u4, u5, u6⟩ := e_put hC a5 J4 (t + 4 + 4 + 4 + 4) s4 (by omega)
    obtain ⟨K, k1, k2, k3, k4⟩ := feedM_loop hM (x1 := a1) (x2 := a2) (x3 := a3) (x4 := a4) (x5 := a5) c1 20 0 m.1 xF (by omega) t3 (by unfold xF; omega)
    rw [nI_0] at k1
    have p1 : f_X9_putOnTape shA 0 a1 d = some (J1, d.2.1, d.2.2) := p1
    have k1 : xloop (fun _ _ _ _ _ _ _ _ => none) (b_X10_feed_20 shA) xF 99 a1 a2 a3 a4 a5 0 m = _ := k1
    refine ⟨nI (t + 20), (J5, d.2.1, d.2.2), (xu K 99 2 (nI (t + 20)), m.2.1, m.2.2), ?_, ?_, ⟨rfl, fun k hk => ⟨?_, rfl⟩⟩, ⟨rfl, fun k hk => ⟨?_, rfl⟩⟩, ?_⟩
    · rw [on_of sA_0, p1, Option.bind_some, on_of sA_0, q1, Option.bind_some, on_of sA_0, r1, Option.bind_some, on_of sA_0, s1, Option.bind_some, on_of sA_0, u1, Option.bind_some, gI_of sA_0, Option.bind_some]
      dsimp only
      rw [u4]
    · rw [k1]
      unfold k_X10_feed_110
      rw [gI_of sA_99, Option.bind_some]
      dsimp only
      rw [k2 99 (by omega), t3, show nI t + (20 : Int32) = nI (t + 20) from nI_add t 20, pM_2, Option.bind_some, gI_of sA_99, Option.bind_some]
      dsimp only
      rw [xu_at]
    · dsimp only; rw [u2 k (by omega) (by omega), s2 k (by omega) (by omega), r2 k (by omega) (by omega), q2 k (by omega) (by omega), p2 k (by omega) (by omega)]
    · dsimp only; rw [xu_off (by omega), k2 k (by omega)]
    · refine rq_tape hQ rfl rfl rfl (fun k k1 k2 => ?_) (fun k k1 => ?_) (fun k k1 k2' => ?_) (fun k k1 => ?_) ?_
      · dsimp only; rw [u2 k (by omega) (by omega), s2 k (by omega) (by omega), r2 k (by omega) (by omega), q2 k (by omega) (by omega), p2 k (by omega) (by omega)]
      · dsimp only; rw [u3 k k1, s3 k k1, r3 k k1, q3 k k1, p3 k k1]
      · dsimp only; rw [xu_off k1, k2 k k2']
      · dsimp only; rw [xu_at2 k1, k2 99 (by omega)]
      · refine ⟨t + 20, c1, u4, (by dsimp only; rw [xu_at]), fun i hi => ?_⟩
        dsimp only
        rw [xu_cell (by omega)]
        by_cases z : i < t
        · rw [u5 i (by omega), s5 i (by omega), r5 i (by omega), q5 i (by omega), p5 i z, k3 i (by omega)]
          exact t4 i z
        · obtain ⟨l, rfl⟩ : ∃ l, i = t + l := ⟨i - t, by omega⟩
          rw [k4 l (by omega) (by omega)]
          obtain ⟨a, b1, b2, b3⟩ := by_2 (w5 a1 a2 a3 a4 a5 (l / 4) >>> nI (8 * (3 - l % 4)))
          refine ⟨a, b1, b2, ?_⟩
          rw [← b3]
          show J5 1 (t + l) = byC (w5 a1 a2 a3 a4 a5 (l / 4)) (3 - l % 4)
          have key : ∀ (J : Nat → Nat → Int32) (x : Int32) (g : Nat), (∀ j, j < 4 → J 1 (t + 4 * g + j) = byC x (3 - j)) → l / 4 = g → J 1 (t + l) = byC x (3 - l % 4) := by
            intro J x g hj e
            have := hj (l % 4) (by omega)
            rw [show t + 4 * g + l % 4 = t + l by omega] at this
            exact this
          rcases (show l / 4 = 0 ∨ l / 4 = 1 ∨ l / 4 = 2 ∨ l / 4 = 3 ∨ l / 4 = 4 by omega) with e | e | e | e | e
          · rw [u5 _ (by omega), s5 _ (by omega), r5 _ (by omega), q5 _ (by omega), e]
            exact key J1 a1 0 p6 e
          · rw [u5 _ (by omega), s5 _ (by omega), r5 _ (by omega), e]
            exact key J2 a2 1 q6 e
          · rw [u5 _ (by omega), s5 _ (by omega), e]
            exact key J3 a3 2 r6 e
          · rw [u5 _ (by omega), e]
            exact key J4 a4 3 s6 e
          · rw [e]
            exact key J5 a5 4 u6 e
  · rw [if_neg (show ¬ nI (t + 20) ≤ (700 : Int32) from nI_ge (a := 700) (by omega) (by omega)), if_neg (show ¬ nI t ≤ (680 : Int32) from nI_ge (a := 680) (by omega) (by omega))]
    exact do_same hQ _

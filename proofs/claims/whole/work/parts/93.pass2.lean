/-! LEVEL 2: pass, tried -/
def thr (x : Int32) : Bool := decide (x = 1 ∨ x = 2)
theorem e_thereC {c : xD} {P q p : Nat} (hR : RefOK c P) (hq : isSc q) (hp : p < 6) : f_X4_isThere shA q (nI p) c = some (if thr (c.1 (q + 1) p) then 1 else 0, c) := by
  unfold f_X4_isThere k_X4_isThere_20 k_X4_isThere_25
  simp (disch := omega) only [xgR, ss_0 hq, rs_5 hR hq, aI_of (ss_1 hq), ↓reduceIte, Option.bind_some, xz_0, xz_1]
  unfold thr
  by_cases h1 : c.1 (q + 1) p = 1
  · rw [if_pos h1, decide_eq_true (Or.inl h1)]; rfl
  · by_cases h2 : c.1 (q + 1) p = 2
    · rw [if_neg h1, if_pos h2, decide_eq_true (Or.inr h2)]; rfl
    · rw [if_neg h1, if_neg h2, decide_eq_false (fun z => z.elim h1 h2)]; rfl
theorem e_thereM {m : xD} {P s p : Nat} (hR : RefOK m P) (hs : s < 23) (hp : p < 6) : f_X10_isThere shA 99 (nI s) (nI p) m = some (if thr (vM s m.1 5 p) then 1 else 0, m) := by
  unfold f_X10_isThere k_X10_isThere_30 k_X10_isThere_35
  simp (disch := omega) only [xgR, sA_99, rf_99_40 hR, m6_, nI_add, aI_of sA_124, ↓reduceIte, Option.bind_some, xz_0, xz_1, rM_124]
  unfold thr
  by_cases h1 : vM s m.1 5 p = 1
  · rw [if_pos h1, decide_eq_true (Or.inl h1)]; rfl
  · by_cases h2 : vM s m.1 5 p = 2
    · rw [if_neg h1, if_pos h2, decide_eq_true (Or.inr h2)]; rfl
    · rw [if_neg h1, if_neg h2, decide_eq_false (fun z => z.elim h1 h2)]; rfl
def SG (x y : Int32) : Prop := (x = 0 ∧ y = 0) ∨ ∃ k, k < 60 ∧ ((x = 1 ∧ y = nI (k + 1)) ∨ (x = -1 ∧ y = -nI (k + 1)))
theorem sg1 : ∀ k k' : Fin 60, 0 ≤ nI (k.val + 1) * nI (k'.val + 1) ∧ 0 ≤ (-nI (k.val + 1)) * (-nI (k'.val + 1)) ∧ ¬ 0 ≤ nI (k.val + 1) * (-nI (k'.val + 1)) ∧ ¬ 0 ≤ (-nI (k.val + 1)) * nI (k'.val + 1) := by decide +kernel
theorem sg_mul {x y x' y' : Int32} (h : SG x y) (h' : SG x' y') : (0 ≤ x * x' ↔ 0 ≤ y * y') := by
  rcases h with ⟨rfl, rfl⟩ | ⟨k, hk, h⟩
  · rw [Int32.zero_mul, Int32.zero_mul]
  · rcases h' with ⟨rfl, rfl⟩ | ⟨k', hk', h'⟩
    · rw [Int32.mul_zero, Int32.mul_zero]
    · obtain ⟨s1, s2, s3, s4⟩ := sg1 ⟨k, hk⟩ ⟨k', hk'⟩
      rcases h with ⟨rfl, rfl⟩ | ⟨rfl, rfl⟩ <;> rcases h' with ⟨rfl, rfl⟩ | ⟨rfl, rfl⟩
      · exact ⟨fun _ => s1, fun _ => by decide⟩
      · exact ⟨fun z => absurd z (by decide), fun z => absurd z s3⟩
      · exact ⟨fun z => absurd z (by decide), fun z => absurd z s4⟩
      · exact ⟨fun _ => s2, fun _ => by decide⟩
theorem e_order {P nw nb nr tp tl : Nat} {mt : Nat → Nat → Prop} {fl : Prop} {c0 m0 c m : xD} (hr : RS P 73 1 nw nb nr tp 0 tl mt fl c0 m0 c m) {p o : Nat} (hpw : p < nw) (how : o < nw) : ∃ x y, SG x y ∧ f_X4_order shA 73 (nI p) (nI o) c = some (x, c) ∧ f_X10_aboveOf shA 99 (nI p) (nI o) m = some (y, m) := by
  obtain ⟨h, hs⟩ := hr
  have hRc := wf_rc h; have hRm := wf_rm h; have hq := wf_sq h; have hp := pr_pl (wf_pr h); have hs23 := wf_s23 h; have hqr := isSc_ge hq; have hpr := isPl_le hp; have hw6 := pr_w6 (wf_pr h); have hb8 := pr_b8 (wf_pr h); have hr12 := pr_r12 (wf_pr h); have ht2 := pr_t2 (wf_pr h); have ht60 := pr_t60 (wf_pr h)
  have a1 : c.1 (73 + 1) p = vM 1 m.1 5 p := sc_st hs p hpw
  have a2 : c.1 (73 + 1) o = vM 1 m.1 5 o := sc_st hs o how
  obtain ⟨a, ha, x2, y2⟩ := sc_sp hs p hpw
  obtain ⟨b, hb, x3, y3⟩ := sc_sp hs o how
  have x2 : c.1 (73 + 2) p = nI a := x2
  have x3 : c.1 (73 + 2) o = nI b := x3
  have y2 : m.1 125 (6 * 1 + p) = nI a := y2
  have y3 : m.1 125 (6 * 1 + o) = nI b := y3
  have m1 := e_thereM (s := 1) (p := p) hRm (by omega) (by omega)
  have m2 := e_thereM (s := 1) (p := o) hRm (by omega) (by omega)
  have hq1 : nI 1 = (1 : Int32) := rfl
  rw [hq1] at m1 m2
  unfold f_X4_order f_X10_aboveOf k_X4_order_34 k_X4_order_35 k_X10_aboveOf_18
  rw [on_of sA_73, e_thereC hRc sc73 (by omega), Option.bind_some, on_of sA_99, m1, Option.bind_some, a1]
  dsimp only
  cases t1 : thr (vM 1 m.1 5 p) with
  | false => exact ⟨0, 0, Or.inl ⟨rfl, rfl⟩, rfl, rfl⟩
  | true =>
    rw [if_neg (by decide), if_neg (by decide), on_of sA_73, e_thereC hRc sc73 (by omega), Option.bind_some, on_of sA_99, m2, Option.bind_some, a2]
    dsimp only
    cases t2 : thr (vM 1 m.1 5 o) with
    | false => exact ⟨0, 0, Or.inl ⟨rfl, rfl⟩, rfl, rfl⟩
    | true =>
      rw [if_neg (by decide), if_neg (by decide)]
      simp (disch := omega) only [xgR, sA_73, rs_6 hRc sc73, aI_of (ss_2 sc73), ↓reduceIte, Option.bind_some, x2, x3, sA_99, rf_99_41 hRm, a6_, aI_of sA_125, y2, y3]
      have key : ∃ x, f_J6_compare_7cf53 shA (nI a) (nI b) c = some (x, c) ∧ SG x (nI a - nI b) := by
        unfold f_J6_compare_7cf53 k_J6_compare_7cf53_19
        rcases Nat.lt_trichotomy a b with z | z | z
        · rw [if_neg (nI_ge z (by omega))]
          refine ⟨-1, rfl, Or.inr ⟨b - a - 1, by omega, Or.inr ⟨rfl, ?_⟩⟩⟩
          rw [show b - a - 1 + 1 = b - a by omega, ← pk_sub (show a ≤ b by omega), Int32.neg_sub]
        · subst z
          rw [if_pos (nI_le (Nat.le_refl a) (by omega)), if_pos rfl]
          exact ⟨0, rfl, Or.inl ⟨rfl, Int32.sub_self _⟩⟩
        · rw [if_pos (nI_le (by omega) (by omega)), if_neg (fun w => by have := (nI_eq (show a < 2 ^ 31 by omega) (show b < 2 ^ 31 by omega)).mp w; omega)]
          refine ⟨1, rfl, Or.inr ⟨a - b - 1, by omega, Or.inl ⟨rfl, ?_⟩⟩⟩
          rw [show a - b - 1 + 1 = a - b by omega, pk_sub (show b ≤ a by omega)]
      obtain ⟨x, k1, k2⟩ := key
      rw [k1]
      exact ⟨x, _, k2, rfl, rfl⟩
theorem pass_loop {P nw nb nr tp tl : Nat} {c0 m0 : xD} (hpa : PA nw m0.1) (h50 : m0.1 99 50 = 0) {p o : Nat} (hpw : p < nw) (how : o < nw) : ∀ n k F1 F2 c m x y, k + n = 200 → n < F1 → n < F2 → RS P 73 1 nw nb nr tp 0 tl (fun _ _ => True) True c0 m0 c m → SG x y → f_X10_aboveOf shA 99 (nI p) (nI o) m = some (y, m) → ∃ r c' m', xloop (fun _ _ _ _ _ _ => none) (b_X9_pass_35 shA) F1 0 (nI p) (nI o) x (nI k) c = some (r, c') ∧ xloop (fun _ _ _ _ _ => none) (b_X10_pass_24 shA) F2 99 (nI p) (nI o) (nI k) m = some (r, m') ∧ RS P 73 1 nw nb nr tp 0 tl (fun _ _ => True) True c0 m0 c' m' := by
  intro n
  induction n with
  | zero =>
    intro k F1 F2 c m x y h1 h2 h3 hr _ _
    obtain ⟨F1, rfl⟩ : ∃ G, F1 = G + 1 := ⟨F1 - 1, by omega⟩
    obtain ⟨F2, rfl⟩ : ∃ G, F2 = G + 1 := ⟨F2 - 1, by omega⟩
    have e : (199 : Int32) < nI k := nI_lt (a := 199) (by omega) (by omega)
    refine ⟨-2, c, m, ?_, ?_, hr⟩
    · rw [loop_s, b_X9_pass_35, if_pos e]; rfl
    · rw [loop_s, b_X10_pass_24, if_pos e]; rfl
  | succ n ih =>
    intro k F1 F2 c m x y h1 h2 h3 hr hsg hab
    obtain ⟨F1, rfl⟩ : ∃ G, F1 = G + 1 := ⟨F1 - 1, by omega⟩
    obtain ⟨F2, rfl⟩ : ∃ G, F2 = G + 1 := ⟨F2 - 1, by omega⟩
    have e : ¬ (199 : Int32) < nI k := nI_nlt (b := k) (a := 199) (by omega) (by omega)
    have hRc := wf_rc hr.1
    obtain ⟨c1, m1, k1, k2, k3⟩ := e_minute hr hpa (cb0 h50)
    have k2 : f_X10_passes shA 99 1 0 m = some m1 := k2
    obtain ⟨x', y', s1, s2, s3⟩ := e_order k3 hpw how
    have hRc1 := wf_rc k3.1
    rw [loop_s, loop_s, b_X9_pass_35, b_X10_pass_24, if_neg e, if_neg e, g0R_12 hRc, Option.bind_some, g0R_10 hRc, Option.bind_some, on_of sA_87, k1, Option.bind_some, g0R_10 hRc1, Option.bind_some, on_of sA_73, s2, Option.bind_some, on_of sA_99, hab, Option.bind_some, on_of sA_99, k2, Option.bind_some, on_of sA_99, s3, Option.bind_some]
    dsimp only
    unfold k_X9_pass_73 k_X10_pass_57
    by_cases z : 0 ≤ x * x'
    · rw [if_pos z, if_pos ((sg_mul hsg s1).mp z), nI_1]
      exact ih (k + 1) F1 F2 c1 m1 x' y' (by omega) (by omega) (by omega) k3 s1 s3
    · rw [if_neg z, if_neg (fun w => z ((sg_mul hsg s1).mpr w))]
      exact ⟨_, c1, m1, rfl, rfl, k3⟩
theorem l2_pass : L2_pass Rel := by
  intro d a1 a2 hd
  refine co_L2 (fC := f_X9_pass shA 0 a1 a2) (fM := f_X10_pass shA 99 a1 a2) (co_ty hd ?_)
  intro P nw nb nr tp md m hm hQ
  unfold f_X10_pass
  rw [t0_e, ← hm]
  unfold f_X9_pass
  rw [on_of sA_0, on_of sA_99]
  rcases e_areTwo hQ a1 a2 with ⟨p, o, hpw, how, hne, rfl, rfl, e1, e2⟩ | ⟨e1, e2⟩
  · obtain ⟨tl, c1, m1, k1, k2, k3, k4, k5, k6, k7, k8, k9, k10, k11, k12⟩ := tr_start hQ
    have hRc1 : RefOK c1 P := wf_rc k3.1
    obtain ⟨x, y, s1, s2, s3⟩ := e_order k3 hpw how
    obtain ⟨r, c', m', j1, j2, j3⟩ := pass_loop k4 (by rw [k5]; exact rq_tw hQ) hpw how 199 1 xF xF c1 m1 x y (by omega) (xF_big (by omega)) (xF_big (by omega)) k3 s1 s3
    refine ⟨r, c', m', ?_, ?_, k6.trans (ct_wf j3.1), k7.trans (mt_wf j3.1), ?_, ?_, rs_53 j3⟩
    · rw [e1, Option.bind_some]
      dsimp only
      rw [if_neg one_ne_zero32, g0_10 hQ, Option.bind_some, g0_8 hQ, Option.bind_some, on_of sA_73, k1, Option.bind_some, g0R_10 hRc1, Option.bind_some, on_of sA_73, s2, Option.bind_some]
      exact j1
    · rw [e2, Option.bind_some]
      dsimp only
      rw [if_neg one_ne_zero32, on_of sA_99, k2, Option.bind_some]
      exact j2
    · rw [wf_o9 j3.1 50 (by omega) (by omega), k5]; exact rq_tw hQ
    · rw [wf_o9 j3.1 51 (by omega) (by omega), k5]; exact rq_po hQ
  · rw [e1, e2]; exact ty_same hQ _
theorem fill_loop {q N : Nat} {v : Int32} {L : Nat → Nat → Int64} {R : Nat → Nat → Option Nat} (hN : shA[q]? = some (.inr (.int, N))) (hN2 : N < 1000) : ∀ n i F (I : Nat → Nat → Int32), i + n = N → n < F → ∃ I', xloop (fun _ _ _ _ _ => none) (b_J7_fill_53178_5 shA) F q v (nI i) (nI N) (I, L, R) = some (I', L, R) ∧ (∀ k, k ≠ q → I' k = I k) ∧ (∀ j, i ≤ j → j < N → I' q j = v) ∧ (∀ j, j < i → I' q j = I q j) := by
  intro n
  induction n with
  | zero =>
    intro i F I h1 h2
    obtain ⟨F, rfl⟩ : ∃ G, F = G + 1 := ⟨F - 1, by omega⟩
    refine ⟨I, ?_, fun _ _ => rfl, fun j j1 j2 => by omega, fun _ _ => rfl⟩
    rw [loop_s, b_J7_fill_53178_5, if_pos (nI_le (by omega) (by omega))]; rfl
  | succ n ih =>
    intro i F I h1 h2
    obtain ⟨F, rfl⟩ : ∃ G, F = G + 1 := ⟨F - 1, by omega⟩
    obtain ⟨I', k1, k2, k3, k4⟩ := ih (i + 1) F (xu I q i v) (by omega) (by omega)
    refine ⟨I', ?_, fun k hk => (k2 k hk).trans (xu_off hk), fun j j1 j2 => ?_, fun j hj => ?_⟩
    · rw [loop_s, b_J7_fill_53178_5, if_neg (nI_ge (by omega) (by omega)), sI_of hN (by omega) (by omega), Option.bind_some, nI_1]
      exact k1
    · by_cases e : j = i
      · subst e; rw [k4 j (by omega), xu_at]
      · exact k3 j (by omega) j2
    · rw [k4 j (by omega), xu_at2 (by omega)]
theorem e_fill {q N : Nat} {v : Int32} {d : xD} (hN : shA[q]? = some (.inr (.int, N))) (hN2 : N < 1000) : ∃ I', f_J7_fill_53178 shA q v d = some (I', d.2.1, d.2.2) ∧ (∀ k, k ≠ q → I' k = d.1 k) ∧ (∀ j, j < N → I' q j = v) := by
  obtain ⟨I', k1, k2, k3, _⟩ := fill_loop (v := v) (L := d.2.1) (R := d.2.2) hN hN2 N 0 xF d.1 (by omega) (xF_big hN2)
  refine ⟨I', ?_, k2, fun j hj => k3 j (by omega) hj⟩
  unfold f_J7_fill_53178
  rw [len_of hN, Option.bind_some]
  exact k1
theorem sc_fl {nw nb nr e tp tl : Nat} {mt : Nat → Nat → Prop} {fl : Prop} {G : Nat → Nat → Int32} {xw : Int32} {X : Nat → Nat → Int32} {nu : Int64} {Y : Nat → Nat → Int32} (hs : SC nw nb nr e tp tl mt fl G xw X nu Y) : SC nw nb nr e tp tl mt False G xw X nu Y := by
  refine ⟨(sc_mi hs :), (sc_ta hs :), (sc_pi hs :), (sc_nu hs :), (sc_cw hs :), (sc_st hs :), (sc_sp hs :), (sc_dn hs :), (sc_pa hs :), (sc_lf hs :), ?_, (sc_sa hs :), (sc_me hs :), (sc_se hs :), (sc_wo hs :), (sc_so hs :), (sc_sn hs :), (sc_e1 hs :), (sc_rc hs :), (sc_rr hs :), (sc_rt hs :), (sc_rz hs :), (sc_x0 hs :), (sc_x1 hs :)⟩
  intro z; exact z.elim
theorem sc_tw {nw nb nr e tp tl : Nat} {mt : Nat → Nat → Prop} {fl : Prop} {G : Nat → Nat → Int32} {xw : Int32} {X : Nat → Nat → Int32} {nu : Int64} {Y : Nat → Nat → Int32} (hs : SC nw nb nr e tp tl mt fl G xw X nu Y) {G' X' : Nat → Nat → Int32} (e0 : e = 0) (hpa : ∀ i, i < nw → (if nI i = G' 99 51 then G' 99 52 else G' 108 i) = (if nI i = G 99 51 then G 99 52 else G 108 i)) (hG : ∀ k, 101 ≤ k → k ≤ 116 → G' k = G k) (hX : ∀ j, j ≠ 8 → j ≠ 13 → X' j = X j) (h8 : ∀ b, b < nb → X' 8 b = if G' 99 50 = 5 then 3 else G 104 b) (h13 : ∀ r, r < nr → X' 13 r = if G' 99 50 = 4 then 1 else if bt (Y 4 0) r then 1 else 0) : SC nw nb nr e tp tl mt fl G' xw X' nu Y := by
  unfold SC at hs ⊢
  rw [hX 0 (by omega) (by omega), hX 1 (by omega) (by omega), hX 2 (by omega) (by omega), hX 3 (by omega) (by omega), hX 4 (by omega) (by omega), hX 5 (by omega) (by omega), hX 6 (by omega) (by omega), hX 7 (by omega) (by omega), hX 9 (by omega) (by omega), hX 10 (by omega) (by omega), hX 11 (by omega) (by omega), hX 12 (by omega) (by omega), hG 103 (by omega) (by omega), hG 104 (by omega) (by omega), hG 110 (by omega) (by omega), hG 111 (by omega) (by omega), hG 112 (by omega) (by omega)]
  obtain ⟨z1, z2, z3, z4, z5, z6, z7, z8, z9, z10, z11, z12, z13, z14, z15, z16, z17, z18, z19, z20, z21, z22, z23, z24⟩ := hs
  exact ⟨z1, z2, z3, z4, z5, z6, z7, z8, fun i hi => by rw [hpa i hi]; exact z9 i hi, z10, z11, z12, z13, h8, z15, z16, z17, z18, z19, z20, h13, z22, z23, fun w => by omega⟩
/-- one goes out, wherever he is; what is left isn't told then -/
theorem sc_outF {nw nb nr e tp tl : Nat} {mt : Nat → Nat → Prop} {G : Nat → Nat → Int32} {xw : Int32} {X : Nat → Nat → Int32} {nu : Int64} {Y : Nat → Nat → Int32} (hs : SC nw nb nr e tp tl mt False G xw X nu Y) {p : Nat} : SC nw nb nr e tp tl mt False G xw (xu X 1 p 3) nu (xu (xu (xu (xu Y 5 p 1) 8 p (-1)) 9 p 0) 5 p 3) := by
  have e5 : ∀ i, xu (xu (xu (xu Y 5 p 1) 8 p (-1)) 9 p 0) 5 p 3 5 i = if i = p then 3 else Y 5 i := by
    intro i; rw [xu_is]
    by_cases e : i = p
    · rw [if_pos e, if_pos e]
    · rw [if_neg e, if_neg e]
      show xu Y 5 p 1 5 i = _
      rw [xu_is, if_neg e]
  have e8 : ∀ i, xu (xu (xu (xu Y 5 p 1) 8 p (-1)) 9 p 0) 5 p 3 8 i = if i = p then -1 else Y 8 i := by
    intro i
    show xu (xu Y 5 p 1) 8 p (-1) 8 i = _
    rw [xu_is]; rfl
  have e9 : ∀ i, i ≠ p → xu (xu (xu (xu Y 5 p 1) 8 p (-1)) 9 p 0) 5 p 3 9 i = Y 9 i := by
    intro i e
    show xu (xu (xu Y 5 p 1) 8 p (-1)) 9 p 0 9 i = _
    rw [xu_is, if_neg e]; rfl
  refine ⟨(sc_mi hs :), (sc_ta hs :), (sc_pi hs :), (sc_nu hs :), (sc_cw hs :), ?_, (sc_sp hs :), (sc_dn hs :), (sc_pa hs :), ?_, ?_, (sc_sa hs :), (sc_me hs :), (sc_se hs :), (sc_wo hs :), ?_, ?_, (sc_e1 hs :), (sc_rc hs :), (sc_rr hs :), (sc_rt hs :), (sc_rz hs :), (sc_x0 hs :), (sc_x1 hs :)⟩
  · intro i hi; rw [e5, xu_is, sc_st hs i hi]
  · intro i hi h2
    rw [e5] at h2
    by_cases e : i = p
    · rw [if_pos e] at h2; exact absurd h2 (by decide)
    · rw [if_neg e] at h2; rw [e9 i e]; exact sc_lf hs i hi h2
  · intro z; exact z.elim
  · intro i hi h2
    rw [e5] at h2
    by_cases e : i = p
    · rw [if_pos e] at h2; exact absurd h2 (by decide)
    · rw [if_neg e] at h2; rw [e8, if_neg e]; exact sc_so hs i hi h2
  · intro i hi h2
    rw [e5] at h2
    rw [e8]
    by_cases e : i = p
    · rw [if_pos e]
    · rw [if_neg e] at h2; rw [if_neg e]; exact sc_sn hs i hi h2
theorem sc_pi0 {nw nb nr e tp tl : Nat} {mt : Nat → Nat → Prop} {fl : Prop} {G : Nat → Nat → Int32} {xw : Int32} {X : Nat → Nat → Int32} {nu : Int64} {Y : Nat → Nat → Int32} (hs : SC nw nb nr e tp tl mt fl G xw X nu Y) (ht : 2 ≤ tp) : SC nw nb nr e tp tl mt fl G xw (xu X 0 2 (-2)) nu (xu Y 3 0 0) := by
  refine ⟨(sc_mi hs :), (sc_ta hs :), ?_, (sc_nu hs :), (sc_cw hs :), (sc_st hs :), (sc_sp hs :), (sc_dn hs :), (sc_pa hs :), (sc_lf hs :), (sc_la hs :), (sc_sa hs :), (sc_me hs :), (sc_se hs :), (sc_wo hs :), (sc_so hs :), (sc_sn hs :), (sc_e1 hs :), (sc_rc hs :), (sc_rr hs :), (sc_rt hs :), (sc_rz hs :), (sc_x0 hs :), (sc_x1 hs :)⟩
  exact ⟨0, by omega, by rw [xu_is, if_pos rfl]; rfl, by rw [xu_is, if_pos rfl, if_pos rfl]⟩

/-! LEVEL 2: how a call's two sides are put together; the calls that only look -/
def MA (d md : xD) : Prop := (∀ k, 99 ≤ k → md.1 k = d.1 k ∧ md.2.1 k = d.2.1 k) ∧ md.2.2 = d.2.2
theorem CF.refl {P : Nat} {c : xD} : CF P c c := ⟨rfl, fun _ _ _ => rfl, fun _ _ _ _ _ => rfl⟩
theorem mf_of {P nw nb nr tp : Nat} {c m m' : xD} (h : RQ P nw nb nr tp c m) (e1 : m'.2.2 = m.2.2) (e2 : ∀ k, 99 < k → k < 138 → m'.1 k = m.1 k) (e3 : ∀ k, k ≠ 0 → m'.1 99 k = m.1 99 k) : MF m m' := by
  refine ⟨e1, fun k k1 k2 _ => e2 k k1 k2, fun k k0 _ _ _ _ _ _ _ => e3 k k0, (e3 50 (by omega)).trans (rq_tw h), (e3 51 (by omega)).trans (rq_po h), (e3 53 (by omega)).trans (rq_ew h), fun s _ => ⟨fun j hj => ?_, fun j p j1 j2 hp => ?_, fun b hb => ?_⟩⟩
  · show m'.1 (119 + j) _ = m.1 (119 + j) _; rw [e2 (119 + j) (by omega) (by omega)]
  · show m'.1 (119 + j) _ = m.1 (119 + j) _; rw [e2 (119 + j) (by omega) (by omega)]
  · show m'.1 (119 + 12) _ = m.1 (119 + 12) _; rw [e2 (119 + 12) (by omega) (by omega)]
theorem rq_md {P nw nb nr tp : Nat} {d md : xD} (h : RQ P nw nb nr tp d d) (hm : MA d md) : RQ P nw nb nr tp d md :=
  rl_frame h CF.refl (mf_of h hm.2 (fun k k1 _ => (hm.1 k (by omega)).1) (fun k _ => by rw [(hm.1 99 (by omega)).1]))
theorem rq_merge {P nw nb nr tp : Nat} {c m : xD} (h : RQ P nw nb nr tp c m) (e1 : m.2.2 = c.2.2) (e2 : ∀ k, k < 99 → m.1 k = c.1 k ∧ m.2.1 k = c.2.1 k) : RQ P nw nb nr tp m m :=
  rl_frame h ⟨e1, fun k k1 _ => (e2 k (by omega)).1, fun k k1 _ _ _ => (e2 k (by omega)).2⟩ (mf_of h rfl (fun _ _ _ => rfl) (fun _ _ => rfl))
def CO {α : Type} (fC fM : xD → Option (α × xD)) (d : xD) : Prop := ∀ md, MA d md → ∃ (r : α) (c' m' : xD), fC d = some (r, c') ∧ fM md = some (r, m') ∧ (c'.2.2 = d.2.2 ∧ ∀ k, 99 ≤ k → c'.1 k = d.1 k ∧ c'.2.1 k = d.2.1 k) ∧ (m'.2.2 = md.2.2 ∧ ∀ k, k < 99 → m'.1 k = md.1 k ∧ m'.2.1 k = md.2.1 k) ∧ ∃ P nw nb nr tp, RQ P nw nb nr tp c' m'
theorem co_L2 {α : Type} {fC fM : xD → Option (α × xD)} {d : xD} (h : CO fC fM d) : ∃ (r : α) (d1 d2 : xD), fC d = some (r, d1) ∧ fM d1 = some (r, d2) ∧ Rel d2 := by
  obtain ⟨r, c', m', e1, e2, ⟨e3, e4⟩, _, _⟩ := h d ⟨fun _ _ => ⟨rfl, rfl⟩, rfl⟩
  obtain ⟨r2, c2, m2, f1, f2, ⟨f3, f4⟩, ⟨f5, f6⟩, P, nw, nb, nr, tp, hq⟩ := h c' ⟨e4, e3⟩
  rw [e1] at f1
  have g := Prod.mk.inj (Option.some.inj f1)
  obtain ⟨g1, g2⟩ := g
  subst g1; subst g2
  exact ⟨r, c', m2, e1, f2, P, nw, nb, nr, tp, rq_merge hq f5 f6⟩
/-- thrown is 0 -/
def t0 (m : xD) : xD := (xu m.1 99 0 0, m.2.1, m.2.2)
theorem t0_rq {P nw nb nr tp : Nat} {c m : xD} (h : RQ P nw nb nr tp c m) : RQ P nw nb nr tp c (t0 m) :=
  rl_frame h CF.refl (mf_of h rfl (fun k k1 _ => xu_off (by omega)) (fun k k0 => by show xu m.1 99 0 0 99 k = _; exact xu_at2 k0))
theorem t0_e {m : xD} {α : Type} (F : xD → Option α) : (xpI 10 shA m 99 0 (0 : Int32)).bind F = F (t0 m) := by rw [pM_0, Option.bind_some]; rfl
theorem t0_fr {m : xD} : (t0 m).2.2 = m.2.2 ∧ ∀ k, k < 99 → (t0 m).1 k = m.1 k ∧ (t0 m).2.1 k = m.2.1 k := ⟨rfl, fun k hk => ⟨xu_off (by omega), rfl⟩⟩
theorem co_look {α : Type} {fC fM : xD → Option (α × xD)} {d : xD} (hd : Rel d) (h : ∀ P nw nb nr tp md m, m = t0 md → RQ P nw nb nr tp d m → ∃ r, fC d = some (r, d) ∧ fM md = some (r, m)) : CO fC fM d := by
  intro md hm
  obtain ⟨P, nw, nb, nr, tp, hq⟩ := hd
  have hq2 := t0_rq (rq_md hq hm)
  obtain ⟨r, e1, e2⟩ := h P nw nb nr tp md _ rfl hq2
  exact ⟨r, d, t0 md, e1, e2, ⟨rfl, fun _ _ => ⟨rfl, rfl⟩⟩, t0_fr, P, nw, nb, nr, tp, hq2⟩
theorem sc45 : isSc 45 := Or.inl rfl
theorem sc59 : isSc 59 := Or.inr (Or.inl rfl)
theorem sc73 : isSc 73 := Or.inr (Or.inr rfl)
theorem wf_refl {P q s nw nb nr tp : Nat} {c m : xD} (hc : RefOK c P) (hm : RefOK m P) (hq : isSc q) (hs : s < 23) (hp : PR P 0 nw nb nr tp c.1 m.1) : WF P q s nw nb nr tp c m c m :=
  ⟨hc, hm, hq, hs, hp, rfl, rfl, fun _ _ => rfl, fun _ _ _ _ _ _ => rfl, fun _ _ _ => rfl, fun _ _ _ => rfl, fun _ _ _ _ _ => rfl, fun _ _ _ _ _ => rfl, fun _ _ => rfl, fun _ _ _ _ => rfl, fun _ _ _ => rfl⟩
theorem rq_rs {P nw nb nr tp : Nat} {c m : xD} (h : RQ P nw nb nr tp c m) : RS P 45 0 nw nb nr tp 0 0 (fun _ _ => True) True c m c m :=
  ⟨wf_refl (rq_rc h) (rq_rm h) sc45 (by omega) (rq_pr h), by rw [rq_ew h]; exact rq_sn h⟩
theorem rq_pa {P nw nb nr tp : Nat} {c m : xD} (h : RQ P nw nb nr tp c m) : PA nw m.1 := by
  intro p hp
  have hw6 := pr_w6 (rq_pr h)
  obtain ⟨a, _, a2, _, a4⟩ := p0_wp (rq_pr h) p hp
  exact ⟨a, a2, by rw [pac_m1 (by omega) (rq_po h)]; exact a4⟩
section
variable {P nw nb nr tp : Nat} {c m : xD} (hq : RQ P nw nb nr tp c m)
theorem g0_4 : RQ P nw nb nr tp c m → xgR 9 shA c 0 4 = some P := fun hq => gR_of sA_0 (rf_0_4 (rq_rc hq))
theorem g0_8 : RQ P nw nb nr tp c m → xgR 9 shA c 0 8 = some 45 := fun hq => gR_of sA_0 (rf_0_8 (rq_rc hq))
theorem g0_9 : RQ P nw nb nr tp c m → xgR 9 shA c 0 9 = some 59 := fun hq => gR_of sA_0 (rf_0_9 (rq_rc hq))
theorem g0_10 : RQ P nw nb nr tp c m → xgR 9 shA c 0 10 = some 73 := fun hq => gR_of sA_0 (rf_0_10 (rq_rc hq))
theorem g0_12 : RQ P nw nb nr tp c m → xgR 9 shA c 0 12 = some 87 := fun hq => gR_of sA_0 (rf_0_12 (rq_rc hq))
theorem g0_13 : RQ P nw nb nr tp c m → xgR 9 shA c 0 13 = some 89 := fun hq => gR_of sA_0 (rf_0_13 (rq_rc hq))
theorem g0_14 : RQ P nw nb nr tp c m → xgR 9 shA c 0 14 = some 92 := fun hq => gR_of sA_0 (rf_0_14 (rq_rc hq))
theorem a0_1 {d : xD} : xaI .int shA d 119 (0 : Int32) = some (d.1 119 0) := aI_of (i := 0) sA_119 (by decide) (by decide)
theorem a0_3 {d : xD} : xaI .int shA d 121 (0 : Int32) = some (d.1 121 0) := aI_of (i := 0) sA_121 (by decide) (by decide)
theorem a0_4 {d : xD} : xaI .int shA d 122 (0 : Int32) = some (d.1 122 0) := aI_of (i := 0) sA_122 (by decide) (by decide)
theorem a0_5 {d : xD} : xaI .int shA d 123 (0 : Int32) = some (d.1 123 0) := aI_of (i := 0) sA_123 (by decide) (by decide)
theorem e_hasW : RQ P nw nb nr tp c m → ∀ x : Int32, (∃ p, p < nw ∧ x = nI p ∧ f_X3_hasWalker shA P x c = some (1, c) ∧ f_X10_isWalker shA 99 x m = some (1, m)) ∨ (f_X3_hasWalker shA P x c = some (0, c) ∧ f_X10_isWalker shA 99 x m = some (0, m)) := by
  intro hq x
  have hp := pr_pl (rq_pr hq)
  have hw6 := pr_w6 (rq_pr hq)
  have e1 : c.1 P 9 = nI nw := pr_cW (rq_pr hq)
  have e2 : m.1 101 2 = nI nw := p0_mW (rq_pr hq)
  unfold f_X3_hasWalker f_X10_isWalker k_X3_hasWalker_16 k_X3_hasWalker_17 k_X10_isWalker_18 k_X10_isWalker_19
  rw [gI_of (sp_0 hp), Option.bind_some, e1, gR_of sA_99 (rf_99_3 (rq_rm hq)), Option.bind_some, aN_2, Option.bind_some, e2]
  by_cases h1 : x < 0
  · rw [if_pos h1, if_pos h1]; exact Or.inr ⟨rfl, rfl⟩
  · rw [if_neg h1, if_neg h1]
    by_cases h2 : nI nw ≤ x
    · rw [if_pos h2, if_pos h2]; exact Or.inr ⟨rfl, rfl⟩
    · rw [if_neg h2, if_neg h2]
      obtain ⟨j, hj, rfl⟩ := nI_of h1
      exact Or.inl ⟨j, by
        rcases Nat.lt_or_ge j nw with z | z
        · exact z
        · exact absurd (nI_le z hj) h2, rfl, rfl, rfl⟩
theorem e_hasB : RQ P nw nb nr tp c m → ∀ x : Int32, (∃ p, p < nb ∧ x = nI p ∧ f_X3_hasBench shA P x c = some (1, c) ∧ f_X10_isBench shA 99 x m = some (1, m)) ∨ (f_X3_hasBench shA P x c = some (0, c) ∧ f_X10_isBench shA 99 x m = some (0, m)) := by
  intro hq x
  have hp := pr_pl (rq_pr hq)
  have hw6 := pr_b8 (rq_pr hq)
  have e1 : c.1 P 4 = nI nb := pr_cB (rq_pr hq)
  have e2 : m.1 101 1 = nI nb := p0_mB (rq_pr hq)
  unfold f_X3_hasBench f_X10_isBench k_X3_hasBench_16 k_X3_hasBench_17 k_X10_isBench_18 k_X10_isBench_19
  rw [gI_of (sp_0 hp), Option.bind_some, e1, gR_of sA_99 (rf_99_3 (rq_rm hq)), Option.bind_some, aN_1, Option.bind_some, e2]
  by_cases h1 : x < 0
  · rw [if_pos h1, if_pos h1]; exact Or.inr ⟨rfl, rfl⟩
  · rw [if_neg h1, if_neg h1]
    by_cases h2 : nI nb ≤ x
    · rw [if_pos h2, if_pos h2]; exact Or.inr ⟨rfl, rfl⟩
    · rw [if_neg h2, if_neg h2]
      obtain ⟨j, hj, rfl⟩ := nI_of h1
      exact Or.inl ⟨j, by
        rcases Nat.lt_or_ge j nb with z | z
        · exact z
        · exact absurd (nI_le z hj) h2, rfl, rfl, rfl⟩
end
theorem l2_fault : L2_fault Rel := by
  intro d a1 hd
  refine co_L2 (fC := f_X9_fault shA 0 a1) (fM := f_X10_fault shA 99 a1) (co_look hd ?_)
  intro P nw nb nr tp md m hm hq
  unfold f_X10_fault
  rw [t0_e, ← hm]
  unfold f_X9_fault k_X9_fault_22 k_X10_fault_29
  rw [gI_of sA_0, Option.bind_some, gI_of sA_0, Option.bind_some, (rq_fa hq).1, (rq_fa hq).2]
  rw [gI_of sA_99, Option.bind_some, gI_of sA_99, Option.bind_some]
  by_cases h0 : a1 = 0
  · rw [if_pos h0, if_pos h0]; exact ⟨_, rfl, rfl⟩
  · rw [if_neg h0, if_neg h0]
    by_cases h1 : a1 = 1
    · rw [if_pos h1, if_pos h1]; exact ⟨_, rfl, rfl⟩
    · rw [if_neg h1, if_neg h1]; exact ⟨_, rfl, rfl⟩
theorem l2_piano : L2_piano Rel := by
  intro d hd
  refine co_L2 (fC := f_X9_piano shA 0) (fM := f_X10_piano shA 99) (co_look hd ?_)
  intro P nw nb nr tp md m hm hq
  have ht60 := pr_t60 (rq_pr hq)
  obtain ⟨a, a1, a2, a3⟩ := sc_pi (rq_sn hq)
  have a2 : m.1 122 0 = nI a := by rw [← a2]; exact rM_122
  have a3 : d.1 45 2 = _ := a3
  unfold f_X10_piano
  rw [t0_e, ← hm]
  unfold f_X9_piano k_X10_piano_25
  rw [g0_8 hq, Option.bind_some, gI_of sA_45, Option.bind_some, a3]
  simp only [gR_of sA_99 (rf_99_38 (rq_rm hq)), Option.bind_some, a0_4, a2]
  by_cases h0 : a = 0
  · rw [if_pos h0, h0, if_pos (by decide)]; exact ⟨_, rfl, rfl⟩
  · rw [if_neg h0, if_neg (nI_ne0 (by omega) (by omega))]; exact ⟨_, rfl, rfl⟩
theorem l2_named : L2_named Rel := by
  intro d a1 a2 hd
  refine co_L2 (fC := f_X9_named shA 0 a1 a2) (fM := f_X10_named shA 99 a1 a2) (co_look hd ?_)
  intro P nw nb nr tp md m hm hq
  have hp := pr_pl (rq_pr hq)
  have hw6 := pr_w6 (rq_pr hq)
  have hb8 := pr_b8 (rq_pr hq)
  have c1 : d.1 P 9 = nI nw := pr_cW (rq_pr hq)
  have c2 : m.1 101 2 = nI nw := p0_mW (rq_pr hq)
  have c3 : d.1 P 4 = nI nb := pr_cB (rq_pr hq)
  have c4 : m.1 101 1 = nI nb := p0_mB (rq_pr hq)
  unfold f_X10_named
  rw [t0_e, ← hm]
  unfold f_X9_named k_X9_named_30
  by_cases h0 : a1 = 0
  · rw [if_pos h0, if_pos h0]
    have e1 := X3_indexOf (d := d) (v := a2) (n := nb) (sp_1 hp) (by omega) (by omega) (xF_big (by omega))
    have e2 := X10_found (d := m) (v := a2) (o := 0) (n := nb) sA_102 (by omega) (by omega) (xF_big (by omega))
    rw [nI_0] at e2
    simp only [Nat.zero_add] at e2
    rw [findI_congr nb 0 (g := m.1 102) (fun j _ hj => p0_bn (rq_pr hq) j (by omega))] at e1
    unfold f_X3_benchNamed
    rw [g0_4 hq, Option.bind_some, on_of (sp_0 hp), gR_of (sp_0 hp) (rp_5 (rq_rc hq) hp), Option.bind_some, gI_of (sp_0 hp), Option.bind_some, c3, e1, gR_of sA_99 (rf_99_4 (rq_rm hq)), gR_of sA_99 (rf_99_3 (rq_rm hq)), Option.bind_some, Option.bind_some, Option.bind_some, Option.bind_some, aN_1, Option.bind_some, c4, e2]
    exact ⟨_, rfl, rfl⟩
  · rw [if_neg h0, if_neg h0]
    by_cases h1 : a1 = 1
    · rw [if_pos h1, if_pos h1]
      have e1 := X3_indexOf (d := d) (v := a2) (n := nw) (sp_5 hp) (by omega) (by omega) (xF_big (by omega))
      have e2 := X10_found (d := m) (v := a2) (o := 0) (n := nw) sA_105 (by omega) (by omega) (xF_big (by omega))
      rw [nI_0] at e2
      simp only [Nat.zero_add] at e2
      rw [findI_congr nw 0 (g := m.1 105) (fun j _ hj => p0_wn (rq_pr hq) j (by omega))] at e1
      unfold f_X3_walkerNamed
      rw [g0_4 hq, Option.bind_some, on_of (sp_0 hp), gR_of (sp_0 hp) (rp_10 (rq_rc hq) hp), Option.bind_some, gI_of (sp_0 hp), Option.bind_some, c1, e1, gR_of sA_99 (rf_99_7 (rq_rm hq)), gR_of sA_99 (rf_99_3 (rq_rm hq)), Option.bind_some, Option.bind_some, Option.bind_some, Option.bind_some, aN_2, Option.bind_some, c2, e2]
      exact ⟨_, rfl, rfl⟩
    · rw [if_neg h1, if_neg h1]; exact ⟨_, rfl, rfl⟩
theorem l2_restOf : L2_restOf Rel := by
  intro d a1 a2 hd
  refine co_L2 (fC := f_X9_restOf shA 0 a1 a2) (fM := f_X10_restOf shA 99 a1 a2) (co_look hd ?_)
  intro P nw nb nr tp md m hm hq
  have hr12 := pr_r12 (rq_pr hq)
  have hRc := rq_rc hq
  have hRm := rq_rm hq
  have c1 : d.1 45 14 = nI nr := sc_rc (rq_sn hq)
  have c2 : m.1 101 3 = nI nr := p0_mR (rq_pr hq)
  unfold f_X10_restOf
  rw [t0_e, ← hm]
  unfold f_X9_restOf k_X9_restOf_15 k_X10_restOf_19 k_X10_restOf_81
  by_cases h1 : a1 < 0
  · rw [if_pos h1, if_pos h1]; exact ⟨_, rfl, rfl⟩
  · simp only [if_neg h1, g0_8 hq, Option.bind_some, gI_of sA_45, c1, gR_of sA_99 (rf_99_3 hRm), aN_3, c2]
    by_cases h2 : a1 < nI nr
    · rw [if_pos h2, if_pos h2]
      obtain ⟨r, hr, rfl⟩ := nI_of h1
      have hrn : r < nr := (nI_ltI hr (by omega)).mp h2
      obtain ⟨r1, r2, r3⟩ := sc_rr (rq_sn hq) r hrn
      have r1 : d.1 55 r = m.1 110 r := r1
      have r2 : d.1 56 r = m.1 111 r := r2
      have r3 : d.1 57 r = m.1 112 r := r3
      have r4 : d.1 58 r = _ := sc_rt (rq_sn hq) r hrn
      rw [rq_tw hq, if_neg (by decide)] at r4
      have r5 : vM 0 m.1 4 0 = m.1 123 0 := rM_123.symm
      rw [r5] at r4
      simp (disch := omega) only [Option.bind_some, xgR, sA_45, ↓reduceIte, rf_45_15 hRc, rf_45_16 hRc, rf_45_17 hRc, rf_45_18 hRc, aI_of sA_55, aI_of sA_56, aI_of sA_57, aI_of sA_58, r1, r2, r3, r4, sA_99, rf_99_12 hRm, rf_99_13 hRm, rf_99_14 hRm, rf_99_39 hRm, aI_of sA_110, aI_of sA_111, aI_of sA_112, a0_5, bi1 _ (show r < 32 by omega)]
      by_cases k0 : a2 = 0
      · simp only [if_pos k0]; exact ⟨_, rfl, rfl⟩
      · by_cases k1 : a2 = 1
        · simp only [if_neg k0, if_pos k1]; exact ⟨_, rfl, rfl⟩
        · by_cases k2 : a2 = 2
          · simp only [if_neg k0, if_neg k1, if_pos k2]; exact ⟨_, rfl, rfl⟩
          · by_cases k3 : a2 = 3
            · simp only [if_neg k0, if_neg k1, if_neg k2, if_pos k3]; exact ⟨_, rfl, rfl⟩
            · simp only [if_neg k0, if_neg k1, if_neg k2, if_neg k3]; exact ⟨_, rfl, rfl⟩
    · rw [if_neg h2, if_neg h2]; exact ⟨_, rfl, rfl⟩

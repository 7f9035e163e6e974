/-! LEVEL 2: quiet -/
def ilF : Nat → Int32 → Int32 → Int32 → Option Int32
  | 0, _, _, _ => none
  | F + 1, x0, x1, x2 => if x2 ≤ (1 : Int32) then some x0 else ((xmI x0 x2).bind fun v1 => if v1 = 0 then ((xmI x1 x2).bind fun v2 => if v2 = 0 then xdI x0 x2 else ilF F x0 x1 (x2 + (-1))) else ilF F x0 x1 (x2 + (-1)))
theorem il_loop {d : xD} {x0 x1 : Int32} : ∀ k F x2 r, ilF k x0 x1 x2 = some r → k ≤ F → xloop (fun _ _ _ _ => none) (b_X9_inLeastTerms_3 shA) F x0 x1 x2 d = some (r, d) := by
  intro k
  induction k with
  | zero => intro F x2 r h; exact absurd h (by simp [ilF])
  | succ k ih =>
    intro F x2 r h hF
    obtain ⟨F, rfl⟩ : ∃ G, F = G + 1 := ⟨F - 1, by omega⟩
    rw [ilF] at h
    rw [loop_s, b_X9_inLeastTerms_3]
    unfold k_X9_inLeastTerms_30 k_X9_inLeastTerms_20 k_X9_inLeastTerms_24
    by_cases c1 : x2 ≤ 1
    · rw [if_pos c1] at h ⊢; rw [Option.some.inj h]
    rw [if_neg c1] at h ⊢
    cases v1 : xmI x0 x2 with
    | none => rw [v1] at h; exact absurd h (by simp)
    | some w1 =>
      rw [v1, Option.bind_some] at h
      rw [Option.bind_some]
      by_cases c2 : w1 = 0
      · rw [if_pos c2] at h ⊢
        cases v2 : xmI x1 x2 with
        | none => rw [v2] at h; exact absurd h (by simp)
        | some w2 =>
          rw [v2, Option.bind_some] at h
          rw [Option.bind_some]
          by_cases c3 : w2 = 0
          · rw [if_pos c3] at h ⊢; rw [h]; rfl
          · rw [if_neg c3] at h ⊢; exact ih F _ r h (by omega)
      · rw [if_neg c2] at h ⊢; exact ih F _ r h (by omega)
def cmF : Nat → Int64 → Int64 → Option Int64
  | 0, _, _ => none
  | F + 1, x4, x6 => if (lg_cmp x6 (0 : Int64)) = 0 then some x4 else ((xmL x4 x6).bind fun v1 => cmF F x6 v1)
theorem cm_loop {d : xD} : ∀ k F x4 x6 r, cmF k x4 x6 = some r → k ≤ F → xloop (fun _ _ _ => none) (b_X10_common_6 shA) F x4 x6 d = some (r, d) := by
  intro k
  induction k with
  | zero => intro F x4 x6 r h; exact absurd h (by simp [cmF])
  | succ k ih =>
    intro F x4 x6 r h hF
    obtain ⟨F, rfl⟩ : ∃ G, F = G + 1 := ⟨F - 1, by omega⟩
    rw [cmF] at h
    rw [loop_s, b_X10_common_6]
    unfold k_X10_common_31
    by_cases c1 : (lg_cmp x6 (0 : Int64)) = 0
    · rw [if_pos c1] at h ⊢; rw [Option.some.inj h]
    rw [if_neg c1] at h ⊢
    cases v1 : xmL x4 x6 with
    | none => rw [v1] at h; exact absurd h (by simp)
    | some w1 =>
      rw [v1, Option.bind_some] at h
      rw [Option.bind_some]
      exact ih F _ _ r h (by omega)
def pw (c : Int64) : Nat → Int64
  | 0 => 1
  | n + 1 => pw c n * c
theorem quietC_loop {d : xD} {n : Nat} (hn : n ≤ 6) {y : Int32} : ∀ k j F, j + k = n → k < F → xloop (fun _ _ _ _ _ => none) (b_X9_quiet_61 shA) F (nI n) y (pw y.toInt64 j) (nI j) d = some (pw y.toInt64 n, d) := by
  intro k
  induction k with
  | zero =>
    intro j F h1 h2
    obtain ⟨F, rfl⟩ : ∃ G, F = G + 1 := ⟨F - 1, by omega⟩
    rw [loop_s, b_X9_quiet_61, if_pos (nI_le (by omega) (by omega)), show j = n by omega]; rfl
  | succ k ih =>
    intro j F h1 h2
    obtain ⟨F, rfl⟩ : ∃ G, F = G + 1 := ⟨F - 1, by omega⟩
    rw [loop_s, b_X9_quiet_61, if_neg (nI_ge (by omega) (by omega)), nI_1]
    exact ih (j + 1) F (by omega) (by omega)
theorem quietM_loop {m : xD} {P : Nat} (hR : RefOK m P) {n : Nat} (hn : n ≤ 6) {x2 : Int32} : ∀ k j F, j + k = n → k < F → xloop (fun _ _ _ _ _ _ _ => none) (b_X10_quiet_36 shA) F 99 (nI n) x2 (pw (100 - (m.1 101 5).toInt64) j) (pw 100 j) (nI j) m = k_X10_quiet_70 shA x2 (pw (100 - (m.1 101 5).toInt64) n) (pw 100 n) m := by
  intro k
  induction k with
  | zero =>
    intro j F h1 h2
    obtain ⟨F, rfl⟩ : ∃ G, F = G + 1 := ⟨F - 1, by omega⟩
    rw [loop_s, b_X10_quiet_36, if_pos (nI_le (by omega) (by omega)), show j = n by omega]
  | succ k ih =>
    intro j F h1 h2
    obtain ⟨F, rfl⟩ : ∃ G, F = G + 1 := ⟨F - 1, by omega⟩
    rw [loop_s, b_X10_quiet_36, if_neg (nI_ge (by omega) (by omega)), gR_of sA_99 (rf_99_3 hR), Option.bind_some, aN_5, Option.bind_some, nI_1]
    exact ih (j + 1) F (by omega) (by omega)
/-- the two parts in least terms: nobody called, and a hundred -/
def qv_ (a : Nat) : Int32 := nI ((100 - a) / Nat.gcd (100 - a) 100)
def qw_ (a : Nat) : Int32 := nI (100 / Nat.gcd (100 - a) 100)
theorem qt1 : ∀ a : Fin 101, ilF 101 (100 - nI a.val) 100 100 = some (qv_ a.val) := by decide +kernel
theorem qt3 : ∀ a : Fin 101, ilF 101 100 (100 - nI a.val) 100 = some (qw_ a.val) := by decide +kernel
theorem qt2 : ∀ a : Fin 101, ∀ n : Fin 7, ∃ g, cmF 80 (pw (100 - (nI a.val).toInt64) n.val) (pw 100 n.val) = some g ∧ xdL (pw (100 - (nI a.val).toInt64) n.val) g = some (pw (qv_ a.val).toInt64 n.val) ∧ xdL (pw 100 n.val) g = some (pw (qw_ a.val).toInt64 n.val) := by
  have h : ∀ a : Fin 101, ∀ n : Fin 7, (match cmF 80 (pw (100 - (nI a.val).toInt64) n.val) (pw 100 n.val) with | some g => decide (xdL (pw (100 - (nI a.val).toInt64) n.val) g = some (pw (qv_ a.val).toInt64 n.val) ∧ xdL (pw 100 n.val) g = some (pw (qw_ a.val).toInt64 n.val)) | _ => false) = true := by decide +kernel
  intro a n
  have z := h a n
  revert z
  cases cmF 80 (pw (100 - (nI a.val).toInt64) n.val) (pw 100 n.val) with
  | none => intro z; exact absurd z (by simp)
  | some g =>
    intro z
    have z := of_decide_eq_true z
    exact ⟨g, rfl, z.1, z.2⟩
theorem l2_quiet : L2_quiet Rel := by
  intro d a1 a2 hd
  refine co_L2 (fC := f_X9_quiet shA 0 a1 a2) (fM := f_X10_quiet shA 99 a1 a2) (co_look hd ?_)
  intro P nw nb nr tp md m hm hQ
  have hp := pr_pl (rq_pr hQ)
  have hRc := rq_rc hQ; have hRm := rq_rm hQ
  obtain ⟨a, ha, y5, x5⟩ := pr_ca (rq_pr hQ)
  have y5 : m.1 101 5 = nI a := y5
  unfold f_X10_quiet
  rw [t0_e, ← hm]
  unfold f_X9_quiet k_X9_quiet_19 k_X10_quiet_24
  by_cases c1 : a1 < 0
  · rw [if_pos c1, if_pos c1]; exact ⟨_, rfl, rfl⟩
  rw [if_neg c1, if_neg c1]
  by_cases c2 : 6 < a1
  · rw [if_pos c2, if_pos c2]; exact ⟨_, rfl, rfl⟩
  rw [if_neg c2, if_neg c2]
  by_cases c3 : a2 < 0
  · rw [if_pos c3, if_pos c3]; exact ⟨_, rfl, rfl⟩
  rw [if_neg c3, if_neg c3]
  by_cases c4 : a2 ≤ 1
  · rw [if_pos c4, if_pos c4]
    obtain ⟨n, hn, rfl⟩ := nI_of2 (n := 6) (by decide) c1 (Int32.not_lt.mp c2)
    obtain ⟨g, q3, q4, q5⟩ := qt2 ⟨a, by omega⟩ ⟨n, by omega⟩
    dsimp only at q3 q4 q5
    have eC := il_loop (d := d) 101 xF 100 _ (qt1 ⟨a, by omega⟩) (by unfold xF; omega)
    have eD := il_loop (d := d) 101 xF 100 _ (qt3 ⟨a, by omega⟩) (by unfold xF; omega)
    dsimp only at eC eD
    have eM := quietM_loop hRm hn (x2 := a2) n 0 xF (by omega) (by unfold xF; omega)
    rw [nI_0, y5] at eM
    have eG := cm_loop (d := m) 80 xF _ _ _ q3 (by unfold xF; omega)
    have l1 := quietC_loop (d := d) hn (y := qv_ a) n 0 xF (by omega) (by unfold xF; omega)
    have l2 := quietC_loop (d := d) hn (y := qw_ a) n 0 xF (by omega) (by unfold xF; omega)
    rw [nI_0] at l1 l2
    have eM' : xloop (fun _ _ _ _ _ _ _ => none) (b_X10_quiet_36 shA) xF 99 (nI n) a2 1 1 0 m = k_X10_quiet_70 shA a2 (pw (100 - (nI a).toInt64) n) (pw 100 n) m := eM
    rw [g0_4 hQ, Option.bind_some, gI_of (sp_0 hp), Option.bind_some, x5, eM', k_X10_quiet_70]
    unfold f_X9_inLeastTerms f_X10_common k_X10_quiet_94 k_X9_quiet_53
    rw [eG, Option.bind_some]
    dsimp only
    by_cases c5 : a2 = 0
    · rw [if_pos c5, if_pos c5, eC, Option.bind_some, q4, Option.bind_some]
      exact ⟨_, l1, rfl⟩
    · rw [if_neg c5, if_neg c5, eD, Option.bind_some, q5, Option.bind_some]
      exact ⟨_, l2, rfl⟩
  · rw [if_neg c4, if_neg c4]; exact ⟨_, rfl, rfl⟩

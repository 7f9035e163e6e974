/-! LEVEL 2: a law's worth: one pure evaluation, to which both sides come -/
def up1 (f : Nat → Int64) (k : Nat) (v : Int64) : Nat → Int64 := fun j => if j = k then v else f j
theorem xu_up {f : Nat → Nat → Int64} {q k : Nat} {v : Int64} : xu f q k v q = up1 (f q) k v := xu_row
def ev (so va : Nat → Int32) (nm : Nat → Int64) : Nat → Nat → Nat → (Nat → Int64) → Option Int64
  | _, 0, _, f => some (f 0)
  | i, n + 1, h, f => if so i = 2 then (if va i = 260 then ev so va nm (i + 1) n h (up1 f (h - 1) (if lg_cmp (f (h - 1)) 0 = 0 then 1 else 0)) else (opv (va i) (f (h - 2)) (f (h - 1))).bind fun v => ev so va nm (i + 1) n (h - 1) (up1 f (h - 2) v)) else ev so va nm (i + 1) n (h + 1) (up1 f h (if so i = 0 then (va i).toInt64 else nm (va i).toNatClampNeg))
section
variable {so va : Nat → Int32} {nm : Nat → Int64} {i n h : Nat} {f : Nat → Int64}
theorem ev_n (s0 : so i = 0) : ev so va nm i (n + 1) h f = ev so va nm (i + 1) n (h + 1) (up1 f h (va i).toInt64) := by
  rw [ev, if_neg (by rw [s0]; decide), if_pos s0]
theorem ev_a (s0 : so i = 1) : ev so va nm i (n + 1) h f = ev so va nm (i + 1) n (h + 1) (up1 f h (nm (va i).toNatClampNeg)) := by
  rw [ev, if_neg (by rw [s0]; decide), if_neg (by rw [s0]; decide)]
theorem ev_not (s0 : so i = 2) (v0 : va i = 260) : ev so va nm i (n + 1) (h + 1) f = ev so va nm (i + 1) n (h + 1) (up1 f h (if lg_cmp (f h) 0 = 0 then 1 else 0)) := by
  rw [ev, if_pos s0, if_pos v0]; rfl
theorem ev_op (s0 : so i = 2) (v0 : ¬ va i = 260) : ev so va nm i (n + 1) (h + 2) f = (opv (va i) (f h) (f (h + 1))).bind fun v => ev so va nm (i + 1) n (h + 1) (up1 f h v) := by
  rw [ev, if_pos s0, if_neg v0]; rfl
theorem post_v (s0 : ¬ so i = 2) (hh : post so va i (n + 1) h) : post so va (i + 1) n (h + 1) := by
  rw [post, if_neg s0] at hh; exact hh
theorem post_not (s0 : so i = 2) (v0 : va i = 260) (hh : post so va i (n + 1) h) : 1 ≤ h ∧ post so va (i + 1) n h := by
  rw [post, if_pos s0, if_pos v0] at hh; exact hh
theorem post_op (s0 : so i = 2) (v0 : ¬ va i = 260) (hh : post so va i (n + 1) h) : 2 ≤ h ∧ post so va (i + 1) n (h - 1) := by
  rw [post, if_pos s0, if_neg v0] at hh; exact hh
end
theorem up1_lt {f g : Nat → Int64} {h k : Nat} {v : Int64} (hh : ∀ j, j < h → j ≠ k → f j = g j) : ∀ j, j < h → up1 f k v j = up1 g k v j := by
  intro j hj
  unfold up1
  by_cases e : j = k
  · rw [if_pos e, if_pos e]
  · rw [if_neg e, if_neg e]; exact hh j hj e
theorem ev_congr {so va : Nat → Int32} {nm nm' : Nat → Int64} : ∀ n i h (f g : Nat → Int64), (∀ j, j < h → f j = g j) → (∀ j, i ≤ j → j < i + n → ¬ so j = 2 → ¬ so j = 0 → nm (va j).toNatClampNeg = nm' (va j).toNatClampNeg) → post so va i n h → ev so va nm i n h f = ev so va nm' i n h g := by
  intro n
  induction n with
  | zero =>
    intro i h f g h1 h2 h3
    have h4 : h = 1 := h3
    show some (f 0) = some (g 0)
    rw [h1 0 (by omega)]
  | succ n ih =>
    intro i h f g h1 h2 h3
    by_cases s2 : so i = 2
    · by_cases v2 : va i = 260
      · obtain ⟨h4, h5⟩ := post_not s2 v2 h3
        obtain ⟨h, rfl⟩ : ∃ g, h = g + 1 := ⟨h - 1, by omega⟩
        rw [ev_not s2 v2, ev_not s2 v2, h1 h (by omega)]
        exact ih _ _ _ _ (up1_lt (fun j hj _ => h1 j hj)) (fun j a1 a2 => h2 j (by omega) (by omega)) h5
      · obtain ⟨h4, h5⟩ := post_op s2 v2 h3
        obtain ⟨h, rfl⟩ : ∃ g, h = g + 2 := ⟨h - 2, by omega⟩
        rw [ev_op s2 v2, ev_op s2 v2, h1 h (by omega), h1 (h + 1) (by omega)]
        congr 1
        funext v
        exact ih _ _ _ _ (up1_lt (fun j hj _ => h1 j (by omega))) (fun j a1 a2 => h2 j (by omega) (by omega)) h5
    · have h5 := post_v s2 h3
      have e : (if so i = 0 then (va i).toInt64 else nm (va i).toNatClampNeg) = (if so i = 0 then (va i).toInt64 else nm' (va i).toNatClampNeg) := by
        by_cases s0 : so i = 0
        · rw [if_pos s0, if_pos s0]
        · rw [if_neg s0, if_neg s0]; exact h2 i (by omega) (by omega) s2 s0
      rw [ev, ev, if_neg s2, if_neg s2, e]
      exact ih _ _ _ _ (up1_lt (fun j hj hk => h1 j (by omega))) (fun j a1 a2 => h2 j (by omega) (by omega)) h5
theorem toL_ne (x : Int32) : x.toInt64 ≠ -9223372036854775808 := by
  intro e
  have h1 := congrArg Int64.toInt e
  rw [Int32.toInt_toInt64, show (-9223372036854775808 : Int64).toInt = -9223372036854775808 by decide] at h1
  have h2 := Int32.le_toInt x
  omega
theorem up1_ne {f : Nat → Int64} {h k : Nat} {v : Int64} (hv : v ≠ -9223372036854775808) (hh : ∀ j, j < h → j ≠ k → f j ≠ -9223372036854775808) : ∀ j, j < h → up1 f k v j ≠ -9223372036854775808 := by
  intro j hj
  unfold up1
  by_cases e : j = k
  · rw [if_pos e]; exact hv
  · rw [if_neg e]; exact hh j hj e
theorem ev_ne {so va : Nat → Int32} {nm : Nat → Int64} (hnm : ∀ a, nm a ≠ -9223372036854775808) : ∀ n i h (f : Nat → Int64), (∀ j, j < h → f j ≠ -9223372036854775808) → post so va i n h → ∀ v, ev so va nm i n h f = some v → v ≠ -9223372036854775808 := by
  intro n
  induction n with
  | zero =>
    intro i h f h1 h3 v hv
    have h4 : h = 1 := h3
    have h5 : some (f 0) = some v := hv
    rw [← Option.some.inj h5]
    exact h1 0 (by omega)
  | succ n ih =>
    intro i h f h1 h3 v hv
    by_cases s2 : so i = 2
    · by_cases v2 : va i = 260
      · obtain ⟨h4, h5⟩ := post_not s2 v2 h3
        obtain ⟨h, rfl⟩ : ∃ g, h = g + 1 := ⟨h - 1, by omega⟩
        rw [ev_not s2 v2] at hv
        refine ih _ _ _ (up1_ne ?_ (fun j hj _ => h1 j hj)) h5 v hv
        by_cases p : lg_cmp (f h) 0 = 0
        · rw [if_pos p]; decide
        · rw [if_neg p]; decide
      · obtain ⟨h4, h5⟩ := post_op s2 v2 h3
        obtain ⟨h, rfl⟩ : ∃ g, h = g + 2 := ⟨h - 2, by omega⟩
        rw [ev_op s2 v2] at hv
        obtain ⟨w, hw1, hw2⟩ := x_ob hv
        exact ih _ _ _ (up1_ne (opv_ne hw1) (fun j hj _ => h1 j (by omega))) h5 v hw2
    · have h5 := post_v s2 h3
      rw [ev, if_neg s2] at hv
      refine ih _ _ _ (up1_ne ?_ (fun j hj hk => h1 j (by omega))) h5 v hv
      by_cases s0 : so i = 0
      · rw [if_pos s0]; exact toL_ne _
      · rw [if_neg s0]; exact hnm _
theorem trK_sg {va : Int32} (h : isSg va) : ¬ trK 2 va = 22 ∧ (¬ trK 2 va < 14 → 20 < trK 2 va) ∧ (trK 2 va = 13 ↔ va = 260) ∧ (trK 2 va = 28 ↔ va = 42) := by
  rcases h with e | e | e | e | e | e | e | e | e | e | e | e | e <;> subst e <;> decide
theorem trK_nm : ∀ a, a < 7 → ¬ trK 1 (nI a) = 22 ∧ ¬ trK 1 (nI a) < 14 ∧ ¬ 20 < trK 1 (nI a) ∧ trK 1 (nI a) - 14 = nI a := by decide
theorem workOut_loop {c : xD} {P : Nat} (hRc : RefOK c P) (hp : isPl P) {so va : Nat → Int32} {k a b : Nat} (hk : k < 3) (hb : b ≤ 64) (hto : c.1 (P + 17) k = nI b) (hok : ∀ i, a ≤ i → i < b → c.1 (P + 14) i = trK (so i) (va i) ∧ okK (so i) (va i) (c.1 (P + 15) i)) : ∀ n i h F L, i + n = b → a ≤ i → h ≤ i → n < F → post so va i n h → ∃ L', (∀ j, j ≠ P + 18 → L' j = L j) ∧ xloop (fun _ _ _ _ _ _ => none) (b_X1_workOut_10 shA) F (P + 13) (nI k) 88 (nI h) (nI i) (c.1, L, c.2.2) = some ((ev so va (L 88) i n h (L (P + 18))).getD (-9223372036854775808), (c.1, L', c.2.2)) := by
  have hpr := isPl_le hp
  intro n
  induction n with
  | zero =>
    intro i h F L h1 h2 h3 h4 h5
    obtain ⟨F, rfl⟩ : ∃ G, F = G + 1 := ⟨F - 1, by omega⟩
    have h6 : h = 1 := h5
    subst h6
    refine ⟨L, fun _ _ => rfl, ?_⟩
    rw [loop_s, b_X1_workOut_10]
    simp (disch := omega) only [xgR, Option.bind_some, ↓reduceIte, sp_13 hp, rl_6 hRc hp, aI_of (sp_17 hp), hto]
    rw [if_pos (nI_le (by omega) (by omega))]
    unfold k_X1_workOut_242 k_X1_workOut_259
    have e0 : xaL shA (c.1, L, c.2.2) (P + 18) 0 = some (L (P + 18) 0) := aL_of (i := 0) (sp_18 hp) (by omega) (by omega)
    rw [if_pos (show nI 1 = 1 from rfl)]
    simp only [xgR, Option.bind_some, ↓reduceIte, sp_13 hp, rl_7 hRc hp, e0]
    rfl
  | succ n ih =>
    intro i h F L h1 h2 h3 h4 h5
    obtain ⟨F, rfl⟩ : ∃ G, F = G + 1 := ⟨F - 1, by omega⟩
    obtain ⟨e1, e2⟩ := hok i h2 (by omega)
    have step : ∀ (h' v' : Nat) (w : Int64), h' ≤ i + 1 → v' < 64 → post so va (i + 1) n h' → ∃ L', (∀ j, j ≠ P + 18 → L' j = L j) ∧ xloop (fun _ _ _ _ _ _ => none) (b_X1_workOut_10 shA) F (P + 13) (nI k) 88 (nI h') (nI (i + 1)) (c.1, xu L (P + 18) v' w, c.2.2) = some ((ev so va (L 88) (i + 1) n h' (up1 (L (P + 18)) v' w)).getD (-9223372036854775808), (c.1, L', c.2.2)) := by
      intro h' v' w q1 q2 q3
      obtain ⟨L', hL, e⟩ := ih (i + 1) h' F (xu L (P + 18) v' w) (by omega) (by omega) q1 (by omega) q3
      refine ⟨L', fun j hj => (hL j hj).trans (xu_off hj), ?_⟩
      rw [e, xu_up, xu_off (show 88 ≠ P + 18 by omega)]
    rw [loop_s, b_X1_workOut_10]
    simp (disch := omega) only [xgR, Option.bind_some, ↓reduceIte, sp_13 hp, rl_2 hRc hp, rl_3 hRc hp, rl_6 hRc hp, rl_7 hRc hp, aI_of (sp_14 hp), aI_of (sp_15 hp), aI_of (sp_17 hp), hto, e1, sL_of (sp_18 hp), nI_1]
    rw [if_neg (nI_ge (by omega) (by omega))]
    unfold k_X1_workOut_236
    rcases e2 with ⟨s0, o0, a0, ha0, v0⟩ | ⟨s1, a0, ha0, v0⟩ | ⟨s2, sg⟩
    · rw [if_pos (show trK (so i) (va i) = 22 by rw [s0]; rfl), ev_n s0, o0]
      simp only [nI_1]
      exact step (h + 1) h _ (by omega) (by omega) (post_v (by rw [s0]; decide) h5)
    · obtain ⟨t1, t2, t3, t4⟩ := trK_nm a0 ha0
      have e88 : xaL shA (c.1, L, c.2.2) 88 (nI a0) = some (L 88 a0) := aL_of sA_88 ha0 (by omega)
      rw [ev_a s1, s1, v0, if_neg t1, if_neg t2, if_neg t3, t4, e88, nI_clamp (show a0 < 2 ^ 31 by omega)]
      simp only [Option.bind_some, nI_1]
      exact step (h + 1) h _ (by omega) (by omega) (post_v (by rw [s1]; decide) h5)
    · obtain ⟨t1, t2, t3, t4⟩ := trK_sg sg
      rw [s2, if_neg t1]
      have key : (∃ L', (∀ j, j ≠ P + 18 → L' j = L j) ∧ k_X1_workOut_90 shA (xloop (fun _ _ _ _ _ _ => none) (b_X1_workOut_10 shA) F) (P + 13) (nI k) 88 (nI h) (nI i) (trK 2 (va i)) (c.1, L, c.2.2) = some ((ev so va (L 88) i (n + 1) h (L (P + 18))).getD (-9223372036854775808), (c.1, L', c.2.2))) := by
        unfold k_X1_workOut_90 k_X1_workOut_111 k_X1_workOut_107 k_X1_workOut_143 k_X1_workOut_176 k_X1_workOut_180 k_X1_workOut_222 k_X1_workOut_236
        by_cases v2 : va i = 260
        · obtain ⟨q4, q5⟩ := post_not s2 v2 h5
          obtain ⟨g, rfl⟩ : ∃ g, h = g + 1 := ⟨h - 1, by omega⟩
          rw [ev_not s2 v2, if_neg (show ¬ nI (g + 1) < 1 from nI_nlt (b := 1) (by omega) (by omega)), if_pos (t3.mpr v2)]
          simp (disch := omega) only [if_pos (t3.mpr v2), xgR, Option.bind_some, ↓reduceIte, sp_13 hp, rl_7 hRc hp, nI_pred, aL_of (sp_18 hp), sL_of (sp_18 hp), nI_1]
          by_cases c1 : lg_cmp (L (P + 18) g) 0 = 0
          · simp only [if_pos c1]; exact step (g + 1) g _ (by omega) (by omega) q5
          · simp only [if_neg c1]; exact step (g + 1) g _ (by omega) (by omega) q5
        · obtain ⟨q4, q5⟩ := post_op s2 v2 h5
          obtain ⟨g, rfl⟩ : ∃ g, h = g + 2 := ⟨h - 2, by omega⟩
          have b1 : nI (g + 2) + (-1) = nI (g + 1) := nI_m1 (g + 1)
          have b2 : nI (g + 1) - 1 = nI g := nI_pred g
          have b3 : nI (g + 2) - 2 = nI g := nI_pred2 g
          have b4 : nI (g + 2) - 1 = nI (g + 1) := nI_pred (g + 1)
          have c3 : ¬ trK 2 (va i) = 13 := fun z => v2 (t3.mp z)
          rw [ev_op s2 v2, if_neg (show ¬ nI (g + 2) < 1 from nI_nlt (b := 1) (by omega) (by omega)), if_neg c3, if_pos (show (2 : Int32) ≤ nI (g + 2) from nI_le (a := 2) (by omega) (by omega)), if_neg c3]
          simp (disch := omega) only [xgR, Option.bind_some, ↓reduceIte, sp_13 hp, rl_7 hRc hp, b1, b2, b3, b4, aL_of (sp_18 hp), sL_of (sp_18 hp), nI_1, e_large]
          have fin : (va i = 42 → (opR 42 (L (P + 18) g) (L (P + 18) (g + 1))).isSome) → ∃ L', (∀ j, j ≠ P + 18 → L' j = L j) ∧ ((f_X1_join shA (trK 2 (va i)) (L (P + 18) g) (L (P + 18) (g + 1)) (c.1, L, c.2.2)).bind fun z7 => if 0 < lg_cmp z7.1 1000000000000 then some (-9223372036854775808, z7.2) else if 0 ≤ lg_cmp z7.1 (-1000000000000) then (z7.2.2.2 (P + 13) 7).bind fun v8 => (xsL shA z7.2 v8 (nI g) z7.1).bind fun d9 => xloop (fun _ _ _ _ _ _ => none) (b_X1_workOut_10 shA) F (P + 13) (nI k) 88 (nI (g + 1)) (nI (i + 1)) d9 else some (-9223372036854775808, z7.2)) = some ((((opv (va i) (L (P + 18) g) (L (P + 18) (g + 1))).bind fun v => ev so va (L 88) (i + 1) n (g + 1) (up1 (L (P + 18)) g v)).getD (-9223372036854775808)), (c.1, L', c.2.2)) := by
            intro ht
            obtain ⟨v, j1, j2⟩ := e_join sg v2 (L (P + 18) g) (L (P + 18) (g + 1)) (c.1, L, c.2.2) ht
            rw [j1, j2, Option.bind_some]
            dsimp only
            unfold inR
            by_cases d1 : 0 < lg_cmp v 1000000000000
            · rw [if_pos d1, if_pos d1]
              exact ⟨L, fun _ _ => rfl, rfl⟩
            · rw [if_neg d1, if_neg d1]
              by_cases d2 : lg_cmp v (-1000000000000) < 0
              · rw [if_pos d2, if_neg (fun z => absurd d2 (Int32.not_lt.mpr z))]
                exact ⟨L, fun _ _ => rfl, rfl⟩
              · rw [if_neg d2, if_pos (Int32.not_lt.mp d2)]
                simp (disch := omega) only [Option.bind_some, ↓reduceIte, sp_13 hp, rl_7 hRc hp, sL_of (sp_18 hp)]
                exact step (g + 1) g v (by omega) (by omega) q5
          by_cases c4 : trK 2 (va i) = 28
          · have c5 : va i = 42 := t4.mp c4
            rw [if_pos c4]
            by_cases c6 : (opR 42 (L (P + 18) g) (L (P + 18) (g + 1))).isSome
            · simp only [if_pos c6, ↓reduceIte]
              exact fin (fun _ => c6)
            · simp only [if_neg c6, if_neg one_ne_zero32]
              refine ⟨L, fun _ _ => rfl, ?_⟩
              have c7 : opR (va i) (L (P + 18) g) (L (P + 18) (g + 1)) = none := by
                rw [c5]
                cases hO : opR 42 (L (P + 18) g) (L (P + 18) (g + 1)) with
                | none => rfl
                | some v => rw [hO] at c6; exact absurd rfl c6
              unfold opv
              rw [c7]; rfl
          · rw [if_neg c4]
            exact fin (fun z => absurd (t4.mpr z) c4)
      obtain ⟨L', hL, e⟩ := key
      refine ⟨L', hL, ?_⟩
      by_cases d1 : trK 2 (va i) < 14
      · rw [if_pos d1]; exact e
      · rw [if_neg d1, if_pos (t2 d1)]; exact e

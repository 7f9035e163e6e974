/-! LEVEL 2: a law worked out, by the class and by the reference -/
theorem nI_pred2 (n : Nat) : nI (n + 2) - (2 : Int32) = nI n := by
  rw [nI_succ (n + 1), nI_succ n, show (2 : Int32) = 1 + 1 by decide]
  rw [Int32.add_assoc, Int32.add_sub_cancel]
theorem nI_m1 (n : Nat) : nI (n + 1) + (-1) = nI n := by
  rw [nI_succ n, Int32.add_assoc, show (1 : Int32) + (-1) = 0 by decide, Int32.add_zero]
theorem xu_xu {α : Type} {f : Nat → Nat → α} {q k : Nat} {v w : α} : xu (xu f q k v) q k w = xu f q k w := by
  funext a b
  unfold xu
  by_cases h1 : a = q
  · by_cases h2 : b = k
    · simp [h1, h2]
    · simp [h1, h2]
  · simp [h1]
theorem xu_at {α : Type} {f : Nat → Nat → α} {q k : Nat} {v : α} : xu f q k v q k = v := by unfold xu; simp
theorem xu_at2 {α : Type} {f : Nat → Nat → α} {q k j : Nat} {v : α} (h : j ≠ k) : xu f q k v q j = f q j := by unfold xu; simp [h]
theorem xu_cell {α : Type} {f : Nat → Nat → α} {q k a b : Nat} {v : α} (h : a ≠ q) : xu f q k v a b = f a b := by unfold xu; simp [h]
def abs64 (x : Int64) : Int64 := if 0 < x then x else -x
theorem abs64_c (x : Int64) : (if 0 ≤ (lg_cmp x (0 : Int64)) then x else -x) = abs64 x := by
  unfold abs64 lg_cmp
  by_cases h1 : x > 0
  · have h1' : (0 : Int64) < x := h1
    rw [if_pos h1, if_pos h1', if_pos (by decide)]
  · have h1' : ¬ (0 : Int64) < x := h1
    rw [if_neg h1, if_neg h1']
    by_cases h2 : x = 0
    · rw [if_pos h2, if_pos (by decide), h2]; decide
    · rw [if_neg h2, if_neg (by decide)]
def opR (sg : Int32) (x y : Int64) : Option Int64 :=
  if sg = 42 then (if lg_cmp x 0 = 0 then some (x * y) else if lg_cmp (abs64 y) (1000000000000 / abs64 x) ≤ 0 then some (x * y) else none)
  else if sg = 43 then some (x + y) else if sg = 45 then some (x - y)
  else if sg = 47 then (if lg_cmp y 0 = 0 then none else some (x / y))
  else if sg = 60 then some (if 0 ≤ lg_cmp x y then 0 else 1)
  else if sg = 61 then some (if lg_cmp x y = 0 then 1 else 0)
  else if sg = 62 then some (if lg_cmp x y ≤ 0 then 0 else 1)
  else if sg = 256 then some (if 0 < lg_cmp x y then 0 else 1)
  else if sg = 257 then some (if lg_cmp x y = 0 then 0 else 1)
  else if sg = 258 then some (if lg_cmp x y < 0 then 0 else 1)
  else if sg = 261 then some (if lg_cmp x 0 = 0 then 0 else if lg_cmp y 0 = 0 then 0 else 1)
  else some (if lg_cmp x 0 = 0 then (if lg_cmp y 0 = 0 then 0 else 1) else 1)
def inR (v : Int64) : Bool := if 0 < lg_cmp v 1000000000000 then false else if lg_cmp v (-1000000000000) < 0 then false else true
def opv (sg : Int32) (x y : Int64) : Option Int64 := (opR sg x y).bind fun v => if inR v then some v else none
theorem inR_min : inR (-9223372036854775808) = false := by decide
theorem opv_ne {sg : Int32} {x y v : Int64} (h : opv sg x y = some v) : v ≠ -9223372036854775808 := by
  unfold opv at h
  obtain ⟨w, h1, h2⟩ := x_ob h
  intro e
  by_cases h3 : inR w
  · rw [if_pos h3] at h2
    have h4 := Option.some.inj h2
    subst h4
    subst e
    rw [inR_min] at h3
    exact absurd h3 (by decide)
  · rw [if_neg h3] at h2
    exact absurd h2 (by simp)
theorem e_is0 (d : xD) : f_X10_is shA 0 d = some (0, d) := rfl
theorem e_is1 (d : xD) : f_X10_is shA 1 d = some (1, d) := rfl
theorem aS_of {sh : List xSh} {d : xD} {q n i : Nat} (h : sh[q]? = some (.inr (.long, n))) (hi : i < n) (hn : n < 2 ^ 31) : xaL sh d q (nI i) = some (d.2.1 q i) := aL_of h hi hn
theorem e_w407 {m : xD} {P : Nat} (hRm : RefOK m P) {hg : Nat} (hh : hg + 1 ≤ 64) (hw : m.1 99 34 = nI (hg + 1)) (v : Int64) : k_X10_works_407 shA 99 v m = some (if inR v then 1 else 0, (m.1, xu m.2.1 118 hg v, m.2.2)) := by
  unfold k_X10_works_407
  simp (disch := omega) only [xgI, xgL, xgR, xpL, xon, Option.bind_some, ↓reduceIte, nI_1, nI_add, m6_, m8_, xz_0, xz_1, sA_99, rf_99_1 hRm, rf_99_3 hRm, rf_99_4 hRm, rf_99_5 hRm, rf_99_6 hRm, rf_99_7 hRm, rf_99_8 hRm, rf_99_9 hRm, rf_99_10 hRm, rf_99_11 hRm, rf_99_12 hRm, rf_99_13 hRm, rf_99_14 hRm, rf_99_15 hRm, rf_99_16 hRm, rf_99_17 hRm, rf_99_18 hRm, rf_99_32 hRm, rf_99_33 hRm, rf_99_35 hRm, rf_99_36 hRm, rf_99_37 hRm, rf_99_38 hRm, rf_99_39 hRm, rf_99_40 hRm, rf_99_41 hRm, rf_99_42 hRm, rf_99_43 hRm, rf_99_44 hRm, rf_99_45 hRm, rf_99_46 hRm, rf_99_47 hRm, rf_99_56 hRm, rf_99_59 hRm, rf_99_60 hRm, rf_99_61 hRm, rf_99_62 hRm, rf_99_63 hRm, rf_99_64 hRm, aI_of sA_101, aI_of sA_102, aI_of sA_103, aI_of sA_104, aI_of sA_105, aI_of sA_106, aI_of sA_107, aI_of sA_108, aI_of sA_109, aI_of sA_110, aI_of sA_111, aI_of sA_112, aI_of sA_113, aI_of sA_114, aI_of sA_115, aI_of sA_116, aI_of sA_119, aI_of sA_120, aI_of sA_121, aI_of sA_122, aI_of sA_123, aI_of sA_124, aI_of sA_125, aI_of sA_126, aI_of sA_127, aI_of sA_128, aI_of sA_129, aI_of sA_130, aI_of sA_131, aI_of sA_132, aI_of sA_133, aI_of sA_134, aI_of sA_135, aI_of sA_137, sI_of sA_101, sI_of sA_102, sI_of sA_103, sI_of sA_104, sI_of sA_105, sI_of sA_106, sI_of sA_107, sI_of sA_108, sI_of sA_109, sI_of sA_110, sI_of sA_111, sI_of sA_112, sI_of sA_113, sI_of sA_114, sI_of sA_115, sI_of sA_116, sI_of sA_119, sI_of sA_120, sI_of sA_121, sI_of sA_122, sI_of sA_123, sI_of sA_124, sI_of sA_125, sI_of sA_126, sI_of sA_127, sI_of sA_128, sI_of sA_129, sI_of sA_130, sI_of sA_131, sI_of sA_132, sI_of sA_133, sI_of sA_134, sI_of sA_135, sI_of sA_137, aN_0, aN_1, aN_2, aN_3, aN_4, aN_5, aN_6, aN_7, pM_34, pM_53, hw, nI_pred, sL_of sA_118]
  unfold k_X10_works_442 k_X10_works_443 inR
  by_cases h1 : 0 < lg_cmp v 1000000000000
  · simp only [if_pos h1, xz_0, Option.bind_some]; rfl
  · by_cases h2 : lg_cmp v (-1000000000000) < 0
    · simp only [if_neg h1, if_pos h2, xz_0, Option.bind_some]; rfl
    · simp only [if_neg h1, if_neg h2, xz_1, Option.bind_some]; rfl
theorem e_works {m : xD} {P : Nat} (hRm : RefOK m P) {hg : Nat} (hh : hg + 2 ≤ 64) (hw : m.1 99 34 = nI (hg + 2)) {sg : Int32} (hsg : isSg sg) (hn : sg ≠ 260) : ∃ L', (∀ k, k ≠ 118 → L' k = m.2.1 k) ∧ f_X10_works shA 99 sg m = some (if (opv sg (m.2.1 118 hg) (m.2.1 118 (hg + 1))).isSome then 1 else 0, (xu m.1 99 34 (nI (hg + 1)), L', m.2.2)) ∧ (∀ v, opv sg (m.2.1 118 hg) (m.2.1 118 (hg + 1)) = some v → L' = xu m.2.1 118 hg v) := by
  have key : f_X10_works shA 99 sg m = (match opR sg (m.2.1 118 hg) (m.2.1 118 (hg + 1)) with | some v => some (if inR v then 1 else 0, (xu m.1 99 34 (nI (hg + 1)), xu m.2.1 118 hg v, m.2.2)) | none => some (0, (xu m.1 99 34 (nI (hg + 1)), m.2.1, m.2.2))) := by
    have hRm' : RefOK (xu m.1 99 34 (nI (hg + 1)), m.2.1, m.2.2) P := hRm.same rfl
    have e407 := fun v => e_w407 hRm' (show hg + 1 ≤ 64 by omega) (show xu m.1 99 34 (nI (hg + 1)) 99 34 = nI (hg + 1) from xu_at) v
    unfold f_X10_works
    have b3 : nI (hg + 2) - 2 = nI hg := nI_pred2 hg
    have b4 : nI (hg + 2) - 1 = nI (hg + 1) := nI_pred (hg + 1)
    rw [gR_of sA_99 (rf_99_33 hRm), Option.bind_some, gI_of sA_99, Option.bind_some, hw, b4, aL_of sA_118 (by omega) (by omega), Option.bind_some, if_neg hn, Option.bind_some, Option.bind_some, b3, aL_of sA_118 (by omega) (by omega), Option.bind_some, Option.bind_some, b4, pM_34, Option.bind_some]
    unfold k_X10_works_212 k_X10_works_250 k_X10_works_290 k_X10_works_270 k_X10_works_310 k_X10_works_350 k_X10_works_330 k_X10_works_375 k_X10_works_376 k_X10_works_397 k_X10_works_402
    simp only [e_is0, e_is1, Option.bind_some, e407]
    generalize m.2.1 118 hg = x
    generalize m.2.1 118 (hg + 1) = y
    unfold opR
    by_cases c1 : sg = 42
    · rw [if_pos c1, if_pos c1]
      by_cases c2 : lg_cmp x 0 = 0
      · rw [if_pos c2, if_pos c2]
      · rw [if_neg c2, if_neg c2]
        have hx : ¬ abs64 x = 0 := by
          intro z
          apply c2
          have hx0 : x = 0 := by
            unfold abs64 at z
            by_cases p : 0 < x
            · rw [if_pos p] at z; exact z
            · rw [if_neg p] at z; rw [← Int64.neg_neg (a := x), z]; rfl
          rw [hx0]; rfl
        show ((xdL 1000000000000 (abs64 x)).bind fun v24 => if lg_cmp (abs64 y) v24 ≤ 0 then _ else _) = _
        unfold xdL
        rw [if_neg hx, Option.bind_some]
        by_cases c3 : lg_cmp (abs64 y) (1000000000000 / abs64 x) ≤ 0
        · rw [if_pos c3, if_pos c3]
        · rw [if_neg c3, if_neg c3]
    · rw [if_neg c1, if_neg c1]
      by_cases c2 : sg = 43
      · rw [if_pos c2, if_pos c2]
      · rw [if_neg c2, if_neg c2]
        by_cases c3 : sg = 45
        · rw [if_pos c3, if_pos c3]
        · rw [if_neg c3, if_neg c3]
          by_cases c4 : sg = 47
          · rw [if_pos c4, if_pos c4]
            by_cases d1 : lg_cmp y 0 = 0
            · rw [if_pos d1, if_pos d1]
            · rw [if_neg d1, if_neg d1]
              have hy : ¬ y = 0 := fun z => d1 (by rw [z]; rfl)
              unfold xdL
              rw [if_neg hy, Option.bind_some]
          · rw [if_neg c4, if_neg c4]
            by_cases e60 : sg = 60
            · simp only [if_pos e60]
              by_cases z : 0 ≤ lg_cmp x y
              · simp only [if_pos z]
              · simp only [if_neg z]
            · simp only [if_neg e60]
              by_cases e61 : sg = 61
              · simp only [if_pos e61]
                by_cases z : lg_cmp x y = 0
                · simp only [if_pos z]
                · simp only [if_neg z]
              · simp only [if_neg e61]
                by_cases e62 : sg = 62
                · simp only [if_pos e62]
                  by_cases z : lg_cmp x y ≤ 0
                  · simp only [if_pos z]
                  · simp only [if_neg z]
                · simp only [if_neg e62]
                  by_cases e256 : sg = 256
                  · simp only [if_pos e256]
                    by_cases z : 0 < lg_cmp x y
                    · simp only [if_pos z]
                    · simp only [if_neg z]
                  · simp only [if_neg e256]
                    by_cases e257 : sg = 257
                    · simp only [if_pos e257]
                      by_cases z : lg_cmp x y = 0
                      · simp only [if_pos z]
                      · simp only [if_neg z]
                    · simp only [if_neg e257]
                      by_cases e258 : sg = 258
                      · simp only [if_pos e258]
                        by_cases z : lg_cmp x y < 0
                        · simp only [if_pos z]
                        · simp only [if_neg z]
                      · simp only [if_neg e258]
                        by_cases e261 : sg = 261
                        · simp only [if_pos e261]
                          by_cases z : lg_cmp x 0 = 0
                          · simp only [if_pos z]
                          · simp only [if_neg z]
                            by_cases z2 : lg_cmp y 0 = 0
                            · simp only [if_pos z2]
                            · simp only [if_neg z2]
                        · simp only [if_neg e261]
                          by_cases z : lg_cmp x 0 = 0
                          · simp only [if_pos z]
                            by_cases z2 : lg_cmp y 0 = 0
                            · simp only [if_pos z2]
                            · simp only [if_neg z2]
                          · simp only [if_neg z]
  rw [key]
  cases hO : opR sg (m.2.1 118 hg) (m.2.1 118 (hg + 1)) with
  | none => exact ⟨m.2.1, fun _ _ => rfl, by unfold opv; rw [hO]; rfl, fun v hv => by unfold opv at hv; rw [hO] at hv; exact absurd hv (by simp)⟩
  | some v =>
    refine ⟨xu m.2.1 118 hg v, fun k hk => xu_off hk, ?_, ?_⟩
    · unfold opv; rw [hO]
      by_cases hi : inR v
      · simp [hi]
      · simp [hi]
    · intro v' hv
      unfold opv at hv
      rw [hO, Option.bind_some] at hv
      by_cases hi : inR v
      · rw [if_pos hi] at hv; rw [Option.some.inj hv]
      · rw [if_neg hi] at hv; exact absurd hv (by simp)
/-- what the class's own join comes to -/
theorem e_join {sg : Int32} (hsg : isSg sg) (hn : sg ≠ 260) (x y : Int64) (c : xD) (ht : sg = 42 → (opR 42 x y).isSome) : ∃ v, f_X1_join shA (trK 2 sg) x y c = some (v, c) ∧ opv sg x y = (if inR v then some v else none) := by
  unfold f_X1_join k_X1_join_228 k_X1_join_229 k_X1_join_242 k_X1_join_247 k_X1_join_139 k_X1_join_151 k_X1_join_163 k_X1_join_175 k_X1_join_187 k_X1_join_199 k_X1_join_211
  unfold opv
  rcases hsg with e | e | e | e | e | e | e | e | e | e | e | e | e
  · exact absurd e hn
  all_goals subst e
  · rw [show trK 2 261 = 12 by decide]; unfold opR
    simp (decide := true) only [↓reduceIte, Option.bind_some]
    (repeat' split) <;> first | exact ⟨_, rfl, rfl⟩ | contradiction
  · rw [show trK 2 262 = 11 by decide]; unfold opR
    simp (decide := true) only [↓reduceIte, Option.bind_some]
    (repeat' split) <;> first | exact ⟨_, rfl, rfl⟩ | contradiction
  · rw [show trK 2 43 = 26 by decide]; unfold opR
    simp (decide := true) only [↓reduceIte, Option.bind_some]
    exact ⟨_, rfl, rfl⟩
  · rw [show trK 2 45 = 27 by decide]; unfold opR
    simp (decide := true) only [↓reduceIte, Option.bind_some]
    exact ⟨_, rfl, rfl⟩
  · rw [show trK 2 42 = 28 by decide]
    have h1 := ht rfl
    simp (decide := true) only [↓reduceIte]
    refine ⟨_, rfl, ?_⟩
    unfold opR at h1 ⊢
    simp (decide := true) only [↓reduceIte] at h1 ⊢
    by_cases c1 : lg_cmp x 0 = 0
    · simp only [if_pos c1, Option.bind_some]
    · by_cases c2 : lg_cmp (abs64 y) (1000000000000 / abs64 x) ≤ 0
      · simp only [if_neg c1, if_pos c2, Option.bind_some]
      · simp only [if_neg c1, if_neg c2] at h1; exact absurd h1 (by simp)
  · rw [show trK 2 47 = 29 by decide]; unfold opR
    simp (decide := true) only [↓reduceIte]
    by_cases d1 : lg_cmp y 0 = 0
    · simp only [if_pos d1]
      refine ⟨_, rfl, ?_⟩
      rw [inR_min]; rfl
    · have hy : ¬ y = 0 := fun z => d1 (by rw [z]; rfl)
      unfold xdL
      simp only [if_neg d1, if_neg hy, Option.bind_some]
      exact ⟨_, rfl, rfl⟩
  · rw [show trK 2 60 = 30 by decide]; unfold opR
    simp (decide := true) only [↓reduceIte, Option.bind_some]
    (repeat' split) <;> first | exact ⟨_, rfl, rfl⟩ | contradiction
  · rw [show trK 2 256 = 31 by decide]; unfold opR
    simp (decide := true) only [↓reduceIte, Option.bind_some]
    (repeat' split) <;> first | exact ⟨_, rfl, rfl⟩ | contradiction
  · rw [show trK 2 61 = 32 by decide]; unfold opR
    simp (decide := true) only [↓reduceIte, Option.bind_some]
    (repeat' split) <;> first | exact ⟨_, rfl, rfl⟩ | contradiction
  · rw [show trK 2 257 = 33 by decide]; unfold opR
    simp (decide := true) only [↓reduceIte, Option.bind_some]
    (repeat' split) <;> first | exact ⟨_, rfl, rfl⟩ | contradiction
  · rw [show trK 2 258 = 34 by decide]; unfold opR
    simp (decide := true) only [↓reduceIte, Option.bind_some]
    (repeat' split) <;> first | exact ⟨_, rfl, rfl⟩ | contradiction
  · rw [show trK 2 62 = 35 by decide]; unfold opR
    simp (decide := true) only [↓reduceIte, Option.bind_some]
    (repeat' split) <;> first | exact ⟨_, rfl, rfl⟩ | contradiction
theorem e_large (x y : Int64) (c : xD) : f_X1_isTooLarge shA x y c = some (if (opR 42 x y).isSome then 0 else 1, c) := by
  have k26 : ∀ a b : Int64, k_X1_isTooLarge_26 shA a b c = (if lg_cmp a 0 = 0 then some (0, c) else (xdL 1000000000000 a).bind fun v2 => if lg_cmp b v2 ≤ 0 then some (0, c) else some (1, c)) := fun a b => rfl
  have k12 : ∀ a b : Int64, k_X1_isTooLarge_12 shA a b c = k_X1_isTooLarge_26 shA b (abs64 a) c := by
    intro a b
    rw [← abs64_c a]
    unfold k_X1_isTooLarge_12
    by_cases h : 0 ≤ lg_cmp a 0
    · rw [if_pos h, if_pos h]
    · rw [if_neg h, if_neg h]
  have k0 : f_X1_isTooLarge shA x y c = k_X1_isTooLarge_26 shA (abs64 x) (abs64 y) c := by
    rw [← abs64_c x]
    unfold f_X1_isTooLarge
    by_cases h : 0 ≤ lg_cmp x 0
    · rw [if_pos h, if_pos h, k12]
    · rw [if_neg h, if_neg h, k12]
  rw [k0, k26]
  have hz : lg_cmp (abs64 x) 0 = 0 ↔ lg_cmp x 0 = 0 := by
    have h1 : ∀ z : Int64, lg_cmp z 0 = 0 ↔ z = 0 := by
      intro z
      unfold lg_cmp
      by_cases p : z > 0
      · rw [if_pos p]
        constructor
        · intro w; exact absurd w (by decide)
        · intro w; subst w; exact absurd p (by decide)
      · rw [if_neg p]
        by_cases p2 : z = 0
        · rw [if_pos p2]; exact ⟨fun _ => p2, fun _ => rfl⟩
        · rw [if_neg p2]; exact ⟨fun w => absurd w (by decide), fun w => absurd w p2⟩
    rw [h1, h1]
    unfold abs64
    by_cases p : 0 < x
    · rw [if_pos p]
    · rw [if_neg p]
      constructor
      · intro z; rw [← Int64.neg_neg (a := x), z]; rfl
      · intro z; rw [z]; rfl
  unfold opR
  simp only [↓reduceIte]
  by_cases c1 : lg_cmp x 0 = 0
  · rw [if_pos (hz.mpr c1), if_pos c1]; rfl
  · rw [if_neg (fun z => c1 (hz.mp z)), if_neg c1]
    have hx : ¬ abs64 x = 0 := fun z => c1 (hz.mp (by rw [z]; rfl))
    unfold xdL
    rw [if_neg hx, Option.bind_some]
    by_cases c2 : lg_cmp (abs64 y) (1000000000000 / abs64 x) ≤ 0
    · rw [if_pos c2, if_pos c2]; rfl
    · rw [if_neg c2, if_neg c2]; rfl

/-! LEVEL 2: pure. Plain facts on the heap's own words -/
theorem gI_of {ci : Nat} {sh : List xSh} {d : xD} {q k : Nat} (h : sh[q]? = some (.inl ci)) : xgI ci sh d q k = some (d.1 q k) := by simp [xgI, h]
theorem gL_of {ci : Nat} {sh : List xSh} {d : xD} {q k : Nat} (h : sh[q]? = some (.inl ci)) : xgL ci sh d q k = some (d.2.1 q k) := by simp [xgL, h]
theorem gR_of {ci : Nat} {sh : List xSh} {d : xD} {q k r : Nat} (h : sh[q]? = some (.inl ci)) (hr : d.2.2 q k = some r) : xgR ci sh d q k = some r := by simp [xgR, h, hr]
theorem pI_of {ci : Nat} {sh : List xSh} {d : xD} {q k : Nat} {v : Int32} (h : sh[q]? = some (.inl ci)) (ho : xok (xTy ci k) v = true) : xpI ci sh d q k v = some (xu d.1 q k v, d.2.1, d.2.2) := by simp [xpI, h, ho]
theorem on_of {ci : Nat} {sh : List xSh} {q : Nat} {α : Type} {x : Option α} (h : sh[q]? = some (.inl ci)) : xon ci sh q x = x := by simp [xon, h]
theorem len_of {ty : FieldType} {sh : List xSh} {q n : Nat} (h : sh[q]? = some (.inr (ty, n))) : xlen ty sh q = some n := by simp [xlen, h]
theorem aI_of {ty : FieldType} {sh : List xSh} {d : xD} {q n i : Nat} (h : sh[q]? = some (.inr (ty, n))) (hi : i < n) (hn : n < 2 ^ 31) : xaI ty sh d q (nI i) = some (d.1 q i) := by
  have h1 : ¬ (nI i < 0 ∨ n ≤ (nI i).toNatClampNeg) := nI_in hi hn
  unfold xaI
  rw [len_of h, Option.bind_some, if_neg h1, nI_clamp (show i < 2 ^ 31 by omega)]
theorem aL_of {sh : List xSh} {d : xD} {q n i : Nat} (h : sh[q]? = some (.inr (.long, n))) (hi : i < n) (hn : n < 2 ^ 31) : xaL sh d q (nI i) = some (d.2.1 q i) := by
  have h1 : ¬ (nI i < 0 ∨ n ≤ (nI i).toNatClampNeg) := nI_in hi hn
  unfold xaL
  rw [len_of h, Option.bind_some, if_neg h1, nI_clamp (show i < 2 ^ 31 by omega)]
theorem sI_of {sh : List xSh} {d : xD} {q n i : Nat} {v : Int32} (h : sh[q]? = some (.inr (.int, n))) (hi : i < n) (hn : n < 2 ^ 31) : xsI .int sh d q (nI i) v = some (xu d.1 q i v, d.2.1, d.2.2) := by
  have h1 : ¬ (nI i < 0 ∨ n ≤ (nI i).toNatClampNeg) := nI_in hi hn
  unfold xsI
  rw [len_of h, Option.bind_some, if_neg h1, nI_clamp (show i < 2 ^ 31 by omega)]
  rfl
theorem sL_of {sh : List xSh} {d : xD} {q n i : Nat} {v : Int64} (h : sh[q]? = some (.inr (.long, n))) (hi : i < n) (hn : n < 2 ^ 31) : xsL sh d q (nI i) v = some (d.1, xu d.2.1 q i v, d.2.2) := by
  have h1 : ¬ (nI i < 0 ∨ n ≤ (nI i).toNatClampNeg) := nI_in hi hn
  unfold xsL
  rw [len_of h, Option.bind_some, if_neg h1, nI_clamp (show i < 2 ^ 31 by omega)]
theorem loop_s {F : Type} (z : F) (body : F → F) (n : Nat) : xloop z body (n + 1) = body (xloop z body n) := rfl
/-- the first place behind i, of n, that holds v -/
def findI (f : Nat → Int32) (v : Int32) : Nat → Nat → Int32
  | _, 0 => -1
  | i, n + 1 => if f i = v then nI i else findI f v (i + 1) n
theorem X3_indexOf_loop {sh : List xSh} {d : xD} {q m : Nat} {v : Int32} (h : sh[q]? = some (.inr (.int, m))) (hm : m < 2 ^ 31) : ∀ (n i F : Nat), i + n ≤ m → n < F → xloop (fun _ _ _ _ _ => none) (b_X3_indexOf_2 sh) F q (nI (i + n)) v (nI i) d = some (findI (d.1 q) v i n, d) := by
  intro n
  induction n with
  | zero =>
    intro i F h1 h2
    obtain ⟨F, rfl⟩ : ∃ G, F = G + 1 := ⟨F - 1, by omega⟩
    rw [loop_s]
    unfold b_X3_indexOf_2
    rw [Nat.add_zero, if_pos (nI_le (Nat.le_refl i) (by omega))]
    rfl
  | succ n ih =>
    intro i F h1 h2
    obtain ⟨F, rfl⟩ : ∃ G, F = G + 1 := ⟨F - 1, by omega⟩
    rw [loop_s]
    unfold b_X3_indexOf_2
    rw [if_neg (nI_ge (by omega) (by omega)), len_of h, Option.bind_some, if_neg (nI_ge (by omega) (by omega)), aI_of h (by omega) hm, Option.bind_some]
    unfold findI
    by_cases hc : d.1 q i = v
    · rw [if_pos hc, if_pos hc]; rfl
    · rw [if_neg hc, if_neg hc, nI_1, show i + (n + 1) = (i + 1) + n by omega]
      exact ih (i + 1) F (by omega) (by omega)
theorem X3_indexOf {sh : List xSh} {d : xD} {q m n : Nat} {v : Int32} (h : sh[q]? = some (.inr (.int, m))) (hm : m < 2 ^ 31) (hn : n ≤ m) (hF : n < xF) : f_X3_indexOf sh q (nI n) v d = some (findI (d.1 q) v 0 n, d) := by
  have h1 := X3_indexOf_loop (d := d) (v := v) h hm n 0 xF (by omega) hF
  rw [Nat.zero_add] at h1
  exact h1
theorem X10_found_loop {sh : List xSh} {d : xD} {q m o : Nat} {v : Int32} (h : sh[q]? = some (.inr (.int, m))) (hm : m < 2 ^ 31) : ∀ (n i F : Nat), o + (i + n) ≤ m → n < F → xloop (fun _ _ _ _ _ _ => none) (b_X10_found_3 sh) F q (nI o) (nI (i + n)) v (nI i) d = some (findI (fun k => d.1 q (o + k)) v i n, d) := by
  intro n
  induction n with
  | zero =>
    intro i F h1 h2
    obtain ⟨F, rfl⟩ : ∃ G, F = G + 1 := ⟨F - 1, by omega⟩
    rw [loop_s]
    unfold b_X10_found_3
    rw [Nat.add_zero, if_pos (nI_le (Nat.le_refl i) (by omega))]
    rfl
  | succ n ih =>
    intro i F h1 h2
    obtain ⟨F, rfl⟩ : ∃ G, F = G + 1 := ⟨F - 1, by omega⟩
    rw [loop_s]
    unfold b_X10_found_3
    rw [if_neg (nI_ge (by omega) (by omega)), nI_add, aI_of h (by omega) hm, Option.bind_some]
    unfold findI
    by_cases hc : d.1 q (o + i) = v
    · rw [if_pos hc, if_pos hc]; rfl
    · rw [if_neg hc, if_neg hc, nI_1, show i + (n + 1) = (i + 1) + n by omega]
      exact ih (i + 1) F (by omega) (by omega)
theorem X10_found {sh : List xSh} {d : xD} {q m n o : Nat} {v : Int32} (h : sh[q]? = some (.inr (.int, m))) (hm : m < 2 ^ 31) (hn : o + n ≤ m) (hF : n < xF) : f_X10_found sh q (nI o) (nI n) v d = some (findI (fun k => d.1 q (o + k)) v 0 n, d) := by
  have h1 := X10_found_loop (d := d) (v := v) (o := o) h hm n 0 xF (by omega) hF
  rw [Nat.zero_add] at h1
  exact h1

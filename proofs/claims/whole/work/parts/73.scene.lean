/-! LEVEL 2: the class's Scene and Plan, method by method -/
theorem ref0 : RefOK dA0 2 := by
  refine ⟨?_, by decide +kernel, by decide +kernel, by decide +kernel, Or.inl rfl⟩
  have h : (tA.all fun e => decide (dA0.2.2 e.1 e.2.1 = some e.2.2)) = true := by decide +kernel
  exact fun e he => of_decide_eq_true (List.all_eq_true.mp h e he)
theorem xF_big {n : Nat} (h : n < 1000) : n < xF := by unfold xF; omega
/-- bits of those places i, i + 1 .. (n of them) where f is 2 and g is w, over acc -/
def sitB (f g : Nat → Int32) (w : Int32) : Nat → Nat → Int32 → Int32
  | _, 0, acc => acc
  | i, n + 1, acc => sitB f g w (i + 1) n (if f i = 2 ∧ g i = w then acc ||| ((1 : Int32) <<< (nI i &&& 31)) else acc)
theorem X4_sittersOn_loop {d : xD} {P q nw : Nat} (hR : RefOK d P) (hq : isSc q) (hn : d.1 q 4 = nI nw) (hw : nw ≤ 6) (w : Int32) : ∀ (n i F : Nat) (acc : Int32), i + n = nw → n < F → xloop (fun _ _ _ _ _ => none) (b_X4_sittersOn_4 shA) F q w acc (nI i) d = some (sitB (d.1 (q + 1)) (d.1 (q + 2)) w i n acc, d) := by
  intro n
  induction n with
  | zero =>
    intro i F acc h1 h2
    obtain ⟨F, rfl⟩ : ∃ G, F = G + 1 := ⟨F - 1, by omega⟩
    rw [loop_s]
    unfold b_X4_sittersOn_4
    rw [gI_of (ss_0 hq), Option.bind_some, hn, if_pos (nI_le (by omega) (by omega))]
    rfl
  | succ n ih =>
    intro i F acc h1 h2
    obtain ⟨F, rfl⟩ : ∃ G, F = G + 1 := ⟨F - 1, by omega⟩
    rw [loop_s]
    unfold b_X4_sittersOn_4
    rw [gI_of (ss_0 hq), Option.bind_some, hn, if_neg (nI_ge (by omega) (by omega)), gR_of (ss_0 hq) (rs_5 hR hq), Option.bind_some, aI_of (ss_1 hq) (by omega) (by decide), Option.bind_some]
    unfold sitB
    have e1 : nI i + 1 = nI (i + 1) := nI_1 i
    by_cases hc : d.1 (q + 1) i = 2
    · rw [if_pos hc, gR_of (ss_0 hq) (rs_6 hR hq), Option.bind_some, aI_of (ss_2 hq) (by omega) (by decide), Option.bind_some]
      by_cases hd : d.1 (q + 2) i = w
      · rw [if_pos hd, if_pos ⟨hc, hd⟩]
        unfold k_X4_sittersOn_38
        rw [e1]
        exact ih (i + 1) F _ (by omega) (by omega)
      · rw [if_neg hd, if_neg (fun h => hd h.2)]
        unfold k_X4_sittersOn_38
        rw [e1]
        exact ih (i + 1) F _ (by omega) (by omega)
    · rw [if_neg hc, if_neg (fun h => hc h.1)]
      unfold k_X4_sittersOn_38
      rw [e1]
      exact ih (i + 1) F _ (by omega) (by omega)
theorem X4_sittersOn {d : xD} {P q nw : Nat} (hR : RefOK d P) (hq : isSc q) (hn : d.1 q 4 = nI nw) (hw : nw ≤ 6) (w : Int32) : f_X4_sittersOn shA q w d = some (sitB (d.1 (q + 1)) (d.1 (q + 2)) w 0 nw 0, d) :=
  X4_sittersOn_loop hR hq hn hw w nw 0 xF 0 (by omega) (xF_big (by omega))

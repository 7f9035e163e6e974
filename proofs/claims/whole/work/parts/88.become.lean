/-! LEVEL 2: a scene becomes another one; a slot copies another one -/
theorem xur_at {α : Type} {f : Nat → Nat → α} {q : Nat} {g : Nat → α} : xur f q g q = g := by unfold xur; rw [if_pos rfl]
theorem xur_off {α : Type} {f : Nat → Nat → α} {q a : Nat} {g : Nat → α} (h : a ≠ q) : xur f q g a = f a := by unfold xur; rw [if_neg h]
theorem cp_of {d : xD} {a b na nb : Nat} (n : Nat) {N : Int32} (hN : N = nI n) (ha : shA[a]? = some (.inr (.int, na))) (hb : shA[b]? = some (.inr (.int, nb))) (h1 : n ≤ na) (h2 : n ≤ nb) (h3 : n < 1000) : xcp shA d a 0 b 0 N = some (xur d.1 b (va_cpy (d.1 a) (d.1 b) 0 0 n), d.2.1, d.2.2) := by
  subst hN
  have e0 : (0 : Int32).toNatClampNeg = 0 := by decide
  unfold xcp
  rw [len_of ha, Option.bind_some, len_of hb, Option.bind_some, e0, nI_clamp (show n < 2 ^ 31 by omega), if_neg]
  rintro (z | z | z | z | z)
  · exact absurd z (by decide)
  · exact absurd z (by decide)
  · exact nI_pos (by omega) z
  · omega
  · omega
theorem cpy_in {f g : Nat → Int32} {n j : Nat} (h : j < n) : va_cpy f g 0 0 n j = f j := by
  rw [pk_cpy_in (by omega) (by omega)]; congr 1; omega
/-- what becoming does: rows, row by row -/
def rln (j : Nat) : Nat := if j < 8 then 6 else if j < 10 then 8 else 13
theorem pS_L {d : xD} {q : Nat} {v : Int64} (hq : isSc q) : xpL 4 shA d q 3 v = some (d.1, xu d.2.1 q 3 v, d.2.2) := by unfold xpL; rw [if_pos (ss_0 hq)]

def BC (q0 q1 j : Nat) (c c' : xD) (W : Nat → Int32) : Prop := c'.2.2 = c.2.2 ∧ c'.2.1 = xu c.2.1 q0 3 (c.2.1 q1 3) ∧ (∀ k, (k < q0 ∨ q0 + 14 ≤ k) → c'.1 k = c.1 k) ∧ (∀ i, i < j → 1 ≤ i → ∀ k, k < rln i → c'.1 (q0 + i) k = c.1 (q1 + i) k) ∧ c'.1 q0 = W
theorem bc_cp {q0 q1 : Nat} {c c' : xD} {W : Nat → Int32} (j : Nat) (hd : q1 + 14 ≤ q0 ∨ q0 + 14 ≤ q1) (hj : 1 ≤ j) (hj2 : j < 14) (n : Nat) (hn : n = rln j) (hb : BC q0 q1 j c c' W) : BC q0 q1 (j + 1) c (xur c'.1 (q0 + j) (va_cpy (c'.1 (q1 + j)) (c'.1 (q0 + j)) 0 0 n), c'.2.1, c'.2.2) W := by
  obtain ⟨a1, a2, a3, a4, a5⟩ := hb
  subst hn
  refine ⟨a1, a2, fun k hk => ?_, fun i hi hi1 k hk => ?_, ?_⟩
  · dsimp only; rw [xur_off (by omega)]; exact a3 k hk
  · dsimp only
    by_cases e : i = j
    · subst e
      rw [xur_at, cpy_in hk, a3 (q1 + i) (by omega)]
    · rw [xur_off (by omega)]; exact a4 i (by omega) hi1 k hk
  · dsimp only; rw [xur_off (by omega)]; exact a5
theorem bc_14 {q0 q1 j : Nat} {c c' : xD} {W : Nat → Int32} (hd : q1 + 14 ≤ q0 ∨ q0 + 14 ≤ q1) (hb : BC q0 q1 j c c' W) : BC q0 q1 j c (xu c'.1 q0 14 (c'.1 q1 14), c'.2.1, c'.2.2) (fun k => if k = 14 then c.1 q1 14 else W k) := by
  obtain ⟨a1, a2, a3, a4, a5⟩ := hb
  refine ⟨a1, a2, fun k hk => ?_, fun i hi hi1 k hk => ?_, ?_⟩
  · dsimp only; rw [xu_off (by omega)]; exact a3 k hk
  · dsimp only; rw [xu_off (by omega)]; exact a4 i hi hi1 k hk
  · dsimp only; rw [xu_row, a3 q1 (by omega), a5]
theorem e_become {c : xD} {P q0 q1 : Nat} (hRc : RefOK c P) (hq0 : isSc q0) (hq1 : isSc q1) (hd : q1 + 14 ≤ q0 ∨ q0 + 14 ≤ q1) : ∃ c', f_X4_become shA q0 q1 c = some c' ∧ BC q0 q1 14 c c' (fun k => if k = 14 then c.1 q1 14 else if k = 4 then c.1 q1 4 else if k = 2 then c.1 q1 2 else if k = 1 then c.1 q1 1 else if k = 0 then c.1 q1 0 else c.1 q0 k) := by
  obtain ⟨I0, L0, R0⟩ := c
  dsimp only at hRc ⊢
  have hR : ∀ (I : Nat → Nat → Int32) (L : Nat → Nat → Int64), RefOK (I, L, R0) P := fun I L => hRc.same rfl
  have st1 : ∀ (I : Nat → Nat → Int32) (L : Nat → Nat → Int64) (F : xD → Option xD), ((xgR 4 shA (I, L, R0) q1 5).bind fun a => (xgR 4 shA (I, L, R0) q0 5).bind fun b => (xcp shA (I, L, R0) a (0 : Int32) b (0 : Int32) (6 : Int32)).bind F) = F (xur I (q0 + 1) (va_cpy (I (q1 + 1)) (I (q0 + 1)) 0 0 6), L, R0) := by
    intro I L F
    rw [gR_of (ss_0 hq1) (rs_5 (hR I L) hq1), Option.bind_some, gR_of (ss_0 hq0) (rs_5 (hR I L) hq0), Option.bind_some, cp_of 6 (show (6 : Int32) = nI 6 from rfl) (ss_1 hq1) (ss_1 hq0) (by omega) (by omega) (by omega), Option.bind_some]
  have st2 : ∀ (I : Nat → Nat → Int32) (L : Nat → Nat → Int64) (F : xD → Option xD), ((xgR 4 shA (I, L, R0) q1 6).bind fun a => (xgR 4 shA (I, L, R0) q0 6).bind fun b => (xcp shA (I, L, R0) a (0 : Int32) b (0 : Int32) (6 : Int32)).bind F) = F (xur I (q0 + 2) (va_cpy (I (q1 + 2)) (I (q0 + 2)) 0 0 6), L, R0) := by
    intro I L F
    rw [gR_of (ss_0 hq1) (rs_6 (hR I L) hq1), Option.bind_some, gR_of (ss_0 hq0) (rs_6 (hR I L) hq0), Option.bind_some, cp_of 6 (show (6 : Int32) = nI 6 from rfl) (ss_2 hq1) (ss_2 hq0) (by omega) (by omega) (by omega), Option.bind_some]
  have st3 : ∀ (I : Nat → Nat → Int32) (L : Nat → Nat → Int64) (F : xD → Option xD), ((xgR 4 shA (I, L, R0) q1 7).bind fun a => (xgR 4 shA (I, L, R0) q0 7).bind fun b => (xcp shA (I, L, R0) a (0 : Int32) b (0 : Int32) (6 : Int32)).bind F) = F (xur I (q0 + 3) (va_cpy (I (q1 + 3)) (I (q0 + 3)) 0 0 6), L, R0) := by
    intro I L F
    rw [gR_of (ss_0 hq1) (rs_7 (hR I L) hq1), Option.bind_some, gR_of (ss_0 hq0) (rs_7 (hR I L) hq0), Option.bind_some, cp_of 6 (show (6 : Int32) = nI 6 from rfl) (ss_3 hq1) (ss_3 hq0) (by omega) (by omega) (by omega), Option.bind_some]
  have st4 : ∀ (I : Nat → Nat → Int32) (L : Nat → Nat → Int64) (F : xD → Option xD), ((xgR 4 shA (I, L, R0) q1 8).bind fun a => (xgR 4 shA (I, L, R0) q0 8).bind fun b => (xcp shA (I, L, R0) a (0 : Int32) b (0 : Int32) (6 : Int32)).bind F) = F (xur I (q0 + 4) (va_cpy (I (q1 + 4)) (I (q0 + 4)) 0 0 6), L, R0) := by
    intro I L F
    rw [gR_of (ss_0 hq1) (rs_8 (hR I L) hq1), Option.bind_some, gR_of (ss_0 hq0) (rs_8 (hR I L) hq0), Option.bind_some, cp_of 6 (show (6 : Int32) = nI 6 from rfl) (ss_4 hq1) (ss_4 hq0) (by omega) (by omega) (by omega), Option.bind_some]
  have st5 : ∀ (I : Nat → Nat → Int32) (L : Nat → Nat → Int64) (F : xD → Option xD), ((xgR 4 shA (I, L, R0) q1 9).bind fun a => (xgR 4 shA (I, L, R0) q0 9).bind fun b => (xcp shA (I, L, R0) a (0 : Int32) b (0 : Int32) (6 : Int32)).bind F) = F (xur I (q0 + 5) (va_cpy (I (q1 + 5)) (I (q0 + 5)) 0 0 6), L, R0) := by
    intro I L F
    rw [gR_of (ss_0 hq1) (rs_9 (hR I L) hq1), Option.bind_some, gR_of (ss_0 hq0) (rs_9 (hR I L) hq0), Option.bind_some, cp_of 6 (show (6 : Int32) = nI 6 from rfl) (ss_5 hq1) (ss_5 hq0) (by omega) (by omega) (by omega), Option.bind_some]
  have st6 : ∀ (I : Nat → Nat → Int32) (L : Nat → Nat → Int64) (F : xD → Option xD), ((xgR 4 shA (I, L, R0) q1 10).bind fun a => (xgR 4 shA (I, L, R0) q0 10).bind fun b => (xcp shA (I, L, R0) a (0 : Int32) b (0 : Int32) (6 : Int32)).bind F) = F (xur I (q0 + 6) (va_cpy (I (q1 + 6)) (I (q0 + 6)) 0 0 6), L, R0) := by
    intro I L F
    rw [gR_of (ss_0 hq1) (rs_10 (hR I L) hq1), Option.bind_some, gR_of (ss_0 hq0) (rs_10 (hR I L) hq0), Option.bind_some, cp_of 6 (show (6 : Int32) = nI 6 from rfl) (ss_6 hq1) (ss_6 hq0) (by omega) (by omega) (by omega), Option.bind_some]
  have st7 : ∀ (I : Nat → Nat → Int32) (L : Nat → Nat → Int64) (F : xD → Option xD), ((xgR 4 shA (I, L, R0) q1 11).bind fun a => (xgR 4 shA (I, L, R0) q0 11).bind fun b => (xcp shA (I, L, R0) a (0 : Int32) b (0 : Int32) (6 : Int32)).bind F) = F (xur I (q0 + 7) (va_cpy (I (q1 + 7)) (I (q0 + 7)) 0 0 6), L, R0) := by
    intro I L F
    rw [gR_of (ss_0 hq1) (rs_11 (hR I L) hq1), Option.bind_some, gR_of (ss_0 hq0) (rs_11 (hR I L) hq0), Option.bind_some, cp_of 6 (show (6 : Int32) = nI 6 from rfl) (ss_7 hq1) (ss_7 hq0) (by omega) (by omega) (by omega), Option.bind_some]
  have st8 : ∀ (I : Nat → Nat → Int32) (L : Nat → Nat → Int64) (F : xD → Option xD), ((xgR 4 shA (I, L, R0) q1 12).bind fun a => (xgR 4 shA (I, L, R0) q0 12).bind fun b => (xcp shA (I, L, R0) a (0 : Int32) b (0 : Int32) (8 : Int32)).bind F) = F (xur I (q0 + 8) (va_cpy (I (q1 + 8)) (I (q0 + 8)) 0 0 8), L, R0) := by
    intro I L F
    rw [gR_of (ss_0 hq1) (rs_12 (hR I L) hq1), Option.bind_some, gR_of (ss_0 hq0) (rs_12 (hR I L) hq0), Option.bind_some, cp_of 8 (show (8 : Int32) = nI 8 from rfl) (ss_8 hq1) (ss_8 hq0) (by omega) (by omega) (by omega), Option.bind_some]
  have st9 : ∀ (I : Nat → Nat → Int32) (L : Nat → Nat → Int64) (F : xD → Option xD), ((xgR 4 shA (I, L, R0) q1 13).bind fun a => (xgR 4 shA (I, L, R0) q0 13).bind fun b => (xcp shA (I, L, R0) a (0 : Int32) b (0 : Int32) (8 : Int32)).bind F) = F (xur I (q0 + 9) (va_cpy (I (q1 + 9)) (I (q0 + 9)) 0 0 8), L, R0) := by
    intro I L F
    rw [gR_of (ss_0 hq1) (rs_13 (hR I L) hq1), Option.bind_some, gR_of (ss_0 hq0) (rs_13 (hR I L) hq0), Option.bind_some, cp_of 8 (show (8 : Int32) = nI 8 from rfl) (ss_9 hq1) (ss_9 hq0) (by omega) (by omega) (by omega), Option.bind_some]
  have st10 : ∀ (I : Nat → Nat → Int32) (L : Nat → Nat → Int64) (F : xD → Option xD), ((xgR 4 shA (I, L, R0) q1 15).bind fun a => (xgR 4 shA (I, L, R0) q0 15).bind fun b => (xcp shA (I, L, R0) a (0 : Int32) b (0 : Int32) (13 : Int32)).bind F) = F (xur I (q0 + 10) (va_cpy (I (q1 + 10)) (I (q0 + 10)) 0 0 13), L, R0) := by
    intro I L F
    rw [gR_of (ss_0 hq1) (rs_15 (hR I L) hq1), Option.bind_some, gR_of (ss_0 hq0) (rs_15 (hR I L) hq0), Option.bind_some, cp_of 13 (show (13 : Int32) = nI 13 from rfl) (ss_10 hq1) (ss_10 hq0) (by omega) (by omega) (by omega), Option.bind_some]
  have st11 : ∀ (I : Nat → Nat → Int32) (L : Nat → Nat → Int64) (F : xD → Option xD), ((xgR 4 shA (I, L, R0) q1 16).bind fun a => (xgR 4 shA (I, L, R0) q0 16).bind fun b => (xcp shA (I, L, R0) a (0 : Int32) b (0 : Int32) (13 : Int32)).bind F) = F (xur I (q0 + 11) (va_cpy (I (q1 + 11)) (I (q0 + 11)) 0 0 13), L, R0) := by
    intro I L F
    rw [gR_of (ss_0 hq1) (rs_16 (hR I L) hq1), Option.bind_some, gR_of (ss_0 hq0) (rs_16 (hR I L) hq0), Option.bind_some, cp_of 13 (show (13 : Int32) = nI 13 from rfl) (ss_11 hq1) (ss_11 hq0) (by omega) (by omega) (by omega), Option.bind_some]
  have st12 : ∀ (I : Nat → Nat → Int32) (L : Nat → Nat → Int64) (F : xD → Option xD), ((xgR 4 shA (I, L, R0) q1 17).bind fun a => (xgR 4 shA (I, L, R0) q0 17).bind fun b => (xcp shA (I, L, R0) a (0 : Int32) b (0 : Int32) (13 : Int32)).bind F) = F (xur I (q0 + 12) (va_cpy (I (q1 + 12)) (I (q0 + 12)) 0 0 13), L, R0) := by
    intro I L F
    rw [gR_of (ss_0 hq1) (rs_17 (hR I L) hq1), Option.bind_some, gR_of (ss_0 hq0) (rs_17 (hR I L) hq0), Option.bind_some, cp_of 13 (show (13 : Int32) = nI 13 from rfl) (ss_12 hq1) (ss_12 hq0) (by omega) (by omega) (by omega), Option.bind_some]
  have st13 : ∀ (I : Nat → Nat → Int32) (L : Nat → Nat → Int64) (F : xD → Option xD), ((xgR 4 shA (I, L, R0) q1 18).bind fun a => (xgR 4 shA (I, L, R0) q0 18).bind fun b => (xcp shA (I, L, R0) a (0 : Int32) b (0 : Int32) (13 : Int32)).bind F) = F (xur I (q0 + 13) (va_cpy (I (q1 + 13)) (I (q0 + 13)) 0 0 13), L, R0) := by
    intro I L F
    rw [gR_of (ss_0 hq1) (rs_18 (hR I L) hq1), Option.bind_some, gR_of (ss_0 hq0) (rs_18 (hR I L) hq0), Option.bind_some, cp_of 13 (show (13 : Int32) = nI 13 from rfl) (ss_13 hq1) (ss_13 hq0) (by omega) (by omega) (by omega), Option.bind_some]
  have sk0 : ∀ (I : Nat → Nat → Int32) (L : Nat → Nat → Int64) (F : xD → Option xD), ((xgI 4 shA (I, L, R0) q1 0).bind fun v => (xpI 4 shA (I, L, R0) q0 0 v).bind F) = F (xu I q0 0 (I q1 0), L, R0) := by
    intro I L F
    rw [gI_of (ss_0 hq1), Option.bind_some, pS_0 hq0, Option.bind_some]
  have sk1 : ∀ (I : Nat → Nat → Int32) (L : Nat → Nat → Int64) (F : xD → Option xD), ((xgI 4 shA (I, L, R0) q1 1).bind fun v => (xpI 4 shA (I, L, R0) q0 1 v).bind F) = F (xu I q0 1 (I q1 1), L, R0) := by
    intro I L F
    rw [gI_of (ss_0 hq1), Option.bind_some, pS_1 hq0, Option.bind_some]
  have sk2 : ∀ (I : Nat → Nat → Int32) (L : Nat → Nat → Int64) (F : xD → Option xD), ((xgI 4 shA (I, L, R0) q1 2).bind fun v => (xpI 4 shA (I, L, R0) q0 2 v).bind F) = F (xu I q0 2 (I q1 2), L, R0) := by
    intro I L F
    rw [gI_of (ss_0 hq1), Option.bind_some, pS_2 hq0, Option.bind_some]
  have sk4 : ∀ (I : Nat → Nat → Int32) (L : Nat → Nat → Int64) (F : xD → Option xD), ((xgI 4 shA (I, L, R0) q1 4).bind fun v => (xpI 4 shA (I, L, R0) q0 4 v).bind F) = F (xu I q0 4 (I q1 4), L, R0) := by
    intro I L F
    rw [gI_of (ss_0 hq1), Option.bind_some, pS_4 hq0, Option.bind_some]
  have sk14 : ∀ (I : Nat → Nat → Int32) (L : Nat → Nat → Int64) (F : xD → Option xD), ((xgI 4 shA (I, L, R0) q1 14).bind fun v => (xpI 4 shA (I, L, R0) q0 14 v).bind F) = F (xu I q0 14 (I q1 14), L, R0) := by
    intro I L F
    rw [gI_of (ss_0 hq1), Option.bind_some, pS_14 hq0, Option.bind_some]
  have sl : ∀ (I : Nat → Nat → Int32) (L : Nat → Nat → Int64) (F : xD → Option xD), ((xgL 4 shA (I, L, R0) q1 3).bind fun v => (xpL 4 shA (I, L, R0) q0 3 v).bind F) = F (I, xu L q0 3 (L q1 3), R0) := by
    intro I L F
    rw [gL_of (ss_0 hq1), Option.bind_some, pS_L hq0, Option.bind_some]
  unfold f_X4_become
  rw [sk0, sk1, sk2, sl, sk4, st1, st2, st3, st4, st5, st6, st7, st8, st9, sk14, st10, st11, st12, st13]
  refine ⟨_, rfl, ?_⟩
  have b0 : BC q0 q1 1 (I0, L0, R0) (xu (xu (xu (xu I0 q0 0 (I0 q1 0)) q0 1 (xu I0 q0 0 (I0 q1 0) q1 1)) q0 2 (xu (xu I0 q0 0 (I0 q1 0)) q0 1 (xu I0 q0 0 (I0 q1 0) q1 1) q1 2)) q0 4 (xu (xu (xu I0 q0 0 (I0 q1 0)) q0 1 (xu I0 q0 0 (I0 q1 0) q1 1)) q0 2 (xu (xu I0 q0 0 (I0 q1 0)) q0 1 (xu I0 q0 0 (I0 q1 0) q1 1) q1 2) q1 4), xu L0 q0 3 (L0 q1 3), R0) (fun k => if k = 4 then I0 q1 4 else if k = 2 then I0 q1 2 else if k = 1 then I0 q1 1 else if k = 0 then I0 q1 0 else I0 q0 k) := by
    refine ⟨rfl, rfl, fun k hk => ?_, fun i hi hi1 => by omega, ?_⟩
    · dsimp only; rw [xu_off (by omega), xu_off (by omega), xu_off (by omega), xu_off (by omega)]
    · have n1 : q1 ≠ q0 := by omega
      dsimp only
      simp only [xu_cell n1]
      funext k
      simp only [xu_row]
  exact bc_cp 13 hd (by omega) (by omega) 13 rfl (bc_cp 12 hd (by omega) (by omega) 13 rfl (bc_cp 11 hd (by omega) (by omega) 13 rfl (bc_cp 10 hd (by omega) (by omega) 13 rfl (bc_14 hd (bc_cp 9 hd (by omega) (by omega) 8 rfl (bc_cp 8 hd (by omega) (by omega) 8 rfl (bc_cp 7 hd (by omega) (by omega) 6 rfl (bc_cp 6 hd (by omega) (by omega) 6 rfl (bc_cp 5 hd (by omega) (by omega) 6 rfl (bc_cp 4 hd (by omega) (by omega) 6 rfl (bc_cp 3 hd (by omega) (by omega) 6 rfl (bc_cp 2 hd (by omega) (by omega) 6 rfl (bc_cp 1 hd (by omega) (by omega) 6 rfl b0)))))))))))))
/-- what copying a slot does -/
def MC (to as : Nat) (m m' : xD) : Prop := m'.2.2 = m.2.2 ∧ m'.2.1 = m.2.1 ∧ (∀ k, (k < 119 ∨ 132 ≤ k) → m'.1 k = m.1 k) ∧ (∀ k i, 119 ≤ k → k < 124 → i ≠ to → m'.1 k i = m.1 k i) ∧ (∀ k i, 124 ≤ k → k < 131 → (i < 6 * to ∨ 6 * to + 6 ≤ i) → m'.1 k i = m.1 k i) ∧ (∀ i, (i < 8 * to ∨ 8 * to + 8 ≤ i) → m'.1 131 i = m.1 131 i) ∧ (∀ k, 119 ≤ k → k < 124 → m'.1 k to = m.1 k as) ∧ (∀ k p, 124 ≤ k → k < 131 → p < 6 → m'.1 k (6 * to + p) = m.1 k (6 * as + p)) ∧ (∀ b, b < 8 → m'.1 131 (8 * to + b) = m.1 131 (8 * as + b))
theorem copies_b {m : xD} {P to as : Nat} (hd : to ≠ as) (ht : to < 23) (ha : as < 23) (hRm : RefOK m P) : ∀ n b F (I : Nat → Nat → Int32), b + n = 8 → n < F → ∃ I', xloop (fun _ _ _ _ _ => none) (b_X10_copies_190 shA) F 99 (nI to) (nI as) (nI b) (I, m.2.1, m.2.2) = some (I', m.2.1, m.2.2) ∧ (∀ k, k ≠ 131 → I' k = I k) ∧ (∀ i, (i < 8 * to + b ∨ 8 * to + 8 ≤ i) → I' 131 i = I 131 i) ∧ (∀ j, b ≤ j → j < 8 → I' 131 (8 * to + j) = I 131 (8 * as + j)) := by
  intro n
  induction n with
  | zero =>
    intro b F I h1 h2
    obtain ⟨F, rfl⟩ : ∃ G, F = G + 1 := ⟨F - 1, by omega⟩
    refine ⟨I, ?_, fun _ _ => rfl, fun _ _ => rfl, fun j j1 j2 => by omega⟩
    rw [loop_s, b_X10_copies_190, if_pos (show (8 : Int32) ≤ nI b from nI_le (a := 8) (by omega) (by omega))]
    rfl
  | succ n ih =>
    intro b F I h1 h2
    obtain ⟨F, rfl⟩ : ∃ G, F = G + 1 := ⟨F - 1, by omega⟩
    obtain ⟨I', k1, k2, k3, k4⟩ := ih (b + 1) F (xu I 131 (8 * to + b) (I 131 (8 * as + b))) (by omega) (by omega)
    refine ⟨I', ?_, fun k hk => (k2 k hk).trans (xu_off hk), fun i hi => (k3 i (by omega)).trans (xu_at2 (by omega)), fun j j1 j2 => ?_⟩
    · rw [loop_s, b_X10_copies_190, if_neg (show ¬ (8 : Int32) ≤ nI b from nI_ge (b := 8) (by omega) (by omega))]
      have hR : RefOK (I, m.2.1, m.2.2) P := hRm.same rfl
      rw [gR_of sA_99 (rf_99_47 hR), Option.bind_some, Option.bind_some, m8_, nI_add, aI_of sA_131 (by omega) (by omega), Option.bind_some, m8_, nI_add, sI_of sA_131 (by omega) (by omega), Option.bind_some, nI_1]
      exact k1
    · by_cases e : j = b
      · subst e; rw [k3 _ (by omega), xu_at]
      · rw [k4 j (by omega) j2, xu_at2 (by omega)]
theorem copies_p {m : xD} {P to as : Nat} (hd : to ≠ as) (ht : to < 23) (ha : as < 23) (hRm : RefOK m P) : ∀ n p F (I : Nat → Nat → Int32), p + n = 6 → n < F → ∃ I', xloop (fun _ _ _ _ _ => none) (b_X10_copies_62 shA) F 99 (nI to) (nI as) (nI p) (I, m.2.1, m.2.2) = k_X10_copies_188 shA 99 (nI to) (nI as) (I', m.2.1, m.2.2) ∧ (∀ k, (k < 124 ∨ 131 ≤ k) → I' k = I k) ∧ (∀ k i, 124 ≤ k → k < 131 → (i < 6 * to + p ∨ 6 * to + 6 ≤ i) → I' k i = I k i) ∧ (∀ k j, 124 ≤ k → k < 131 → p ≤ j → j < 6 → I' k (6 * to + j) = I k (6 * as + j)) := by
  intro n
  induction n with
  | zero =>
    intro p F I h1 h2
    obtain ⟨F, rfl⟩ : ∃ G, F = G + 1 := ⟨F - 1, by omega⟩
    refine ⟨I, ?_, fun _ _ => rfl, fun _ _ _ _ _ => rfl, fun k j k1 k2 j1 j2 => by omega⟩
    rw [loop_s, b_X10_copies_62, if_pos (show (6 : Int32) ≤ nI p from nI_le (a := 6) (by omega) (by omega))]
  | succ n ih =>
    intro p F I h1 h2
    obtain ⟨F, rfl⟩ : ∃ G, F = G + 1 := ⟨F - 1, by omega⟩
    have hR : ∀ I : Nat → Nat → Int32, RefOK (I, m.2.1, m.2.2) P := fun I => hRm.same rfl
    have st124 : ∀ (I : Nat → Nat → Int32) (F : xD → Option xD), ((xgR 10 shA (I, m.2.1, m.2.2) 99 40).bind fun v5 => (xgR 10 shA (I, m.2.1, m.2.2) 99 40).bind fun v6 => (xaI .int shA (I, m.2.1, m.2.2) v6 (((6 : Int32) * nI as) + nI p)).bind fun v7 => (xsI .int shA (I, m.2.1, m.2.2) v5 (((6 : Int32) * nI to) + nI p) v7).bind F) = F (xu I 124 (6 * to + p) (I 124 (6 * as + p)), m.2.1, m.2.2) := by
      intro I F
      rw [gR_of sA_99 (rf_99_40 (hR I)), Option.bind_some, Option.bind_some, m6_, nI_add, aI_of sA_124 (by omega) (by omega), Option.bind_some, m6_, nI_add, sI_of sA_124 (by omega) (by omega), Option.bind_some]
    have st125 : ∀ (I : Nat → Nat → Int32) (F : xD → Option xD), ((xgR 10 shA (I, m.2.1, m.2.2) 99 41).bind fun v5 => (xgR 10 shA (I, m.2.1, m.2.2) 99 41).bind fun v6 => (xaI .int shA (I, m.2.1, m.2.2) v6 (((6 : Int32) * nI as) + nI p)).bind fun v7 => (xsI .int shA (I, m.2.1, m.2.2) v5 (((6 : Int32) * nI to) + nI p) v7).bind F) = F (xu I 125 (6 * to + p) (I 125 (6 * as + p)), m.2.1, m.2.2) := by
      intro I F
      rw [gR_of sA_99 (rf_99_41 (hR I)), Option.bind_some, Option.bind_some, m6_, nI_add, aI_of sA_125 (by omega) (by omega), Option.bind_some, m6_, nI_add, sI_of sA_125 (by omega) (by omega), Option.bind_some]
    have st126 : ∀ (I : Nat → Nat → Int32) (F : xD → Option xD), ((xgR 10 shA (I, m.2.1, m.2.2) 99 42).bind fun v5 => (xgR 10 shA (I, m.2.1, m.2.2) 99 42).bind fun v6 => (xaI .int shA (I, m.2.1, m.2.2) v6 (((6 : Int32) * nI as) + nI p)).bind fun v7 => (xsI .int shA (I, m.2.1, m.2.2) v5 (((6 : Int32) * nI to) + nI p) v7).bind F) = F (xu I 126 (6 * to + p) (I 126 (6 * as + p)), m.2.1, m.2.2) := by
      intro I F
      rw [gR_of sA_99 (rf_99_42 (hR I)), Option.bind_some, Option.bind_some, m6_, nI_add, aI_of sA_126 (by omega) (by omega), Option.bind_some, m6_, nI_add, sI_of sA_126 (by omega) (by omega), Option.bind_some]
    have st127 : ∀ (I : Nat → Nat → Int32) (F : xD → Option xD), ((xgR 10 shA (I, m.2.1, m.2.2) 99 43).bind fun v5 => (xgR 10 shA (I, m.2.1, m.2.2) 99 43).bind fun v6 => (xaI .int shA (I, m.2.1, m.2.2) v6 (((6 : Int32) * nI as) + nI p)).bind fun v7 => (xsI .int shA (I, m.2.1, m.2.2) v5 (((6 : Int32) * nI to) + nI p) v7).bind F) = F (xu I 127 (6 * to + p) (I 127 (6 * as + p)), m.2.1, m.2.2) := by
      intro I F
      rw [gR_of sA_99 (rf_99_43 (hR I)), Option.bind_some, Option.bind_some, m6_, nI_add, aI_of sA_127 (by omega) (by omega), Option.bind_some, m6_, nI_add, sI_of sA_127 (by omega) (by omega), Option.bind_some]
    have st128 : ∀ (I : Nat → Nat → Int32) (F : xD → Option xD), ((xgR 10 shA (I, m.2.1, m.2.2) 99 44).bind fun v5 => (xgR 10 shA (I, m.2.1, m.2.2) 99 44).bind fun v6 => (xaI .int shA (I, m.2.1, m.2.2) v6 (((6 : Int32) * nI as) + nI p)).bind fun v7 => (xsI .int shA (I, m.2.1, m.2.2) v5 (((6 : Int32) * nI to) + nI p) v7).bind F) = F (xu I 128 (6 * to + p) (I 128 (6 * as + p)), m.2.1, m.2.2) := by
      intro I F
      rw [gR_of sA_99 (rf_99_44 (hR I)), Option.bind_some, Option.bind_some, m6_, nI_add, aI_of sA_128 (by omega) (by omega), Option.bind_some, m6_, nI_add, sI_of sA_128 (by omega) (by omega), Option.bind_some]
    have st129 : ∀ (I : Nat → Nat → Int32) (F : xD → Option xD), ((xgR 10 shA (I, m.2.1, m.2.2) 99 45).bind fun v5 => (xgR 10 shA (I, m.2.1, m.2.2) 99 45).bind fun v6 => (xaI .int shA (I, m.2.1, m.2.2) v6 (((6 : Int32) * nI as) + nI p)).bind fun v7 => (xsI .int shA (I, m.2.1, m.2.2) v5 (((6 : Int32) * nI to) + nI p) v7).bind F) = F (xu I 129 (6 * to + p) (I 129 (6 * as + p)), m.2.1, m.2.2) := by
      intro I F
      rw [gR_of sA_99 (rf_99_45 (hR I)), Option.bind_some, Option.bind_some, m6_, nI_add, aI_of sA_129 (by omega) (by omega), Option.bind_some, m6_, nI_add, sI_of sA_129 (by omega) (by omega), Option.bind_some]
    have st130 : ∀ (I : Nat → Nat → Int32) (F : xD → Option xD), ((xgR 10 shA (I, m.2.1, m.2.2) 99 46).bind fun v5 => (xgR 10 shA (I, m.2.1, m.2.2) 99 46).bind fun v6 => (xaI .int shA (I, m.2.1, m.2.2) v6 (((6 : Int32) * nI as) + nI p)).bind fun v7 => (xsI .int shA (I, m.2.1, m.2.2) v5 (((6 : Int32) * nI to) + nI p) v7).bind F) = F (xu I 130 (6 * to + p) (I 130 (6 * as + p)), m.2.1, m.2.2) := by
      intro I F
      rw [gR_of sA_99 (rf_99_46 (hR I)), Option.bind_some, Option.bind_some, m6_, nI_add, aI_of sA_130 (by omega) (by omega), Option.bind_some, m6_, nI_add, sI_of sA_130 (by omega) (by omega), Option.bind_some]
    generalize hJ : (xu (xu (xu (xu (xu (xu (xu I 124 (6 * to + p) (I 124 (6 * as + p))) 125 (6 * to + p) ((xu I 124 (6 * to + p) (I 124 (6 * as + p))) 125 (6 * as + p))) 126 (6 * to + p) ((xu (xu I 124 (6 * to + p) (I 124 (6 * as + p))) 125 (6 * to + p) ((xu I 124 (6 * to + p) (I 124 (6 * as + p))) 125 (6 * as + p))) 126 (6 * as + p))) 127 (6 * to + p) ((xu (xu (xu I 124 (6 * to + p) (I 124 (6 * as + p))) 125 (6 * to + p) ((xu I 124 (6 * to + p) (I 124 (6 * as + p))) 125 (6 * as + p))) 126 (6 * to + p) ((xu (xu I 124 (6 * to + p) (I 124 (6 * as + p))) 125 (6 * to + p) ((xu I 124 (6 * to + p) (I 124 (6 * as + p))) 125 (6 * as + p))) 126 (6 * as + p))) 127 (6 * as + p))) 128 (6 * to + p) ((xu (xu (xu (xu I 124 (6 * to + p) (I 124 (6 * as + p))) 125 (6 * to + p) ((xu I 124 (6 * to + p) (I 124 (6 * as + p))) 125 (6 * as + p))) 126 (6 * to + p) ((xu (xu I 124 (6 * to + p) (I 124 (6 * as + p))) 125 (6 * to + p) ((xu I 124 (6 * to + p) (I 124 (6 * as + p))) 125 (6 * as + p))) 126 (6 * as + p))) 127 (6 * to + p) ((xu (xu (xu I 124 (6 * to + p) (I 124 (6 * as + p))) 125 (6 * to + p) ((xu I 124 (6 * to + p) (I 124 (6 * as + p))) 125 (6 * as + p))) 126 (6 * to + p) ((xu (xu I 124 (6 * to + p) (I 124 (6 * as + p))) 125 (6 * to + p) ((xu I 124 (6 * to + p) (I 124 (6 * as + p))) 125 (6 * as + p))) 126 (6 * as + p))) 127 (6 * as + p))) 128 (6 * as + p))) 129 (6 * to + p) ((xu (xu (xu (xu (xu I 124 (6 * to + p) (I 124 (6 * as + p))) 125 (6 * to + p) ((xu I 124 (6 * to + p) (I 124 (6 * as + p))) 125 (6 * as + p))) 126 (6 * to + p) ((xu (xu I 124 (6 * to + p) (I 124 (6 * as + p))) 125 (6 * to + p) ((xu I 124 (6 * to + p) (I 124 (6 * as + p))) 125 (6 * as + p))) 126 (6 * as + p))) 127 (6 * to + p) ((xu (xu (xu I 124 (6 * to + p) (I 124 (6 * as + p))) 125 (6 * to + p) ((xu I 124 (6 * to + p) (I 124 (6 * as + p))) 125 (6 * as + p))) 126 (6 * to + p) ((xu (xu I 124 (6 * to + p) (I 124 (6 * as + p))) 125 (6 * to + p) ((xu I 124 (6 * to + p) (I 124 (6 * as + p))) 125 (6 * as + p))) 126 (6 * as + p))) 127 (6 * as + p))) 128 (6 * to + p) ((xu (xu (xu (xu I 124 (6 * to + p) (I 124 (6 * as + p))) 125 (6 * to + p) ((xu I 124 (6 * to + p) (I 124 (6 * as + p))) 125 (6 * as + p))) 126 (6 * to + p) ((xu (xu I 124 (6 * to + p) (I 124 (6 * as + p))) 125 (6 * to + p) ((xu I 124 (6 * to + p) (I 124 (6 * as + p))) 125 (6 * as + p))) 126 (6 * as + p))) 127 (6 * to + p) ((xu (xu (xu I 124 (6 * to + p) (I 124 (6 * as + p))) 125 (6 * to + p) ((xu I 124 (6 * to + p) (I 124 (6 * as + p))) 125 (6 * as + p))) 126 (6 * to + p) ((xu (xu I 124 (6 * to + p) (I 124 (6 * as + p))) 125 (6 * to + p) ((xu I 124 (6 * to + p) (I 124 (6 * as + p))) 125 (6 * as + p))) 126 (6 * as + p))) 127 (6 * as + p))) 128 (6 * as + p))) 129 (6 * as + p))) 130 (6 * to + p) ((xu (xu (xu (xu (xu (xu I 124 (6 * to + p) (I 124 (6 * as + p))) 125 (6 * to + p) ((xu I 124 (6 * to + p) (I 124 (6 * as + p))) 125 (6 * as + p))) 126 (6 * to + p) ((xu (xu I 124 (6 * to + p) (I 124 (6 * as + p))) 125 (6 * to + p) ((xu I 124 (6 * to + p) (I 124 (6 * as + p))) 125 (6 * as + p))) 126 (6 * as + p))) 127 (6 * to + p) ((xu (xu (xu I 124 (6 * to + p) (I 124 (6 * as + p))) 125 (6 * to + p) ((xu I 124 (6 * to + p) (I 124 (6 * as + p))) 125 (6 * as + p))) 126 (6 * to + p) ((xu (xu I 124 (6 * to + p) (I 124 (6 * as + p))) 125 (6 * to + p) ((xu I 124 (6 * to + p) (I 124 (6 * as + p))) 125 (6 * as + p))) 126 (6 * as + p))) 127 (6 * as + p))) 128 (6 * to + p) ((xu (xu (xu (xu I 124 (6 * to + p) (I 124 (6 * as + p))) 125 (6 * to + p) ((xu I 124 (6 * to + p) (I 124 (6 * as + p))) 125 (6 * as + p))) 126 (6 * to + p) ((xu (xu I 124 (6 * to + p) (I 124 (6 * as + p))) 125 (6 * to + p) ((xu I 124 (6 * to + p) (I 124 (6 * as + p))) 125 (6 * as + p))) 126 (6 * as + p))) 127 (6 * to + p) ((xu (xu (xu I 124 (6 * to + p) (I 124 (6 * as + p))) 125 (6 * to + p) ((xu I 124 (6 * to + p) (I 124 (6 * as + p))) 125 (6 * as + p))) 126 (6 * to + p) ((xu (xu I 124 (6 * to + p) (I 124 (6 * as + p))) 125 (6 * to + p) ((xu I 124 (6 * to + p) (I 124 (6 * as + p))) 125 (6 * as + p))) 126 (6 * as + p))) 127 (6 * as + p))) 128 (6 * as + p))) 129 (6 * to + p) ((xu (xu (xu (xu (xu I 124 (6 * to + p) (I 124 (6 * as + p))) 125 (6 * to + p) ((xu I 124 (6 * to + p) (I 124 (6 * as + p))) 125 (6 * as + p))) 126 (6 * to + p) ((xu (xu I 124 (6 * to + p) (I 124 (6 * as + p))) 125 (6 * to + p) ((xu I 124 (6 * to + p) (I 124 (6 * as + p))) 125 (6 * as + p))) 126 (6 * as + p))) 127 (6 * to + p) ((xu (xu (xu I 124 (6 * to + p) (I 124 (6 * as + p))) 125 (6 * to + p) ((xu I 124 (6 * to + p) (I 124 (6 * as + p))) 125 (6 * as + p))) 126 (6 * to + p) ((xu (xu I 124 (6 * to + p) (I 124 (6 * as + p))) 125 (6 * to + p) ((xu I 124 (6 * to + p) (I 124 (6 * as + p))) 125 (6 * as + p))) 126 (6 * as + p))) 127 (6 * as + p))) 128 (6 * to + p) ((xu (xu (xu (xu I 124 (6 * to + p) (I 124 (6 * as + p))) 125 (6 * to + p) ((xu I 124 (6 * to + p) (I 124 (6 * as + p))) 125 (6 * as + p))) 126 (6 * to + p) ((xu (xu I 124 (6 * to + p) (I 124 (6 * as + p))) 125 (6 * to + p) ((xu I 124 (6 * to + p) (I 124 (6 * as + p))) 125 (6 * as + p))) 126 (6 * as + p))) 127 (6 * to + p) ((xu (xu (xu I 124 (6 * to + p) (I 124 (6 * as + p))) 125 (6 * to + p) ((xu I 124 (6 * to + p) (I 124 (6 * as + p))) 125 (6 * as + p))) 126 (6 * to + p) ((xu (xu I 124 (6 * to + p) (I 124 (6 * as + p))) 125 (6 * to + p) ((xu I 124 (6 * to + p) (I 124 (6 * as + p))) 125 (6 * as + p))) 126 (6 * as + p))) 127 (6 * as + p))) 128 (6 * as + p))) 129 (6 * as + p))) 130 (6 * as + p))) = J
    have g0 : ∀ k, (k < 124 ∨ 131 ≤ k) → J k = I k := by
      intro k hk; rw [← hJ]
      rw [xu_off (by omega), xu_off (by omega), xu_off (by omega), xu_off (by omega), xu_off (by omega), xu_off (by omega), xu_off (by omega)]
    have g1 : ∀ k i, 124 ≤ k → k < 131 → i ≠ 6 * to + p → J k i = I k i := by
      intro k i k1 k2 hi
      rw [← hJ]
      rcases (show k = 124 ∨ k = 125 ∨ k = 126 ∨ k = 127 ∨ k = 128 ∨ k = 129 ∨ k = 130 by omega) with e | e | e | e | e | e | e <;> subst e <;> simp (disch := omega) only [xu_cell, xu_at2]
    have g2 : ∀ k, 124 ≤ k → k < 131 → J k (6 * to + p) = I k (6 * as + p) := by
      intro k k1 k2
      rw [← hJ]
      rcases (show k = 124 ∨ k = 125 ∨ k = 126 ∨ k = 127 ∨ k = 128 ∨ k = 129 ∨ k = 130 by omega) with e | e | e | e | e | e | e <;> subst e <;> simp (disch := omega) only [xu_cell, xu_at]
    obtain ⟨I', k1, k2, k3, k4⟩ := ih (p + 1) F J (by omega) (by omega)
    refine ⟨I', ?_, fun k hk => (k2 k hk).trans (g0 k hk), fun k i h3 h4 hi => (k3 k i h3 h4 (by omega)).trans (g1 k i h3 h4 (by omega)), fun k j h3 h4 j1 j2 => ?_⟩
    · rw [loop_s, b_X10_copies_62, if_neg (show ¬ (6 : Int32) ≤ nI p from nI_ge (b := 6) (by omega) (by omega)), st124, st125, st126, st127, st128, st129, st130, nI_1, hJ]
      exact k1
    · by_cases e : j = p
      · subst e; rw [k3 k _ h3 h4 (by omega)]; exact g2 k h3 h4
      · rw [k4 k j h3 h4 (by omega) j2]; exact g1 k _ h3 h4 (by omega)
theorem e_copies {m : xD} {P to as : Nat} (hd : to ≠ as) (ht : to < 23) (ha : as < 23) (hRm : RefOK m P) : ∃ m', f_X10_copies shA 99 (nI to) (nI as) m = some m' ∧ MC to as m m' := by
  have hR : ∀ I : Nat → Nat → Int32, RefOK (I, m.2.1, m.2.2) P := fun I => hRm.same rfl
  have st119 : ∀ (I : Nat → Nat → Int32) (F : xD → Option xD), ((xgR 10 shA (I, m.2.1, m.2.2) 99 35).bind fun v5 => (xgR 10 shA (I, m.2.1, m.2.2) 99 35).bind fun v6 => (xaI .int shA (I, m.2.1, m.2.2) v6 (nI as)).bind fun v7 => (xsI .int shA (I, m.2.1, m.2.2) v5 (nI to) v7).bind F) = F (xu I 119 to (I 119 as), m.2.1, m.2.2) := by
    intro I F
    rw [gR_of sA_99 (rf_99_35 (hR I)), Option.bind_some, Option.bind_some, aI_of sA_119 ha (by omega), Option.bind_some, sI_of sA_119 ht (by omega), Option.bind_some]
  have st120 : ∀ (I : Nat → Nat → Int32) (F : xD → Option xD), ((xgR 10 shA (I, m.2.1, m.2.2) 99 36).bind fun v5 => (xgR 10 shA (I, m.2.1, m.2.2) 99 36).bind fun v6 => (xaI .int shA (I, m.2.1, m.2.2) v6 (nI as)).bind fun v7 => (xsI .int shA (I, m.2.1, m.2.2) v5 (nI to) v7).bind F) = F (xu I 120 to (I 120 as), m.2.1, m.2.2) := by
    intro I F
    rw [gR_of sA_99 (rf_99_36 (hR I)), Option.bind_some, Option.bind_some, aI_of sA_120 ha (by omega), Option.bind_some, sI_of sA_120 ht (by omega), Option.bind_some]
  have st121 : ∀ (I : Nat → Nat → Int32) (F : xD → Option xD), ((xgR 10 shA (I, m.2.1, m.2.2) 99 37).bind fun v5 => (xgR 10 shA (I, m.2.1, m.2.2) 99 37).bind fun v6 => (xaI .int shA (I, m.2.1, m.2.2) v6 (nI as)).bind fun v7 => (xsI .int shA (I, m.2.1, m.2.2) v5 (nI to) v7).bind F) = F (xu I 121 to (I 121 as), m.2.1, m.2.2) := by
    intro I F
    rw [gR_of sA_99 (rf_99_37 (hR I)), Option.bind_some, Option.bind_some, aI_of sA_121 ha (by omega), Option.bind_some, sI_of sA_121 ht (by omega), Option.bind_some]
  have st122 : ∀ (I : Nat → Nat → Int32) (F : xD → Option xD), ((xgR 10 shA (I, m.2.1, m.2.2) 99 38).bind fun v5 => (xgR 10 shA (I, m.2.1, m.2.2) 99 38).bind fun v6 => (xaI .int shA (I, m.2.1, m.2.2) v6 (nI as)).bind fun v7 => (xsI .int shA (I, m.2.1, m.2.2) v5 (nI to) v7).bind F) = F (xu I 122 to (I 122 as), m.2.1, m.2.2) := by
    intro I F
    rw [gR_of sA_99 (rf_99_38 (hR I)), Option.bind_some, Option.bind_some, aI_of sA_122 ha (by omega), Option.bind_some, sI_of sA_122 ht (by omega), Option.bind_some]
  have st123 : ∀ (I : Nat → Nat → Int32) (F : xD → Option xD), ((xgR 10 shA (I, m.2.1, m.2.2) 99 39).bind fun v5 => (xgR 10 shA (I, m.2.1, m.2.2) 99 39).bind fun v6 => (xaI .int shA (I, m.2.1, m.2.2) v6 (nI as)).bind fun v7 => (xsI .int shA (I, m.2.1, m.2.2) v5 (nI to) v7).bind F) = F (xu I 123 to (I 123 as), m.2.1, m.2.2) := by
    intro I F
    rw [gR_of sA_99 (rf_99_39 (hR I)), Option.bind_some, Option.bind_some, aI_of sA_123 ha (by omega), Option.bind_some, sI_of sA_123 ht (by omega), Option.bind_some]
  generalize hJ : (xu (xu (xu (xu (xu m.1 119 to (m.1 119 as)) 120 to ((xu m.1 119 to (m.1 119 as)) 120 as)) 121 to ((xu (xu m.1 119 to (m.1 119 as)) 120 to ((xu m.1 119 to (m.1 119 as)) 120 as)) 121 as)) 122 to ((xu (xu (xu m.1 119 to (m.1 119 as)) 120 to ((xu m.1 119 to (m.1 119 as)) 120 as)) 121 to ((xu (xu m.1 119 to (m.1 119 as)) 120 to ((xu m.1 119 to (m.1 119 as)) 120 as)) 121 as)) 122 as)) 123 to ((xu (xu (xu (xu m.1 119 to (m.1 119 as)) 120 to ((xu m.1 119 to (m.1 119 as)) 120 as)) 121 to ((xu (xu m.1 119 to (m.1 119 as)) 120 to ((xu m.1 119 to (m.1 119 as)) 120 as)) 121 as)) 122 to ((xu (xu (xu m.1 119 to (m.1 119 as)) 120 to ((xu m.1 119 to (m.1 119 as)) 120 as)) 121 to ((xu (xu m.1 119 to (m.1 119 as)) 120 to ((xu m.1 119 to (m.1 119 as)) 120 as)) 121 as)) 122 as)) 123 as)) = J
  have g0 : ∀ k, (k < 119 ∨ 124 ≤ k) → J k = m.1 k := by
    intro k hk; rw [← hJ]
    rw [xu_off (by omega), xu_off (by omega), xu_off (by omega), xu_off (by omega), xu_off (by omega)]
  have g1 : ∀ k i, 119 ≤ k → k < 124 → i ≠ to → J k i = m.1 k i := by
    intro k i k1 k2 hi
    rw [← hJ]
    rcases (show k = 119 ∨ k = 120 ∨ k = 121 ∨ k = 122 ∨ k = 123 by omega) with e | e | e | e | e <;> subst e <;> simp (disch := omega) only [xu_cell, xu_at2]
  have g2 : ∀ k, 119 ≤ k → k < 124 → J k to = m.1 k as := by
    intro k k1 k2
    rw [← hJ]
    rcases (show k = 119 ∨ k = 120 ∨ k = 121 ∨ k = 122 ∨ k = 123 by omega) with e | e | e | e | e <;> subst e <;> simp (disch := omega) only [xu_cell, xu_at]
  obtain ⟨I1, a1, a2, a3, a4⟩ := copies_p hd ht ha hRm 6 0 xF J (by omega) (xF_big (by omega))
  obtain ⟨I2, b1, b2, b3, b4⟩ := copies_b hd ht ha hRm 8 0 xF I1 (by omega) (xF_big (by omega))
  refine ⟨(I2, m.2.1, m.2.2), ?_, rfl, rfl, fun k hk => ?_, fun k i k1 k2 hi => ?_, fun k i k1 k2 hi => ?_, fun i hi => ?_, fun k k1 k2 => ?_, fun k p k1 k2 hp => ?_, fun b hb => ?_⟩
  · have e0 : m = (m.1, m.2.1, m.2.2) := rfl
    unfold f_X10_copies
    rw [e0, st119, st120, st121, st122, st123]
    dsimp only
    rw [hJ]
    exact a1.trans b1
  · dsimp only; rw [b2 k (by omega), a2 k (by omega), g0 k (by omega)]
  · dsimp only; rw [b2 k (by omega), a2 k (by omega), g1 k i k1 k2 hi]
  · dsimp only; rw [b2 k (by omega), a3 k i k1 k2 (by omega), g0 k (by omega)]
  · dsimp only; rw [b3 i (by omega), a2 131 (by omega), g0 131 (by omega)]
  · dsimp only; rw [b2 k (by omega), a2 k (by omega), g2 k k1 k2]
  · dsimp only; rw [b2 k (by omega), a4 k p k1 k2 (by omega) hp, g0 k (by omega)]
  · dsimp only; rw [b4 b (by omega) hb, a2 131 (by omega), g0 131 (by omega)]

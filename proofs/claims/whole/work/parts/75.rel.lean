/-! LEVEL 2: what plan and scene have to do with the reference's rows -/
def trK (so va : Int32) : Int32 := if so = 0 then 22 else if so = 1 then 14 + va else if va = 260 then 13 else if va = 261 then 12 else if va = 262 then 11 else if va = 43 then 26 else if va = 45 then 27 else if va = 42 then 28 else if va = 47 then 29 else if va = 60 then 30 else if va = 256 then 31 else if va = 61 then 32 else if va = 257 then 33 else if va = 258 then 34 else 35
def isSg (va : Int32) : Prop := va = 260 ∨ va = 261 ∨ va = 262 ∨ va = 43 ∨ va = 45 ∨ va = 42 ∨ va = 47 ∨ va = 60 ∨ va = 256 ∨ va = 61 ∨ va = 257 ∨ va = 258 ∨ va = 62
def okK (so va op : Int32) : Prop := (so = 0 ∧ op = va ∧ ∃ a, a ≤ 9999 ∧ va = nI a) ∨ (so = 1 ∧ ∃ a, a < 7 ∧ va = nI a) ∨ (so = 2 ∧ isSg va)
def post (so va : Nat → Int32) : Nat → Nat → Nat → Prop
  | _, 0, h => h = 1
  | i, n + 1, h => if so i = 2 then (if va i = 260 then 1 ≤ h ∧ post so va (i + 1) n h else 2 ≤ h ∧ post so va (i + 1) n (h - 1)) else post so va (i + 1) n (h + 1)
def LW (P h : Nat) (I J : Nat → Nat → Int32) (k : Nat) : Prop := (bt (I (P + 13) 4) k = false ∧ J 113 (3 * h + k) = J 114 (3 * h + k)) ∨ (bt (I (P + 13) 4) k = true ∧ ∃ a b, a < b ∧ b ≤ 64 ∧ I (P + 16) k = nI a ∧ I (P + 17) k = nI b ∧ J 113 (3 * h + k) = nI a ∧ J 114 (3 * h + k) = nI b ∧ (∀ i, a ≤ i → i < b → I (P + 14) i = trK (J 115 (64 * h + i)) (J 116 (64 * h + i)) ∧ okK (J 115 (64 * h + i)) (J 116 (64 * h + i)) (I (P + 15) i)) ∧ post (fun i => J 115 (64 * h + i)) (fun i => J 116 (64 * h + i)) a (b - a) 0)
def PR (P h nw nb nr tp : Nat) (I J : Nat → Nat → Int32) : Prop := (isPl P) ∧ (nw ≤ 6) ∧ (nb ≤ 8) ∧ (nr ≤ 12) ∧ (2 ≤ tp) ∧ (tp ≤ 60) ∧ (I P 0 = nI tp) ∧ (I P 4 = nI nb) ∧ (I P 9 = nI nw) ∧ (I P 15 = nI nr) ∧ (J 101 (8 * h) = nI tp) ∧ (J 101 (8 * h + 1) = nI nb) ∧ (J 101 (8 * h + 2) = nI nw) ∧ (J 101 (8 * h + 3) = nI nr) ∧ (∃ a, a < tp ∧ J 101 (8 * h + 4) = nI a ∧ I P 1 = (if a = 0 then -2 else nI a)) ∧ (∃ a, a ≤ 100 ∧ J 101 (8 * h + 5) = nI a ∧ I P 2 = nI a) ∧ (∃ a, a ≤ 99999 ∧ J 101 (8 * h + 6) = nI a ∧ I P 3 = nI a) ∧ (∃ a, a ≤ 64 ∧ J 101 (8 * h + 7) = nI a ∧ I (P + 13) 0 = nI a ∧ I (P + 13) 1 = nI a) ∧ (∀ i, i < nb → I (P + 1) i = J 102 (8 * h + i)) ∧ (∀ i, i < nb → I (P + 2) i = J 103 (8 * h + i)) ∧ (∀ i, i < nb → ∃ a, 1 ≤ a ∧ a < tp ∧ J 103 (8 * h + i) = nI a) ∧ (∀ i j, i < nb → j < nb → J 103 (8 * h + i) = J 103 (8 * h + j) → i = j) ∧ (∀ i, i < nb → ∃ a, 1 ≤ a ∧ a ≤ 3 ∧ I (P + 3) i = nI a ∧ J 104 (8 * h + i) = nI a) ∧ (∀ k, k ≤ 60 → I (P + 4) k = findI (fun i => J 103 (8 * h + i)) (nI k) 0 nb) ∧ (∀ i, i < nw → I (P + 5) i = J 105 (6 * h + i)) ∧ (∀ i, i < nw → ∃ a, a ≤ tp ∧ I (P + 6) i = nI a ∧ J 106 (6 * h + i) = nI a) ∧ (∀ i, i < nw → I (P + 7) i = J 107 (6 * h + i)) ∧ (∀ i, i < nw → ∃ a, 1 ≤ a ∧ a ≤ 9 ∧ I (P + 8) i = nI a ∧ J 108 (6 * h + i) = nI a) ∧ (∀ i, i < nw → I (P + 9) i = J 109 (6 * h + i)) ∧ (∀ i, i < nr → I (P + 10) i = J 110 (12 * h + i) ∧ I (P + 11) i = J 111 (12 * h + i) ∧ I (P + 12) i = J 112 (12 * h + i)) ∧ (∀ i, i < nr → ∃ a, 1 ≤ a ∧ a ≤ 30 ∧ J 112 (12 * h + i) = nI a) ∧ (∀ k, k < 3 → LW P h I J k)
theorem pr_pl {P h nw nb nr tp : Nat} {I J : Nat → Nat → Int32} (hh : PR P h nw nb nr tp I J) : isPl P := hh.1
theorem pr_w6 {P h nw nb nr tp : Nat} {I J : Nat → Nat → Int32} (hh : PR P h nw nb nr tp I J) : nw ≤ 6 := hh.2.1
theorem pr_b8 {P h nw nb nr tp : Nat} {I J : Nat → Nat → Int32} (hh : PR P h nw nb nr tp I J) : nb ≤ 8 := hh.2.2.1
theorem pr_r12 {P h nw nb nr tp : Nat} {I J : Nat → Nat → Int32} (hh : PR P h nw nb nr tp I J) : nr ≤ 12 := hh.2.2.2.1
theorem pr_t2 {P h nw nb nr tp : Nat} {I J : Nat → Nat → Int32} (hh : PR P h nw nb nr tp I J) : 2 ≤ tp := hh.2.2.2.2.1
theorem pr_t60 {P h nw nb nr tp : Nat} {I J : Nat → Nat → Int32} (hh : PR P h nw nb nr tp I J) : tp ≤ 60 := hh.2.2.2.2.2.1
theorem pr_cT {P h nw nb nr tp : Nat} {I J : Nat → Nat → Int32} (hh : PR P h nw nb nr tp I J) : I P 0 = nI tp := hh.2.2.2.2.2.2.1
theorem pr_cB {P h nw nb nr tp : Nat} {I J : Nat → Nat → Int32} (hh : PR P h nw nb nr tp I J) : I P 4 = nI nb := hh.2.2.2.2.2.2.2.1
theorem pr_cW {P h nw nb nr tp : Nat} {I J : Nat → Nat → Int32} (hh : PR P h nw nb nr tp I J) : I P 9 = nI nw := hh.2.2.2.2.2.2.2.2.1
theorem pr_cR {P h nw nb nr tp : Nat} {I J : Nat → Nat → Int32} (hh : PR P h nw nb nr tp I J) : I P 15 = nI nr := hh.2.2.2.2.2.2.2.2.2.1
theorem pr_mT {P h nw nb nr tp : Nat} {I J : Nat → Nat → Int32} (hh : PR P h nw nb nr tp I J) : J 101 (8 * h) = nI tp := hh.2.2.2.2.2.2.2.2.2.2.1
theorem pr_mB {P h nw nb nr tp : Nat} {I J : Nat → Nat → Int32} (hh : PR P h nw nb nr tp I J) : J 101 (8 * h + 1) = nI nb := hh.2.2.2.2.2.2.2.2.2.2.2.1
theorem pr_mW {P h nw nb nr tp : Nat} {I J : Nat → Nat → Int32} (hh : PR P h nw nb nr tp I J) : J 101 (8 * h + 2) = nI nw := hh.2.2.2.2.2.2.2.2.2.2.2.2.1
theorem pr_mR {P h nw nb nr tp : Nat} {I J : Nat → Nat → Int32} (hh : PR P h nw nb nr tp I J) : J 101 (8 * h + 3) = nI nr := hh.2.2.2.2.2.2.2.2.2.2.2.2.2.1
theorem pr_pi {P h nw nb nr tp : Nat} {I J : Nat → Nat → Int32} (hh : PR P h nw nb nr tp I J) : ∃ a, a < tp ∧ J 101 (8 * h + 4) = nI a ∧ I P 1 = (if a = 0 then -2 else nI a) := hh.2.2.2.2.2.2.2.2.2.2.2.2.2.2.1
theorem pr_ca {P h nw nb nr tp : Nat} {I J : Nat → Nat → Int32} (hh : PR P h nw nb nr tp I J) : ∃ a, a ≤ 100 ∧ J 101 (8 * h + 5) = nI a ∧ I P 2 = nI a := hh.2.2.2.2.2.2.2.2.2.2.2.2.2.2.2.1
theorem pr_se {P h nw nb nr tp : Nat} {I J : Nat → Nat → Int32} (hh : PR P h nw nb nr tp I J) : ∃ a, a ≤ 99999 ∧ J 101 (8 * h + 6) = nI a ∧ I P 3 = nI a := hh.2.2.2.2.2.2.2.2.2.2.2.2.2.2.2.2.1
theorem pr_kn {P h nw nb nr tp : Nat} {I J : Nat → Nat → Int32} (hh : PR P h nw nb nr tp I J) : ∃ a, a ≤ 64 ∧ J 101 (8 * h + 7) = nI a ∧ I (P + 13) 0 = nI a ∧ I (P + 13) 1 = nI a := hh.2.2.2.2.2.2.2.2.2.2.2.2.2.2.2.2.2.1
theorem pr_bn {P h nw nb nr tp : Nat} {I J : Nat → Nat → Int32} (hh : PR P h nw nb nr tp I J) : ∀ i, i < nb → I (P + 1) i = J 102 (8 * h + i) := hh.2.2.2.2.2.2.2.2.2.2.2.2.2.2.2.2.2.2.1
theorem pr_bs {P h nw nb nr tp : Nat} {I J : Nat → Nat → Int32} (hh : PR P h nw nb nr tp I J) : ∀ i, i < nb → I (P + 2) i = J 103 (8 * h + i) := hh.2.2.2.2.2.2.2.2.2.2.2.2.2.2.2.2.2.2.2.1
theorem pr_br {P h nw nb nr tp : Nat} {I J : Nat → Nat → Int32} (hh : PR P h nw nb nr tp I J) : ∀ i, i < nb → ∃ a, 1 ≤ a ∧ a < tp ∧ J 103 (8 * h + i) = nI a := hh.2.2.2.2.2.2.2.2.2.2.2.2.2.2.2.2.2.2.2.2.1
theorem pr_bd {P h nw nb nr tp : Nat} {I J : Nat → Nat → Int32} (hh : PR P h nw nb nr tp I J) : ∀ i j, i < nb → j < nb → J 103 (8 * h + i) = J 103 (8 * h + j) → i = j := hh.2.2.2.2.2.2.2.2.2.2.2.2.2.2.2.2.2.2.2.2.2.1
theorem pr_bc {P h nw nb nr tp : Nat} {I J : Nat → Nat → Int32} (hh : PR P h nw nb nr tp I J) : ∀ i, i < nb → ∃ a, 1 ≤ a ∧ a ≤ 3 ∧ I (P + 3) i = nI a ∧ J 104 (8 * h + i) = nI a := hh.2.2.2.2.2.2.2.2.2.2.2.2.2.2.2.2.2.2.2.2.2.2.1
theorem pr_ba {P h nw nb nr tp : Nat} {I J : Nat → Nat → Int32} (hh : PR P h nw nb nr tp I J) : ∀ k, k ≤ 60 → I (P + 4) k = findI (fun i => J 103 (8 * h + i)) (nI k) 0 nb := hh.2.2.2.2.2.2.2.2.2.2.2.2.2.2.2.2.2.2.2.2.2.2.2.1
theorem pr_wn {P h nw nb nr tp : Nat} {I J : Nat → Nat → Int32} (hh : PR P h nw nb nr tp I J) : ∀ i, i < nw → I (P + 5) i = J 105 (6 * h + i) := hh.2.2.2.2.2.2.2.2.2.2.2.2.2.2.2.2.2.2.2.2.2.2.2.2.1
theorem pr_ws {P h nw nb nr tp : Nat} {I J : Nat → Nat → Int32} (hh : PR P h nw nb nr tp I J) : ∀ i, i < nw → ∃ a, a ≤ tp ∧ I (P + 6) i = nI a ∧ J 106 (6 * h + i) = nI a := hh.2.2.2.2.2.2.2.2.2.2.2.2.2.2.2.2.2.2.2.2.2.2.2.2.2.1
theorem pr_wd {P h nw nb nr tp : Nat} {I J : Nat → Nat → Int32} (hh : PR P h nw nb nr tp I J) : ∀ i, i < nw → I (P + 7) i = J 107 (6 * h + i) := hh.2.2.2.2.2.2.2.2.2.2.2.2.2.2.2.2.2.2.2.2.2.2.2.2.2.2.1
theorem pr_wp {P h nw nb nr tp : Nat} {I J : Nat → Nat → Int32} (hh : PR P h nw nb nr tp I J) : ∀ i, i < nw → ∃ a, 1 ≤ a ∧ a ≤ 9 ∧ I (P + 8) i = nI a ∧ J 108 (6 * h + i) = nI a := hh.2.2.2.2.2.2.2.2.2.2.2.2.2.2.2.2.2.2.2.2.2.2.2.2.2.2.2.1
theorem pr_wm {P h nw nb nr tp : Nat} {I J : Nat → Nat → Int32} (hh : PR P h nw nb nr tp I J) : ∀ i, i < nw → I (P + 9) i = J 109 (6 * h + i) := hh.2.2.2.2.2.2.2.2.2.2.2.2.2.2.2.2.2.2.2.2.2.2.2.2.2.2.2.2.1
theorem pr_rr {P h nw nb nr tp : Nat} {I J : Nat → Nat → Int32} (hh : PR P h nw nb nr tp I J) : ∀ i, i < nr → I (P + 10) i = J 110 (12 * h + i) ∧ I (P + 11) i = J 111 (12 * h + i) ∧ I (P + 12) i = J 112 (12 * h + i) := hh.2.2.2.2.2.2.2.2.2.2.2.2.2.2.2.2.2.2.2.2.2.2.2.2.2.2.2.2.2.1
theorem pr_rm {P h nw nb nr tp : Nat} {I J : Nat → Nat → Int32} (hh : PR P h nw nb nr tp I J) : ∀ i, i < nr → ∃ a, 1 ≤ a ∧ a ≤ 30 ∧ J 112 (12 * h + i) = nI a := hh.2.2.2.2.2.2.2.2.2.2.2.2.2.2.2.2.2.2.2.2.2.2.2.2.2.2.2.2.2.2.1
theorem pr_lw {P h nw nb nr tp : Nat} {I J : Nat → Nat → Int32} (hh : PR P h nw nb nr tp I J) : ∀ k, k < 3 → LW P h I J k := hh.2.2.2.2.2.2.2.2.2.2.2.2.2.2.2.2.2.2.2.2.2.2.2.2.2.2.2.2.2.2.2
def SC (nw nb nr e tp tl : Nat) (mt : Nat → Nat → Prop) (fl : Prop) (G : Nat → Nat → Int32) (xw : Int32) (X : Nat → Nat → Int32) (nu : Int64) (Y : Nat → Nat → Int32) : Prop := (X 0 0 = Y 0 0) ∧ (∃ a, tl ≤ a ∧ a ≤ 99999 ∧ X 0 1 = nI a ∧ Y 2 0 = nI a) ∧ (∃ a, a < tp ∧ Y 3 0 = nI a ∧ X 0 2 = (if a = 0 then -2 else nI a)) ∧ (∃ a, a < 2 ^ 31 ∧ Y 1 0 = nI a ∧ nu = lN a) ∧ (X 0 4 = nI nw) ∧ (∀ i, i < nw → X 1 i = Y 5 i) ∧ (∀ i, i < nw → ∃ a, a ≤ tp ∧ X 2 i = nI a ∧ Y 6 i = nI a) ∧ (∀ i, i < nw → X 3 i = Y 7 i) ∧ (∀ i, i < nw → X 4 i = (if nI i = G 99 51 then G 99 52 else G 108 i)) ∧ (∀ i, i < nw → Y 5 i = 2 → ∃ a, 1 ≤ a ∧ a ≤ 30 ∧ X 5 i = nI a ∧ Y 9 i = nI a) ∧ (fl → ∀ i, i < nw → X 5 i = Y 9 i ∧ (Y 5 i ≠ 2 → Y 9 i = 0)) ∧ (∀ i, i < nw → X 6 i = Y 10 i) ∧ (∀ i, i < nw → ∀ j, j < 32 → mt i j → bt (X 7 i) j = bt (Y 11 i) j) ∧ (∀ b, b < nb → X 8 b = (if G 99 50 = 5 then 3 else G 104 b)) ∧ (∀ b, b < nb → ∃ a, a ≤ 9999 ∧ X 9 b = nI a ∧ Y 12 b = nI a) ∧ (∀ i, i < nw → Y 5 i = 2 → ∃ b, b < nb ∧ Y 8 i = nI b ∧ G 103 b = Y 6 i) ∧ (∀ i, i < nw → Y 5 i ≠ 2 → Y 8 i = -1) ∧ (e ≤ 1) ∧ (X 0 14 = nI (nr + e)) ∧ (∀ r, r < nr → X 10 r = G 110 r ∧ X 11 r = G 111 r ∧ X 12 r = G 112 r) ∧ (∀ r, r < nr → X 13 r = (if G 99 50 = 4 then 1 else if bt (Y 4 0) r then 1 else 0)) ∧ (∀ r, nr ≤ r → r < 32 → bt (Y 4 0) r = false) ∧ (e = 0 → xw = -1) ∧ (e = 1 → (X 13 nr = 0 ∧ xw = X 10 nr ∧ G 99 54 = X 11 nr ∧ G 99 55 = X 12 nr ∧ ∃ a, 1 ≤ a ∧ a ≤ 30 ∧ X 12 nr = nI a) ∨ (X 13 nr = 1 ∧ xw = -1))
theorem sc_mi {nw nb nr e tp tl : Nat} {mt : Nat → Nat → Prop} {fl : Prop} {G : Nat → Nat → Int32} {xw : Int32} {X : Nat → Nat → Int32} {nu : Int64} {Y : Nat → Nat → Int32} (hh : SC nw nb nr e tp tl mt fl G xw X nu Y) : X 0 0 = Y 0 0 := hh.1
theorem sc_ta {nw nb nr e tp tl : Nat} {mt : Nat → Nat → Prop} {fl : Prop} {G : Nat → Nat → Int32} {xw : Int32} {X : Nat → Nat → Int32} {nu : Int64} {Y : Nat → Nat → Int32} (hh : SC nw nb nr e tp tl mt fl G xw X nu Y) : ∃ a, tl ≤ a ∧ a ≤ 99999 ∧ X 0 1 = nI a ∧ Y 2 0 = nI a := hh.2.1
theorem sc_pi {nw nb nr e tp tl : Nat} {mt : Nat → Nat → Prop} {fl : Prop} {G : Nat → Nat → Int32} {xw : Int32} {X : Nat → Nat → Int32} {nu : Int64} {Y : Nat → Nat → Int32} (hh : SC nw nb nr e tp tl mt fl G xw X nu Y) : ∃ a, a < tp ∧ Y 3 0 = nI a ∧ X 0 2 = (if a = 0 then -2 else nI a) := hh.2.2.1
theorem sc_nu {nw nb nr e tp tl : Nat} {mt : Nat → Nat → Prop} {fl : Prop} {G : Nat → Nat → Int32} {xw : Int32} {X : Nat → Nat → Int32} {nu : Int64} {Y : Nat → Nat → Int32} (hh : SC nw nb nr e tp tl mt fl G xw X nu Y) : ∃ a, a < 2 ^ 31 ∧ Y 1 0 = nI a ∧ nu = lN a := hh.2.2.2.1
theorem sc_cw {nw nb nr e tp tl : Nat} {mt : Nat → Nat → Prop} {fl : Prop} {G : Nat → Nat → Int32} {xw : Int32} {X : Nat → Nat → Int32} {nu : Int64} {Y : Nat → Nat → Int32} (hh : SC nw nb nr e tp tl mt fl G xw X nu Y) : X 0 4 = nI nw := hh.2.2.2.2.1
theorem sc_st {nw nb nr e tp tl : Nat} {mt : Nat → Nat → Prop} {fl : Prop} {G : Nat → Nat → Int32} {xw : Int32} {X : Nat → Nat → Int32} {nu : Int64} {Y : Nat → Nat → Int32} (hh : SC nw nb nr e tp tl mt fl G xw X nu Y) : ∀ i, i < nw → X 1 i = Y 5 i := hh.2.2.2.2.2.1
theorem sc_sp {nw nb nr e tp tl : Nat} {mt : Nat → Nat → Prop} {fl : Prop} {G : Nat → Nat → Int32} {xw : Int32} {X : Nat → Nat → Int32} {nu : Int64} {Y : Nat → Nat → Int32} (hh : SC nw nb nr e tp tl mt fl G xw X nu Y) : ∀ i, i < nw → ∃ a, a ≤ tp ∧ X 2 i = nI a ∧ Y 6 i = nI a := hh.2.2.2.2.2.2.1
theorem sc_dn {nw nb nr e tp tl : Nat} {mt : Nat → Nat → Prop} {fl : Prop} {G : Nat → Nat → Int32} {xw : Int32} {X : Nat → Nat → Int32} {nu : Int64} {Y : Nat → Nat → Int32} (hh : SC nw nb nr e tp tl mt fl G xw X nu Y) : ∀ i, i < nw → X 3 i = Y 7 i := hh.2.2.2.2.2.2.2.1
theorem sc_pa {nw nb nr e tp tl : Nat} {mt : Nat → Nat → Prop} {fl : Prop} {G : Nat → Nat → Int32} {xw : Int32} {X : Nat → Nat → Int32} {nu : Int64} {Y : Nat → Nat → Int32} (hh : SC nw nb nr e tp tl mt fl G xw X nu Y) : ∀ i, i < nw → X 4 i = (if nI i = G 99 51 then G 99 52 else G 108 i) := hh.2.2.2.2.2.2.2.2.1
theorem sc_lf {nw nb nr e tp tl : Nat} {mt : Nat → Nat → Prop} {fl : Prop} {G : Nat → Nat → Int32} {xw : Int32} {X : Nat → Nat → Int32} {nu : Int64} {Y : Nat → Nat → Int32} (hh : SC nw nb nr e tp tl mt fl G xw X nu Y) : ∀ i, i < nw → Y 5 i = 2 → ∃ a, 1 ≤ a ∧ a ≤ 30 ∧ X 5 i = nI a ∧ Y 9 i = nI a := hh.2.2.2.2.2.2.2.2.2.1
theorem sc_la {nw nb nr e tp tl : Nat} {mt : Nat → Nat → Prop} {fl : Prop} {G : Nat → Nat → Int32} {xw : Int32} {X : Nat → Nat → Int32} {nu : Int64} {Y : Nat → Nat → Int32} (hh : SC nw nb nr e tp tl mt fl G xw X nu Y) : fl → ∀ i, i < nw → X 5 i = Y 9 i ∧ (Y 5 i ≠ 2 → Y 9 i = 0) := hh.2.2.2.2.2.2.2.2.2.2.1
theorem sc_sa {nw nb nr e tp tl : Nat} {mt : Nat → Nat → Prop} {fl : Prop} {G : Nat → Nat → Int32} {xw : Int32} {X : Nat → Nat → Int32} {nu : Int64} {Y : Nat → Nat → Int32} (hh : SC nw nb nr e tp tl mt fl G xw X nu Y) : ∀ i, i < nw → X 6 i = Y 10 i := hh.2.2.2.2.2.2.2.2.2.2.2.1
theorem sc_me {nw nb nr e tp tl : Nat} {mt : Nat → Nat → Prop} {fl : Prop} {G : Nat → Nat → Int32} {xw : Int32} {X : Nat → Nat → Int32} {nu : Int64} {Y : Nat → Nat → Int32} (hh : SC nw nb nr e tp tl mt fl G xw X nu Y) : ∀ i, i < nw → ∀ j, j < 32 → mt i j → bt (X 7 i) j = bt (Y 11 i) j := hh.2.2.2.2.2.2.2.2.2.2.2.2.1
theorem sc_se {nw nb nr e tp tl : Nat} {mt : Nat → Nat → Prop} {fl : Prop} {G : Nat → Nat → Int32} {xw : Int32} {X : Nat → Nat → Int32} {nu : Int64} {Y : Nat → Nat → Int32} (hh : SC nw nb nr e tp tl mt fl G xw X nu Y) : ∀ b, b < nb → X 8 b = (if G 99 50 = 5 then 3 else G 104 b) := hh.2.2.2.2.2.2.2.2.2.2.2.2.2.1
theorem sc_wo {nw nb nr e tp tl : Nat} {mt : Nat → Nat → Prop} {fl : Prop} {G : Nat → Nat → Int32} {xw : Int32} {X : Nat → Nat → Int32} {nu : Int64} {Y : Nat → Nat → Int32} (hh : SC nw nb nr e tp tl mt fl G xw X nu Y) : ∀ b, b < nb → ∃ a, a ≤ 9999 ∧ X 9 b = nI a ∧ Y 12 b = nI a := hh.2.2.2.2.2.2.2.2.2.2.2.2.2.2.1
theorem sc_so {nw nb nr e tp tl : Nat} {mt : Nat → Nat → Prop} {fl : Prop} {G : Nat → Nat → Int32} {xw : Int32} {X : Nat → Nat → Int32} {nu : Int64} {Y : Nat → Nat → Int32} (hh : SC nw nb nr e tp tl mt fl G xw X nu Y) : ∀ i, i < nw → Y 5 i = 2 → ∃ b, b < nb ∧ Y 8 i = nI b ∧ G 103 b = Y 6 i := hh.2.2.2.2.2.2.2.2.2.2.2.2.2.2.2.1
theorem sc_sn {nw nb nr e tp tl : Nat} {mt : Nat → Nat → Prop} {fl : Prop} {G : Nat → Nat → Int32} {xw : Int32} {X : Nat → Nat → Int32} {nu : Int64} {Y : Nat → Nat → Int32} (hh : SC nw nb nr e tp tl mt fl G xw X nu Y) : ∀ i, i < nw → Y 5 i ≠ 2 → Y 8 i = -1 := hh.2.2.2.2.2.2.2.2.2.2.2.2.2.2.2.2.1
theorem sc_e1 {nw nb nr e tp tl : Nat} {mt : Nat → Nat → Prop} {fl : Prop} {G : Nat → Nat → Int32} {xw : Int32} {X : Nat → Nat → Int32} {nu : Int64} {Y : Nat → Nat → Int32} (hh : SC nw nb nr e tp tl mt fl G xw X nu Y) : e ≤ 1 := hh.2.2.2.2.2.2.2.2.2.2.2.2.2.2.2.2.2.1
theorem sc_rc {nw nb nr e tp tl : Nat} {mt : Nat → Nat → Prop} {fl : Prop} {G : Nat → Nat → Int32} {xw : Int32} {X : Nat → Nat → Int32} {nu : Int64} {Y : Nat → Nat → Int32} (hh : SC nw nb nr e tp tl mt fl G xw X nu Y) : X 0 14 = nI (nr + e) := hh.2.2.2.2.2.2.2.2.2.2.2.2.2.2.2.2.2.2.1
theorem sc_rr {nw nb nr e tp tl : Nat} {mt : Nat → Nat → Prop} {fl : Prop} {G : Nat → Nat → Int32} {xw : Int32} {X : Nat → Nat → Int32} {nu : Int64} {Y : Nat → Nat → Int32} (hh : SC nw nb nr e tp tl mt fl G xw X nu Y) : ∀ r, r < nr → X 10 r = G 110 r ∧ X 11 r = G 111 r ∧ X 12 r = G 112 r := hh.2.2.2.2.2.2.2.2.2.2.2.2.2.2.2.2.2.2.2.1
theorem sc_rt {nw nb nr e tp tl : Nat} {mt : Nat → Nat → Prop} {fl : Prop} {G : Nat → Nat → Int32} {xw : Int32} {X : Nat → Nat → Int32} {nu : Int64} {Y : Nat → Nat → Int32} (hh : SC nw nb nr e tp tl mt fl G xw X nu Y) : ∀ r, r < nr → X 13 r = (if G 99 50 = 4 then 1 else if bt (Y 4 0) r then 1 else 0) := hh.2.2.2.2.2.2.2.2.2.2.2.2.2.2.2.2.2.2.2.2.1
theorem sc_rz {nw nb nr e tp tl : Nat} {mt : Nat → Nat → Prop} {fl : Prop} {G : Nat → Nat → Int32} {xw : Int32} {X : Nat → Nat → Int32} {nu : Int64} {Y : Nat → Nat → Int32} (hh : SC nw nb nr e tp tl mt fl G xw X nu Y) : ∀ r, nr ≤ r → r < 32 → bt (Y 4 0) r = false := hh.2.2.2.2.2.2.2.2.2.2.2.2.2.2.2.2.2.2.2.2.2.1
theorem sc_x0 {nw nb nr e tp tl : Nat} {mt : Nat → Nat → Prop} {fl : Prop} {G : Nat → Nat → Int32} {xw : Int32} {X : Nat → Nat → Int32} {nu : Int64} {Y : Nat → Nat → Int32} (hh : SC nw nb nr e tp tl mt fl G xw X nu Y) : e = 0 → xw = -1 := hh.2.2.2.2.2.2.2.2.2.2.2.2.2.2.2.2.2.2.2.2.2.2.1
theorem sc_x1 {nw nb nr e tp tl : Nat} {mt : Nat → Nat → Prop} {fl : Prop} {G : Nat → Nat → Int32} {xw : Int32} {X : Nat → Nat → Int32} {nu : Int64} {Y : Nat → Nat → Int32} (hh : SC nw nb nr e tp tl mt fl G xw X nu Y) : e = 1 → (X 13 nr = 0 ∧ xw = X 10 nr ∧ G 99 54 = X 11 nr ∧ G 99 55 = X 12 nr ∧ ∃ a, 1 ≤ a ∧ a ≤ 30 ∧ X 12 nr = nI a) ∨ (X 13 nr = 1 ∧ xw = -1) := hh.2.2.2.2.2.2.2.2.2.2.2.2.2.2.2.2.2.2.2.2.2.2.2
def WF (P q s nw nb nr tp : Nat) (c0 m0 c m : xD) : Prop := (RefOK c0 P) ∧ (RefOK m0 P) ∧ (isSc q) ∧ (s < 23) ∧ (PR P 0 nw nb nr tp c0.1 m0.1) ∧ (c.2.2 = c0.2.2) ∧ (m.2.2 = m0.2.2) ∧ (∀ k, (k < q ∨ q + 14 ≤ k) → c.1 k = c0.1 k) ∧ (∀ k, k ≠ 0 → k ≠ 1 → k ≠ 2 → k ≠ 4 → k ≠ 14 → c.1 q k = c0.1 q k) ∧ (∀ k, (k < 119 ∨ 132 ≤ k) → k ≠ 99 → m.1 k = m0.1 k) ∧ (∀ k, k ≠ 34 → k ≠ 53 → m.1 99 k = m0.1 99 k) ∧ (∀ k i, 119 ≤ k → k < 124 → i ≠ s → m.1 k i = m0.1 k i) ∧ (∀ k i, 124 ≤ k → k < 131 → (i < 6 * s ∨ 6 * s + 6 ≤ i) → m.1 k i = m0.1 k i) ∧ (∀ i, (i < 8 * s ∨ 8 * s + 8 ≤ i) → m.1 131 i = m0.1 131 i) ∧ (∀ k, k ≠ q → k ≠ 88 → k ≠ P + 18 → c.2.1 k = c0.2.1 k) ∧ (∀ k, k ≠ 117 → k ≠ 118 → m.2.1 k = m0.2.1 k)
theorem wf_rc0 {P q s nw nb nr tp : Nat} {c0 m0 c m : xD} (hh : WF P q s nw nb nr tp c0 m0 c m) : RefOK c0 P := hh.1
theorem wf_rm0 {P q s nw nb nr tp : Nat} {c0 m0 c m : xD} (hh : WF P q s nw nb nr tp c0 m0 c m) : RefOK m0 P := hh.2.1
theorem wf_sq {P q s nw nb nr tp : Nat} {c0 m0 c m : xD} (hh : WF P q s nw nb nr tp c0 m0 c m) : isSc q := hh.2.2.1
theorem wf_s23 {P q s nw nb nr tp : Nat} {c0 m0 c m : xD} (hh : WF P q s nw nb nr tp c0 m0 c m) : s < 23 := hh.2.2.2.1
theorem wf_pr {P q s nw nb nr tp : Nat} {c0 m0 c m : xD} (hh : WF P q s nw nb nr tp c0 m0 c m) : PR P 0 nw nb nr tp c0.1 m0.1 := hh.2.2.2.2.1
theorem wf_ec {P q s nw nb nr tp : Nat} {c0 m0 c m : xD} (hh : WF P q s nw nb nr tp c0 m0 c m) : c.2.2 = c0.2.2 := hh.2.2.2.2.2.1
theorem wf_em {P q s nw nb nr tp : Nat} {c0 m0 c m : xD} (hh : WF P q s nw nb nr tp c0 m0 c m) : m.2.2 = m0.2.2 := hh.2.2.2.2.2.2.1
theorem wf_oc {P q s nw nb nr tp : Nat} {c0 m0 c m : xD} (hh : WF P q s nw nb nr tp c0 m0 c m) : ∀ k, (k < q ∨ q + 14 ≤ k) → c.1 k = c0.1 k := hh.2.2.2.2.2.2.2.1
theorem wf_oq {P q s nw nb nr tp : Nat} {c0 m0 c m : xD} (hh : WF P q s nw nb nr tp c0 m0 c m) : ∀ k, k ≠ 0 → k ≠ 1 → k ≠ 2 → k ≠ 4 → k ≠ 14 → c.1 q k = c0.1 q k := hh.2.2.2.2.2.2.2.2.1
theorem wf_om {P q s nw nb nr tp : Nat} {c0 m0 c m : xD} (hh : WF P q s nw nb nr tp c0 m0 c m) : ∀ k, (k < 119 ∨ 132 ≤ k) → k ≠ 99 → m.1 k = m0.1 k := hh.2.2.2.2.2.2.2.2.2.1
theorem wf_o9 {P q s nw nb nr tp : Nat} {c0 m0 c m : xD} (hh : WF P q s nw nb nr tp c0 m0 c m) : ∀ k, k ≠ 34 → k ≠ 53 → m.1 99 k = m0.1 99 k := hh.2.2.2.2.2.2.2.2.2.2.1
theorem wf_o1 {P q s nw nb nr tp : Nat} {c0 m0 c m : xD} (hh : WF P q s nw nb nr tp c0 m0 c m) : ∀ k i, 119 ≤ k → k < 124 → i ≠ s → m.1 k i = m0.1 k i := hh.2.2.2.2.2.2.2.2.2.2.2.1
theorem wf_o2 {P q s nw nb nr tp : Nat} {c0 m0 c m : xD} (hh : WF P q s nw nb nr tp c0 m0 c m) : ∀ k i, 124 ≤ k → k < 131 → (i < 6 * s ∨ 6 * s + 6 ≤ i) → m.1 k i = m0.1 k i := hh.2.2.2.2.2.2.2.2.2.2.2.2.1
theorem wf_o3 {P q s nw nb nr tp : Nat} {c0 m0 c m : xD} (hh : WF P q s nw nb nr tp c0 m0 c m) : ∀ i, (i < 8 * s ∨ 8 * s + 8 ≤ i) → m.1 131 i = m0.1 131 i := hh.2.2.2.2.2.2.2.2.2.2.2.2.2.1
theorem wf_lc {P q s nw nb nr tp : Nat} {c0 m0 c m : xD} (hh : WF P q s nw nb nr tp c0 m0 c m) : ∀ k, k ≠ q → k ≠ 88 → k ≠ P + 18 → c.2.1 k = c0.2.1 k := hh.2.2.2.2.2.2.2.2.2.2.2.2.2.2.1
theorem wf_lm {P q s nw nb nr tp : Nat} {c0 m0 c m : xD} (hh : WF P q s nw nb nr tp c0 m0 c m) : ∀ k, k ≠ 117 → k ≠ 118 → m.2.1 k = m0.2.1 k := hh.2.2.2.2.2.2.2.2.2.2.2.2.2.2.2
theorem wf_rc {P q s nw nb nr tp : Nat} {c0 m0 c m : xD} (h : WF P q s nw nb nr tp c0 m0 c m) : RefOK c P := (wf_rc0 h).same (wf_ec h)
theorem wf_rm {P q s nw nb nr tp : Nat} {c0 m0 c m : xD} (h : WF P q s nw nb nr tp c0 m0 c m) : RefOK m P := (wf_rm0 h).same (wf_em h)
theorem isSc_ge {q : Nat} (h : isSc q) : 45 ≤ q ∧ q ≤ 73 := by unfold isSc at h; omega
theorem isPl_le {P : Nat} (h : isPl P) : 2 ≤ P ∧ P ≤ 21 := by unfold isPl at h; omega
/-- a write into the scene -/
theorem wf_c {P q s nw nb nr tp : Nat} {c0 m0 c m : xD} (h : WF P q s nw nb nr tp c0 m0 c m) {j k : Nat} {v : Int32} (hj : 1 ≤ j) (hj2 : j < 14) : WF P q s nw nb nr tp c0 m0 (xu c.1 (q + j) k v, c.2.1, c.2.2) m := by
  obtain ⟨z_rc0, z_rm0, z_sq, z_s23, z_pr, z_ec, z_em, z_oc, z_oq, z_om, z_o9, z_o1, z_o2, z_o3, z_lc, z_lm⟩ := id h
  refine ⟨z_rc0, z_rm0, z_sq, z_s23, z_pr, z_ec, z_em, ?_, ?_, z_om, z_o9, z_o1, z_o2, z_o3, z_lc, z_lm⟩
  · intro a ha; show xu c.1 (q + j) k v a = _; rw [xu_off (by omega)]; exact wf_oc h a ha
  · intro a h1 h2 h3 h4 h5; show xu c.1 (q + j) k v q a = _; rw [xu_off (by omega)]; exact wf_oq h a h1 h2 h3 h4 h5
theorem wf_c0 {P q s nw nb nr tp : Nat} {c0 m0 c m : xD} (h : WF P q s nw nb nr tp c0 m0 c m) {k : Nat} {v : Int32} (hk : k = 0 ∨ k = 1 ∨ k = 2 ∨ k = 4 ∨ k = 14) : WF P q s nw nb nr tp c0 m0 (xu c.1 q k v, c.2.1, c.2.2) m := by
  obtain ⟨z_rc0, z_rm0, z_sq, z_s23, z_pr, z_ec, z_em, z_oc, z_oq, z_om, z_o9, z_o1, z_o2, z_o3, z_lc, z_lm⟩ := id h
  refine ⟨z_rc0, z_rm0, z_sq, z_s23, z_pr, z_ec, z_em, ?_, ?_, z_om, z_o9, z_o1, z_o2, z_o3, z_lc, z_lm⟩
  · intro a ha; show xu c.1 q k v a = _; rw [xu_off (by omega)]; exact wf_oc h a ha
  · intro a h1 h2 h3 h4 h5; show xu c.1 q k v q a = _; unfold xu; rw [if_pos rfl, if_neg (by omega)]; exact wf_oq h a h1 h2 h3 h4 h5
theorem wf_cL {P q s nw nb nr tp : Nat} {c0 m0 c m : xD} (h : WF P q s nw nb nr tp c0 m0 c m) {L : Nat → Nat → Int64} (hL : ∀ k, k ≠ q → k ≠ 88 → k ≠ P + 18 → L k = c.2.1 k) : WF P q s nw nb nr tp c0 m0 (c.1, L, c.2.2) m := by
  obtain ⟨z_rc0, z_rm0, z_sq, z_s23, z_pr, z_ec, z_em, z_oc, z_oq, z_om, z_o9, z_o1, z_o2, z_o3, z_lc, z_lm⟩ := id h
  exact ⟨z_rc0, z_rm0, z_sq, z_s23, z_pr, z_ec, z_em, z_oc, z_oq, z_om, z_o9, z_o1, z_o2, z_o3, fun k h1 h2 h3 => (hL k h1 h2 h3).trans (wf_lc h k h1 h2 h3), z_lm⟩
/-- writes into the slot -/
theorem wf_m1 {P q s nw nb nr tp : Nat} {c0 m0 c m : xD} (h : WF P q s nw nb nr tp c0 m0 c m) {k : Nat} {v : Int32} (hk : 119 ≤ k) (hk2 : k < 124) : WF P q s nw nb nr tp c0 m0 c (xu m.1 k s v, m.2.1, m.2.2) := by
  obtain ⟨z_rc0, z_rm0, z_sq, z_s23, z_pr, z_ec, z_em, z_oc, z_oq, z_om, z_o9, z_o1, z_o2, z_o3, z_lc, z_lm⟩ := id h
  refine ⟨z_rc0, z_rm0, z_sq, z_s23, z_pr, z_ec, z_em, z_oc, z_oq, ?_, ?_, ?_, ?_, ?_, z_lc, z_lm⟩
  · intro a ha hb; show xu m.1 k s v a = _; rw [xu_off (by omega)]; exact wf_om h a ha hb
  · intro a ha hb; show xu m.1 k s v 99 a = _; rw [xu_off (by omega)]; exact wf_o9 h a ha hb
  · intro a i h1 h2 h3; show xu m.1 k s v a i = _; unfold xu
    by_cases e : a = k
    · rw [if_pos e, if_neg h3]; exact wf_o1 h a i h1 h2 h3
    · rw [if_neg e]; exact wf_o1 h a i h1 h2 h3
  · intro a i h1 h2 h3; show xu m.1 k s v a i = _; rw [xu_off (by omega)]; exact wf_o2 h a i h1 h2 h3
  · intro i h3; show xu m.1 k s v 131 i = _; rw [xu_off (by omega)]; exact wf_o3 h i h3
theorem wf_m2 {P q s nw nb nr tp : Nat} {c0 m0 c m : xD} (h : WF P q s nw nb nr tp c0 m0 c m) {k p : Nat} {v : Int32} (hk : 124 ≤ k) (hk2 : k < 131) (hp : p < 6) : WF P q s nw nb nr tp c0 m0 c (xu m.1 k (6 * s + p) v, m.2.1, m.2.2) := by
  obtain ⟨z_rc0, z_rm0, z_sq, z_s23, z_pr, z_ec, z_em, z_oc, z_oq, z_om, z_o9, z_o1, z_o2, z_o3, z_lc, z_lm⟩ := id h
  refine ⟨z_rc0, z_rm0, z_sq, z_s23, z_pr, z_ec, z_em, z_oc, z_oq, ?_, ?_, ?_, ?_, ?_, z_lc, z_lm⟩
  · intro a ha hb; show xu m.1 k (6 * s + p) v a = _; rw [xu_off (by omega)]; exact wf_om h a ha hb
  · intro a ha hb; show xu m.1 k (6 * s + p) v 99 a = _; rw [xu_off (by omega)]; exact wf_o9 h a ha hb
  · intro a i h1 h2 h3; show xu m.1 k (6 * s + p) v a i = _; rw [xu_off (by omega)]; exact wf_o1 h a i h1 h2 h3
  · intro a i h1 h2 h3; show xu m.1 k (6 * s + p) v a i = _; unfold xu
    by_cases e : a = k
    · rw [if_pos e, if_neg (by omega)]; exact wf_o2 h a i h1 h2 h3
    · rw [if_neg e]; exact wf_o2 h a i h1 h2 h3
  · intro i h3; show xu m.1 k (6 * s + p) v 131 i = _; rw [xu_off (by omega)]; exact wf_o3 h i h3
theorem wf_m3 {P q s nw nb nr tp : Nat} {c0 m0 c m : xD} (h : WF P q s nw nb nr tp c0 m0 c m) {b : Nat} {v : Int32} (hb8 : b < 8) : WF P q s nw nb nr tp c0 m0 c (xu m.1 131 (8 * s + b) v, m.2.1, m.2.2) := by
  obtain ⟨z_rc0, z_rm0, z_sq, z_s23, z_pr, z_ec, z_em, z_oc, z_oq, z_om, z_o9, z_o1, z_o2, z_o3, z_lc, z_lm⟩ := id h
  refine ⟨z_rc0, z_rm0, z_sq, z_s23, z_pr, z_ec, z_em, z_oc, z_oq, ?_, ?_, ?_, ?_, ?_, z_lc, z_lm⟩
  · intro a ha hb; show xu m.1 131 (8 * s + b) v a = _; rw [xu_off (by omega)]; exact wf_om h a ha hb
  · intro a ha hb; show xu m.1 131 (8 * s + b) v 99 a = _; rw [xu_off (by omega)]; exact wf_o9 h a ha hb
  · intro a i h1 h2 h3; show xu m.1 131 (8 * s + b) v a i = _; rw [xu_off (by omega)]; exact wf_o1 h a i h1 h2 h3
  · intro a i h1 h2 h3; show xu m.1 131 (8 * s + b) v a i = _; rw [xu_off (by omega)]; exact wf_o2 h a i h1 h2 h3
  · intro i h3; show xu m.1 131 (8 * s + b) v 131 i = _; unfold xu; rw [if_pos rfl, if_neg (by omega)]; exact wf_o3 h i h3
theorem wf_m9 {P q s nw nb nr tp : Nat} {c0 m0 c m : xD} (h : WF P q s nw nb nr tp c0 m0 c m) {k : Nat} {v : Int32} (hk : k = 34 ∨ k = 53) : WF P q s nw nb nr tp c0 m0 c (xu m.1 99 k v, m.2.1, m.2.2) := by
  obtain ⟨z_rc0, z_rm0, z_sq, z_s23, z_pr, z_ec, z_em, z_oc, z_oq, z_om, z_o9, z_o1, z_o2, z_o3, z_lc, z_lm⟩ := id h
  refine ⟨z_rc0, z_rm0, z_sq, z_s23, z_pr, z_ec, z_em, z_oc, z_oq, ?_, ?_, ?_, ?_, ?_, z_lc, z_lm⟩
  · intro a ha hb; show xu m.1 99 k v a = _; rw [xu_off (by omega)]; exact wf_om h a ha hb
  · intro a ha hb; show xu m.1 99 k v 99 a = _; unfold xu; rw [if_pos rfl, if_neg (by omega)]; exact wf_o9 h a ha hb
  · intro a i h1 h2 h3; show xu m.1 99 k v a i = _; rw [xu_off (by omega)]; exact wf_o1 h a i h1 h2 h3
  · intro a i h1 h2 h3; show xu m.1 99 k v a i = _; rw [xu_off (by omega)]; exact wf_o2 h a i h1 h2 h3
  · intro i h3; show xu m.1 99 k v 131 i = _; rw [xu_off (by omega)]; exact wf_o3 h i h3
theorem wf_mL {P q s nw nb nr tp : Nat} {c0 m0 c m : xD} (h : WF P q s nw nb nr tp c0 m0 c m) {L : Nat → Nat → Int64} (hL : ∀ k, k ≠ 117 → k ≠ 118 → L k = m.2.1 k) : WF P q s nw nb nr tp c0 m0 c (m.1, L, m.2.2) := by
  obtain ⟨z_rc0, z_rm0, z_sq, z_s23, z_pr, z_ec, z_em, z_oc, z_oq, z_om, z_o9, z_o1, z_o2, z_o3, z_lc, z_lm⟩ := id h
  exact ⟨z_rc0, z_rm0, z_sq, z_s23, z_pr, z_ec, z_em, z_oc, z_oq, z_om, z_o9, z_o1, z_o2, z_o3, z_lc, fun k h1 h2 => (hL k h1 h2).trans (wf_lm h k h1 h2)⟩

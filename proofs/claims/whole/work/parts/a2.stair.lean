/-! LEVEL 2: text. Lines: the stair; the piano, calls and the seed -/
def LN (D n : Nat) (B : Nat → Nat) (li nw nb nr tp p a t : Nat) (I J : Nat → Nat → Int32) : Prop := (TK n B p a t I J) ∧ (PR D 1 nw nb nr tp I J) ∧ (J 99 26 = 0) ∧ (J 99 27 = -1) ∧ (I 40 3 = 0) ∧ (I 40 4 = -1) ∧ (J 99 20 = nI li) ∧ (J 99 30 = 0) ∧ (J 99 31 = I (D + 13) 0) ∧ (∀ w, 4 ≤ w → w ≤ 6 → bt (I 42 3) w = bt (J 99 19) w) ∧ (∀ k, k < 3 → bt (I 42 3) (8 + k) = bt (J 99 19) (16 + k) ∧ bt (I (D + 13) 4) k = bt (I 42 3) (8 + k)) ∧ (∀ k, k < 3 → bt (I (D + 13) 4) k = true → ∃ b z, I (D + 13) 1 = nI z ∧ b ≤ z ∧ z ≤ 64 ∧ J 114 (3 + k) = nI b)
theorem ln_tk {D n : Nat} {B : Nat → Nat} {li nw nb nr tp p a t : Nat} {I J : Nat → Nat → Int32} (hh : LN D n B li nw nb nr tp p a t I J) : TK n B p a t I J := hh.1
theorem ln_pr {D n : Nat} {B : Nat → Nat} {li nw nb nr tp p a t : Nat} {I J : Nat → Nat → Int32} (hh : LN D n B li nw nb nr tp p a t I J) : PR D 1 nw nb nr tp I J := hh.2.1
theorem ln_f0 {D n : Nat} {B : Nat → Nat} {li nw nb nr tp p a t : Nat} {I J : Nat → Nat → Int32} (hh : LN D n B li nw nb nr tp p a t I J) : J 99 26 = 0 := hh.2.2.1
theorem ln_f1 {D n : Nat} {B : Nat → Nat} {li nw nb nr tp p a t : Nat} {I J : Nat → Nat → Int32} (hh : LN D n B li nw nb nr tp p a t I J) : J 99 27 = -1 := hh.2.2.2.1
theorem ln_g0 {D n : Nat} {B : Nat → Nat} {li nw nb nr tp p a t : Nat} {I J : Nat → Nat → Int32} (hh : LN D n B li nw nb nr tp p a t I J) : I 40 3 = 0 := hh.2.2.2.2.1
theorem ln_g1 {D n : Nat} {B : Nat → Nat} {li nw nb nr tp p a t : Nat} {I J : Nat → Nat → Int32} (hh : LN D n B li nw nb nr tp p a t I J) : I 40 4 = -1 := hh.2.2.2.2.2.1
theorem ln_li {D n : Nat} {B : Nat → Nat} {li nw nb nr tp p a t : Nat} {I J : Nat → Nat → Int32} (hh : LN D n B li nw nb nr tp p a t I J) : J 99 20 = nI li := hh.2.2.2.2.2.2.1
theorem ln_op {D n : Nat} {B : Nat → Nat} {li nw nb nr tp p a t : Nat} {I J : Nat → Nat → Int32} (hh : LN D n B li nw nb nr tp p a t I J) : J 99 30 = 0 := hh.2.2.2.2.2.2.2.1
theorem ln_mk {D n : Nat} {B : Nat → Nat} {li nw nb nr tp p a t : Nat} {I J : Nat → Nat → Int32} (hh : LN D n B li nw nb nr tp p a t I J) : J 99 31 = I (D + 13) 0 := hh.2.2.2.2.2.2.2.2.1
theorem ln_tn {D n : Nat} {B : Nat → Nat} {li nw nb nr tp p a t : Nat} {I J : Nat → Nat → Int32} (hh : LN D n B li nw nb nr tp p a t I J) : ∀ w, 4 ≤ w → w ≤ 6 → bt (I 42 3) w = bt (J 99 19) w := hh.2.2.2.2.2.2.2.2.2.1
theorem ln_tl {D n : Nat} {B : Nat → Nat} {li nw nb nr tp p a t : Nat} {I J : Nat → Nat → Int32} (hh : LN D n B li nw nb nr tp p a t I J) : ∀ k, k < 3 → bt (I 42 3) (8 + k) = bt (J 99 19) (16 + k) ∧ bt (I (D + 13) 4) k = bt (I 42 3) (8 + k) := hh.2.2.2.2.2.2.2.2.2.2.1
theorem ln_tb {D n : Nat} {B : Nat → Nat} {li nw nb nr tp p a t : Nat} {I J : Nat → Nat → Int32} (hh : LN D n B li nw nb nr tp p a t I J) : ∀ k, k < 3 → bt (I (D + 13) 4) k = true → ∃ b z, I (D + 13) 1 = nI z ∧ b ≤ z ∧ z ≤ 64 ∧ J 114 (3 + k) = nI b := hh.2.2.2.2.2.2.2.2.2.2.2
def RES (L : Nat → Nat → Int64) (R : Nat → Nat → Option Nat) (L' : Nat → Nat → Int64) (R' : Nat → Nat → Option Nat) (n : Nat) (B : Nat → Nat) (D li p : Nat) (I J : Nat → Nat → Int32) (X : Option (Int32 × xD)) (Y : Option xD) : Prop := (∃ I' J', X = some (0, (I', L, R)) ∧ Y = some (J', L', R') ∧ FT I' J' ∧ FRC D I I' ∧ FRM J J') ∨ (∃ nw nb nr tp p' a' t' I' J', X = some (1, (I', L, R)) ∧ Y = k_X10_line_521 shA 99 (J', L', R') ∧ LN D n B li nw nb nr tp p' a' t' I' J' ∧ p < p' ∧ FRC D I I' ∧ FRM J J')
theorem frm_101 {k : Nat} {v : Int32} {J : Nat → Nat → Int32} (h : 8 ≤ k) : FRM J (xu J 101 k v) := frm_xu (by omega) (by omega) (Nat.le_trans (by decide : hfR 101 ≤ 8) h)
theorem h521F {L' : Nat → Nat → Int64} {R' : Nat → Nat → Option Nat} {J : Nat → Nat → Int32} (hJ : J 99 26 ≠ 0) : k_X10_line_521 shA 99 (J, L', R') = some (J, L', R') := by
  unfold k_X10_line_521
  simp only [gI_of sA_99, Option.bind_some, if_neg hJ]
theorem h85F {L' : Nat → Nat → Int64} {R' : Nat → Nat → Option Nat} {J : Nat → Nat → Int32} (hJ : J 99 26 ≠ 0) (x : Int32) : k_X10_line_85 shA 99 x (J, L', R') = some (J, L', R') := by
  unfold k_X10_line_85
  simp only [gI_of sA_99, Option.bind_some, if_neg hJ]
theorem ft_xu {I J : Nat → Nat → Int32} {q k : Nat} {v : Int32} (hq : q ≠ 99) (h : FT I J) : FT I (xu J q k v) := by
  unfold FT at h ⊢
  rw [xu_cell (by omega), xu_cell (by omega)]; exact h
theorem told_or {x y : Int32} {w : Nat} (hw : w < 4 ∨ w = 7) (h : ∀ w, 4 ≤ w → w ≤ 6 → bt x w = bt y w) : ∀ w', 4 ≤ w' → w' ≤ 6 → bt x w' = bt (y ||| ((1 : Int32) <<< (nI w &&& 31))) w' := fun w' h1 h2 => by
  rw [b_or1 y (by omega) (by omega), decide_eq_false (by omega), Bool.or_false]; exact h w' h1 h2
theorem told_or2 {y : Int32} {w k : Nat} (hw : w < 8) (hk : k < 3) : bt (y ||| ((1 : Int32) <<< (nI w &&& 31))) (16 + k) = bt y (16 + k) := by
  rw [b_or1 y (by omega) (by omega), decide_eq_false (by omega), Bool.or_false]
theorem sN_8 {d : xD} {i : Nat} {v : Int32} (hi : i < 8) : xsI .int shA d 101 ((8 : Int32) + nI i) v = some (xu d.1 101 (8 + i) v, d.2.1, d.2.2) := by
  rw [show (8 : Int32) + nI i = nI (8 + i) from nI_add 8 i]; exact sI_of sA_101 (by omega) (by decide)
theorem aN_8 {d : xD} {i : Nat} (hi : i < 8) : xaI .int shA d 101 ((8 : Int32) + nI i) = some (d.1 101 (8 + i)) := by
  rw [show (8 : Int32) + nI i = nI (8 + i) from nI_add 8 i]; exact aI_of sA_101 (by omega) (by decide)
theorem m_reads {P : Nat} {L' : Nat → Nat → Int64} {R' : Nat → Nat → Option Nat} (hR' : ∀ I, RefOK (I, L', R') P) {J : Nat → Nat → Int32} {i : Nat} (hi : i < 8) (v : Int32) : f_X10_reads shA 99 (nI i) v (J, L', R') = some (xu J 101 (8 + i) v, L', R') := by
  unfold f_X10_reads
  simp only [gR_of sA_99 (rf_99_3 (hR' _)), Option.bind_some, sN_8 hi]
theorem m_fresher {P : Nat} {L' : Nat → Nat → Int64} {R' : Nat → Nat → Option Nat} (hR' : ∀ I, RefOK (I, L', R') P) {J : Nat → Nat → Int32} {i : Nat} (hi : i < 8) : f_X10_fresher shA 99 (nI i) (J, L', R') = some (J 101 (8 + i), (J, L', R')) := by
  unfold f_X10_fresher
  simp only [gR_of sA_99 (rf_99_3 (hR' _)), Option.bind_some, aN_8 hi]
theorem pr_stair {D nw nb nr tp x : Nat} {I J I' J' : Nat → Nat → Int32} (h : PR D 1 nw nb nr tp I J) (h0 : nw = 0 ∧ nb = 0 ∧ nr = 0 ∧ J 101 12 = 0) (hx : 2 ≤ x) (hx2 : x ≤ 60) (e1 : I' D 0 = nI x) (e2 : J' 101 8 = nI x) (cD : ∀ k, k ≠ 0 → I' D k = I D k) (cR : ∀ j, 1 ≤ j → j < 18 → I' (D + j) = I (D + j)) (mN : ∀ k, k ≠ 8 → J' 101 k = J 101 k) (mR : ∀ q, 102 ≤ q → q ≤ 116 → J' q = J q) : PR D 1 nw nb nr x I' J' := by
  obtain ⟨z1, z2, z3, z4⟩ := h0
  refine ⟨pr_pl h, pr_w6 h, pr_b8 h, pr_r12 h, ?_, ?_, ?_, (by apply cD <;> omega : I' D 4 = I D 4).trans (pr_cB h), (by apply cD <;> omega : I' D 9 = I D 9).trans (pr_cW h), (by apply cD <;> omega : I' D 15 = I D 15).trans (pr_cR h), ?_, (by apply mN <;> omega : J' 101 9 = J 101 9).trans (pr_mB h), (by apply mN <;> omega : J' 101 10 = J 101 10).trans (pr_mW h), (by apply mN <;> omega : J' 101 11 = J 101 11).trans (pr_mR h), ?_, (by obtain ⟨x, x1, x2, x3⟩ := pr_ca h; exact ⟨x, x1, (by apply mN <;> omega : J' 101 13 = J 101 13).trans x2, (by apply cD <;> omega : I' D 2 = I D 2).trans x3⟩), (by obtain ⟨x, x1, x2, x3⟩ := pr_se h; exact ⟨x, x1, (by apply mN <;> omega : J' 101 14 = J 101 14).trans x2, (by apply cD <;> omega : I' D 3 = I D 3).trans x3⟩), (by obtain ⟨x, x1, x2, x3, x4⟩ := pr_kn h; have e13 := (by apply cR <;> omega : I' (D + 13) = I (D + 13)); exact ⟨x, x1, (by apply mN <;> omega : J' 101 15 = J 101 15).trans x2, by rw [e13]; exact x3, by rw [e13]; exact x4⟩), (by rw [(by apply cR <;> omega : I' (D + 1) = I (D + 1)), (by apply mR <;> omega : J' 102 = J 102)]; exact pr_bn h), (by rw [(by apply cR <;> omega : I' (D + 2) = I (D + 2)), (by apply mR <;> omega : J' 103 = J 103)]; exact pr_bs h), ?_, (by rw [(by apply mR <;> omega : J' 103 = J 103)]; exact pr_bd h), (by rw [(by apply cR <;> omega : I' (D + 3) = I (D + 3)), (by apply mR <;> omega : J' 104 = J 104)]; exact pr_bc h), (by rw [(by apply cR <;> omega : I' (D + 4) = I (D + 4)), (by apply mR <;> omega : J' 103 = J 103)]; exact pr_ba h), (by rw [(by apply cR <;> omega : I' (D + 5) = I (D + 5)), (by apply mR <;> omega : J' 105 = J 105)]; exact pr_wn h), ?_, (by rw [(by apply cR <;> omega : I' (D + 7) = I (D + 7)), (by apply mR <;> omega : J' 107 = J 107)]; exact pr_wd h), (by rw [(by apply cR <;> omega : I' (D + 8) = I (D + 8)), (by apply mR <;> omega : J' 108 = J 108)]; exact pr_wp h), (by rw [(by apply cR <;> omega : I' (D + 9) = I (D + 9)), (by apply mR <;> omega : J' 109 = J 109)]; exact pr_wm h), (by rw [(by apply cR <;> omega : I' (D + 10) = I (D + 10)), (by apply mR <;> omega : J' 110 = J 110), (by apply cR <;> omega : I' (D + 11) = I (D + 11)), (by apply mR <;> omega : J' 111 = J 111), (by apply cR <;> omega : I' (D + 12) = I (D + 12)), (by apply mR <;> omega : J' 112 = J 112)]; exact pr_rr h), (by rw [(by apply mR <;> omega : J' 112 = J 112)]; exact pr_rm h), (fun k hk => by rw [lw_congr2 (by rw [(by apply cR <;> omega : I' (D + 13) = I (D + 13))]) (by apply cR <;> omega : I' (D + 14) = I (D + 14)) (by apply cR <;> omega : I' (D + 15) = I (D + 15)) (by apply cR <;> omega : I' (D + 16) = I (D + 16)) (by apply cR <;> omega : I' (D + 17) = I (D + 17)) (by apply mR <;> omega : J' 113 = J 113) (by apply mR <;> omega : J' 114 = J 114) (by apply mR <;> omega : J' 115 = J 115) (by apply mR <;> omega : J' 116 = J 116)]; exact pr_lw h k hk)⟩
  · exact hx
  · exact hx2
  · exact e1
  · exact e2
  · obtain ⟨y, y1, y2, y3⟩ := pr_pi h
    have y2 : J 101 12 = nI y := y2
    obtain rfl : y = 0 := by
      rw [z4] at y2
      rcases Nat.eq_zero_or_pos y with q | q
      · exact q
      · exact absurd y2.symm (nI_ne0 q (by have := pr_t60 h; omega))
    exact ⟨0, by omega, (mN 12 (by omega)).trans y2, (cD 1 (by omega)).trans y3⟩
  · intro i hi; omega
  · intro i hi; omega
theorem pr_num {D nw nb nr tp x w hi : Nat} {I J I' J' : Nat → Nat → Int32} (h : PR D 1 nw nb nr tp I J) (hw : (w = 4 ∧ 1 ≤ x ∧ hi = tp - 1) ∨ (w = 5 ∧ hi = 100) ∨ (w = 6 ∧ hi = 99999)) (hx : x ≤ hi) (e1 : I' D (w - 3) = nI x) (e2 : J' 101 (8 + w) = nI x) (cD : ∀ k, k ≠ w - 3 → I' D k = I D k) (cR : ∀ j, 1 ≤ j → j < 18 → I' (D + j) = I (D + j)) (mN : ∀ k, k ≠ 8 + w → J' 101 k = J 101 k) (mR : ∀ q, 102 ≤ q → q ≤ 116 → J' q = J q) : PR D 1 nw nb nr tp I' J' := by
  have ht := pr_t2 h
  rcases hw with ⟨rfl, hx1, rfl⟩ | ⟨rfl, rfl⟩ | ⟨rfl, rfl⟩
  · refine ⟨pr_pl h, pr_w6 h, pr_b8 h, pr_r12 h, pr_t2 h, pr_t60 h, (by apply cD <;> omega : I' D 0 = I D 0).trans (pr_cT h), (by apply cD <;> omega : I' D 4 = I D 4).trans (pr_cB h), (by apply cD <;> omega : I' D 9 = I D 9).trans (pr_cW h), (by apply cD <;> omega : I' D 15 = I D 15).trans (pr_cR h), (by apply mN <;> omega : J' 101 8 = J 101 8).trans (pr_mT h), (by apply mN <;> omega : J' 101 9 = J 101 9).trans (pr_mB h), (by apply mN <;> omega : J' 101 10 = J 101 10).trans (pr_mW h), (by apply mN <;> omega : J' 101 11 = J 101 11).trans (pr_mR h), ?_, (by obtain ⟨x, x1, x2, x3⟩ := pr_ca h; exact ⟨x, x1, (by apply mN <;> omega : J' 101 13 = J 101 13).trans x2, (by apply cD <;> omega : I' D 2 = I D 2).trans x3⟩), (by obtain ⟨x, x1, x2, x3⟩ := pr_se h; exact ⟨x, x1, (by apply mN <;> omega : J' 101 14 = J 101 14).trans x2, (by apply cD <;> omega : I' D 3 = I D 3).trans x3⟩), (by obtain ⟨x, x1, x2, x3, x4⟩ := pr_kn h; have e13 := (by apply cR <;> omega : I' (D + 13) = I (D + 13)); exact ⟨x, x1, (by apply mN <;> omega : J' 101 15 = J 101 15).trans x2, by rw [e13]; exact x3, by rw [e13]; exact x4⟩), (by rw [(by apply cR <;> omega : I' (D + 1) = I (D + 1)), (by apply mR <;> omega : J' 102 = J 102)]; exact pr_bn h), (by rw [(by apply cR <;> omega : I' (D + 2) = I (D + 2)), (by apply mR <;> omega : J' 103 = J 103)]; exact pr_bs h), (by rw [(by apply mR <;> omega : J' 103 = J 103)]; exact pr_br h), (by rw [(by apply mR <;> omega : J' 103 = J 103)]; exact pr_bd h), (by rw [(by apply cR <;> omega : I' (D + 3) = I (D + 3)), (by apply mR <;> omega : J' 104 = J 104)]; exact pr_bc h), (by rw [(by apply cR <;> omega : I' (D + 4) = I (D + 4)), (by apply mR <;> omega : J' 103 = J 103)]; exact pr_ba h), (by rw [(by apply cR <;> omega : I' (D + 5) = I (D + 5)), (by apply mR <;> omega : J' 105 = J 105)]; exact pr_wn h), (by rw [(by apply cR <;> omega : I' (D + 6) = I (D + 6)), (by apply mR <;> omega : J' 106 = J 106)]; exact pr_ws h), (by rw [(by apply cR <;> omega : I' (D + 7) = I (D + 7)), (by apply mR <;> omega : J' 107 = J 107)]; exact pr_wd h), (by rw [(by apply cR <;> omega : I' (D + 8) = I (D + 8)), (by apply mR <;> omega : J' 108 = J 108)]; exact pr_wp h), (by rw [(by apply cR <;> omega : I' (D + 9) = I (D + 9)), (by apply mR <;> omega : J' 109 = J 109)]; exact pr_wm h), (by rw [(by apply cR <;> omega : I' (D + 10) = I (D + 10)), (by apply mR <;> omega : J' 110 = J 110), (by apply cR <;> omega : I' (D + 11) = I (D + 11)), (by apply mR <;> omega : J' 111 = J 111), (by apply cR <;> omega : I' (D + 12) = I (D + 12)), (by apply mR <;> omega : J' 112 = J 112)]; exact pr_rr h), (by rw [(by apply mR <;> omega : J' 112 = J 112)]; exact pr_rm h), (fun k hk => by rw [lw_congr2 (by rw [(by apply cR <;> omega : I' (D + 13) = I (D + 13))]) (by apply cR <;> omega : I' (D + 14) = I (D + 14)) (by apply cR <;> omega : I' (D + 15) = I (D + 15)) (by apply cR <;> omega : I' (D + 16) = I (D + 16)) (by apply cR <;> omega : I' (D + 17) = I (D + 17)) (by apply mR <;> omega : J' 113 = J 113) (by apply mR <;> omega : J' 114 = J 114) (by apply mR <;> omega : J' 115 = J 115) (by apply mR <;> omega : J' 116 = J 116)]; exact pr_lw h k hk)⟩
    refine ⟨x, by omega, e2, ?_⟩
    rw [if_neg (by omega)]; exact e1
  · refine ⟨pr_pl h, pr_w6 h, pr_b8 h, pr_r12 h, pr_t2 h, pr_t60 h, (by apply cD <;> omega : I' D 0 = I D 0).trans (pr_cT h), (by apply cD <;> omega : I' D 4 = I D 4).trans (pr_cB h), (by apply cD <;> omega : I' D 9 = I D 9).trans (pr_cW h), (by apply cD <;> omega : I' D 15 = I D 15).trans (pr_cR h), (by apply mN <;> omega : J' 101 8 = J 101 8).trans (pr_mT h), (by apply mN <;> omega : J' 101 9 = J 101 9).trans (pr_mB h), (by apply mN <;> omega : J' 101 10 = J 101 10).trans (pr_mW h), (by apply mN <;> omega : J' 101 11 = J 101 11).trans (pr_mR h), (by obtain ⟨x, x1, x2, x3⟩ := pr_pi h; exact ⟨x, x1, (by apply mN <;> omega : J' 101 12 = J 101 12).trans x2, (by apply cD <;> omega : I' D 1 = I D 1).trans x3⟩), ?_, (by obtain ⟨x, x1, x2, x3⟩ := pr_se h; exact ⟨x, x1, (by apply mN <;> omega : J' 101 14 = J 101 14).trans x2, (by apply cD <;> omega : I' D 3 = I D 3).trans x3⟩), (by obtain ⟨x, x1, x2, x3, x4⟩ := pr_kn h; have e13 := (by apply cR <;> omega : I' (D + 13) = I (D + 13)); exact ⟨x, x1, (by apply mN <;> omega : J' 101 15 = J 101 15).trans x2, by rw [e13]; exact x3, by rw [e13]; exact x4⟩), (by rw [(by apply cR <;> omega : I' (D + 1) = I (D + 1)), (by apply mR <;> omega : J' 102 = J 102)]; exact pr_bn h), (by rw [(by apply cR <;> omega : I' (D + 2) = I (D + 2)), (by apply mR <;> omega : J' 103 = J 103)]; exact pr_bs h), (by rw [(by apply mR <;> omega : J' 103 = J 103)]; exact pr_br h), (by rw [(by apply mR <;> omega : J' 103 = J 103)]; exact pr_bd h), (by rw [(by apply cR <;> omega : I' (D + 3) = I (D + 3)), (by apply mR <;> omega : J' 104 = J 104)]; exact pr_bc h), (by rw [(by apply cR <;> omega : I' (D + 4) = I (D + 4)), (by apply mR <;> omega : J' 103 = J 103)]; exact pr_ba h), (by rw [(by apply cR <;> omega : I' (D + 5) = I (D + 5)), (by apply mR <;> omega : J' 105 = J 105)]; exact pr_wn h), (by rw [(by apply cR <;> omega : I' (D + 6) = I (D + 6)), (by apply mR <;> omega : J' 106 = J 106)]; exact pr_ws h), (by rw [(by apply cR <;> omega : I' (D + 7) = I (D + 7)), (by apply mR <;> omega : J' 107 = J 107)]; exact pr_wd h), (by rw [(by apply cR <;> omega : I' (D + 8) = I (D + 8)), (by apply mR <;> omega : J' 108 = J 108)]; exact pr_wp h), (by rw [(by apply cR <;> omega : I' (D + 9) = I (D + 9)), (by apply mR <;> omega : J' 109 = J 109)]; exact pr_wm h), (by rw [(by apply cR <;> omega : I' (D + 10) = I (D + 10)), (by apply mR <;> omega : J' 110 = J 110), (by apply cR <;> omega : I' (D + 11) = I (D + 11)), (by apply mR <;> omega : J' 111 = J 111), (by apply cR <;> omega : I' (D + 12) = I (D + 12)), (by apply mR <;> omega : J' 112 = J 112)]; exact pr_rr h), (by rw [(by apply mR <;> omega : J' 112 = J 112)]; exact pr_rm h), (fun k hk => by rw [lw_congr2 (by rw [(by apply cR <;> omega : I' (D + 13) = I (D + 13))]) (by apply cR <;> omega : I' (D + 14) = I (D + 14)) (by apply cR <;> omega : I' (D + 15) = I (D + 15)) (by apply cR <;> omega : I' (D + 16) = I (D + 16)) (by apply cR <;> omega : I' (D + 17) = I (D + 17)) (by apply mR <;> omega : J' 113 = J 113) (by apply mR <;> omega : J' 114 = J 114) (by apply mR <;> omega : J' 115 = J 115) (by apply mR <;> omega : J' 116 = J 116)]; exact pr_lw h k hk)⟩
    exact ⟨x, hx, e2, e1⟩
  · refine ⟨pr_pl h, pr_w6 h, pr_b8 h, pr_r12 h, pr_t2 h, pr_t60 h, (by apply cD <;> omega : I' D 0 = I D 0).trans (pr_cT h), (by apply cD <;> omega : I' D 4 = I D 4).trans (pr_cB h), (by apply cD <;> omega : I' D 9 = I D 9).trans (pr_cW h), (by apply cD <;> omega : I' D 15 = I D 15).trans (pr_cR h), (by apply mN <;> omega : J' 101 8 = J 101 8).trans (pr_mT h), (by apply mN <;> omega : J' 101 9 = J 101 9).trans (pr_mB h), (by apply mN <;> omega : J' 101 10 = J 101 10).trans (pr_mW h), (by apply mN <;> omega : J' 101 11 = J 101 11).trans (pr_mR h), (by obtain ⟨x, x1, x2, x3⟩ := pr_pi h; exact ⟨x, x1, (by apply mN <;> omega : J' 101 12 = J 101 12).trans x2, (by apply cD <;> omega : I' D 1 = I D 1).trans x3⟩), (by obtain ⟨x, x1, x2, x3⟩ := pr_ca h; exact ⟨x, x1, (by apply mN <;> omega : J' 101 13 = J 101 13).trans x2, (by apply cD <;> omega : I' D 2 = I D 2).trans x3⟩), ?_, (by obtain ⟨x, x1, x2, x3, x4⟩ := pr_kn h; have e13 := (by apply cR <;> omega : I' (D + 13) = I (D + 13)); exact ⟨x, x1, (by apply mN <;> omega : J' 101 15 = J 101 15).trans x2, by rw [e13]; exact x3, by rw [e13]; exact x4⟩), (by rw [(by apply cR <;> omega : I' (D + 1) = I (D + 1)), (by apply mR <;> omega : J' 102 = J 102)]; exact pr_bn h), (by rw [(by apply cR <;> omega : I' (D + 2) = I (D + 2)), (by apply mR <;> omega : J' 103 = J 103)]; exact pr_bs h), (by rw [(by apply mR <;> omega : J' 103 = J 103)]; exact pr_br h), (by rw [(by apply mR <;> omega : J' 103 = J 103)]; exact pr_bd h), (by rw [(by apply cR <;> omega : I' (D + 3) = I (D + 3)), (by apply mR <;> omega : J' 104 = J 104)]; exact pr_bc h), (by rw [(by apply cR <;> omega : I' (D + 4) = I (D + 4)), (by apply mR <;> omega : J' 103 = J 103)]; exact pr_ba h), (by rw [(by apply cR <;> omega : I' (D + 5) = I (D + 5)), (by apply mR <;> omega : J' 105 = J 105)]; exact pr_wn h), (by rw [(by apply cR <;> omega : I' (D + 6) = I (D + 6)), (by apply mR <;> omega : J' 106 = J 106)]; exact pr_ws h), (by rw [(by apply cR <;> omega : I' (D + 7) = I (D + 7)), (by apply mR <;> omega : J' 107 = J 107)]; exact pr_wd h), (by rw [(by apply cR <;> omega : I' (D + 8) = I (D + 8)), (by apply mR <;> omega : J' 108 = J 108)]; exact pr_wp h), (by rw [(by apply cR <;> omega : I' (D + 9) = I (D + 9)), (by apply mR <;> omega : J' 109 = J 109)]; exact pr_wm h), (by rw [(by apply cR <;> omega : I' (D + 10) = I (D + 10)), (by apply mR <;> omega : J' 110 = J 110), (by apply cR <;> omega : I' (D + 11) = I (D + 11)), (by apply mR <;> omega : J' 111 = J 111), (by apply cR <;> omega : I' (D + 12) = I (D + 12)), (by apply mR <;> omega : J' 112 = J 112)]; exact pr_rr h), (by rw [(by apply mR <;> omega : J' 112 = J 112)]; exact pr_rm h), (fun k hk => by rw [lw_congr2 (by rw [(by apply cR <;> omega : I' (D + 13) = I (D + 13))]) (by apply cR <;> omega : I' (D + 14) = I (D + 14)) (by apply cR <;> omega : I' (D + 15) = I (D + 15)) (by apply cR <;> omega : I' (D + 16) = I (D + 16)) (by apply cR <;> omega : I' (D + 17) = I (D + 17)) (by apply mR <;> omega : J' 113 = J 113) (by apply mR <;> omega : J' 114 = J 114) (by apply mR <;> omega : J' 115 = J 115) (by apply mR <;> omega : J' 116 = J 116)]; exact pr_lw h k hk)⟩
    exact ⟨x, hx, e2, e1⟩
theorem pD_f {D k : Nat} (hD : isPl D) (hk : k < 4 ∨ k = 4 ∨ k = 9 ∨ k = 15) {d : xD} {v : Int32} : xpI 3 shA d D k v = some (xu d.1 D k v, d.2.1, d.2.2) := by
  rcases (show k = 0 ∨ k = 1 ∨ k = 2 ∨ k = 3 ∨ k = 4 ∨ k = 9 ∨ k = 15 by omega) with rfl | rfl | rfl | rfl | rfl | rfl | rfl <;> exact pI_of (sp_0 hD) rfl
theorem rl_stair {P P' : Nat} {L L' : Nat → Nat → Int64} {R R' : Nat → Nat → Option Nat} (hR : ∀ I, RefOK (I, L, R) P) (hR' : ∀ I, RefOK (I, L', R') P') {n : Nat} {B : Nat → Nat} {D li nw nb nr tp p a t : Nat} {I J : Nat → Nat → Int32} (hD : isPl D) (hRD : R 42 2 = some D) (h : LN D n B li nw nb nr tp p a t I J) (ht : t = 0) (h0 : nw = 0 ∧ nb = 0 ∧ nr = 0 ∧ J 101 12 = 0) : RES L R L' R' n B D li p I J (f_X6_readStair shA 42 (I, L, R)) (k_X10_line_85 shA 99 (nI 0) (J, L', R')) := by
  have hpr := isPl_le hD
  have hg42 : ∀ X : Nat → Nat → Int32, xgR 6 shA (X, L, R) 42 2 = some D := fun X => gR_of sA_42 hRD
  obtain ⟨I1, J1, p1, a1, t1, q1, q2, q3, q4, q5, q6⟩ := adv0 hR hR' (ln_tk h) (show t ≠ 36 by omega) (I1 := I) (J1 := xu J 99 19 (J 99 19 ||| ((1 : Int32) <<< (nI 0 &&& 31)))) (fun _ _ => rfl) rfl rfl (fun j j1 j2 => xu_at2 (by omega)) (xu_off (by omega))
  have f0 : J1 99 26 = 0 := (q4.2 26 (by omega)).trans ((xu_at2 (by omega)).trans (ln_f0 h))
  have fm1 : FRM J J1 := frm_trans (frm_99 (by omega)) (frm_nm q4)
  have hY : k_X10_line_85 shA 99 (nI 0) (J, L', R') = (f_X10_numeral shA 99 (nI 2) (nI 60) (J1, L', R')).bind fun z22 => (xon 10 shA 99 (f_X10_reads shA 99 (nI 0) z22.1 z22.2)).bind fun d23 => k_X10_line_521 shA 99 d23 := by
    unfold k_X10_line_85
    rw [gI_of sA_99, Option.bind_some]
    dsimp only
    rw [if_pos (ln_f0 h), gI_of sA_99, Option.bind_some, pM_19, Option.bind_some, on_of sA_99]
    dsimp only
    rw [q2, Option.bind_some, if_pos (show nI 0 = (0 : Int32) from rfl), on_of sA_99]
    rfl
  have hX : f_X6_readStair shA 42 (I, L, R) = (f_X6_isNumber shA 42 (nI 2) (nI 60) (I1, L, R)).bind fun z3 => if z3.1 = 0 then (some ((0 : Int32), z3.2)) else ((xgR 6 shA z3.2 42 2).bind fun v4 => (xgR 6 shA z3.2 42 0).bind fun v5 => (xgI 7 shA z3.2 v5 2).bind fun v6 => (xpI 3 shA z3.2 v4 0 v6).bind fun d7 => (xgR 6 shA d7 42 0).bind fun v8 => (xon 7 shA v8 (f_X7_next shA v8 d7)).bind fun d9 => some ((1 : Int32), d9)) := by
    unfold f_X6_readStair
    rw [gR_of sA_42 (rf_42_0 (hR _)), Option.bind_some, on_of sA_40, q1, Option.bind_some, on_of sA_42]
    rfl
  rw [hX, hY]
  rcases e_num hR hR' q5 f0 (lo := 2) (hi := 60) (by omega) (by omega) with ⟨v, v0, b1, b2⟩ | ⟨x, x1, x2, x3, x4, x5, x6, x7⟩
  · left
    refine ⟨rfC v I1, xu (rfM v J1) 101 8 (nI 2), ?_, ?_, ft_xu (by omega) (ft_of v0 (tk_cp q5) (tk_mp q5)), frc_rf (frc_nc q3), frm_trans (frm_rf fm1) (frm_101 (by omega))⟩
    · rw [b1, Option.bind_some]
      dsimp only
      rw [if_pos rfl]
    · rw [b2, Option.bind_some, on_of sA_99, m_reads hR' (i := 0) (by omega), Option.bind_some, h521F]
      rw [xu_cell (by omega), rfM_26]; exact v0
  · right
    obtain ⟨I2, J2, p2, a2, t2, r1, r2, r3, r4, r5, r6⟩ := adv0 hR hR' q5 (show t1 ≠ 36 by omega) (I1 := xu I1 D 0 (nI x)) (J1 := J1) (fun j _ => xu_cell (by omega)) (xu_off (by omega)) (xu_off (by omega)) (fun _ _ _ => rfl) rfl
    have cI : ∀ q, q ≠ 40 → q ≠ D → I2 q = I q := fun q c1 c2 => by rw [r3.1 q c1, xu_off c2, q3.1 q c1]
    have cJ : ∀ q, q ≠ 99 → J2 q = J q := fun q c1 => by rw [r4.1 q c1, q4.1 q c1, xu_off c1]
    have c99 : ∀ j, (j < 22 ∨ 25 < j) → j ≠ 19 → J2 99 j = J 99 j := fun j c1 c2 => by rw [r4.2 j c1, q4.2 j c1, xu_at2 c2]
    have c19 : J2 99 19 = J 99 19 ||| ((1 : Int32) <<< (nI 0 &&& 31)) := by rw [r4.2 19 (by omega), q4.2 19 (by omega), xu_at]
    have i40 : ∀ j, j = 3 ∨ j = 4 → I2 40 j = I 40 j := fun j c => by rw [r3.2 j (by omega) (by omega) (by omega) (by omega), xu_cell (by omega), q3.2 j (by omega) (by omega) (by omega) (by omega)]
    have hP : PR D 1 nw nb nr x I2 (xu J2 101 8 (nI x)) := pr_stair (ln_pr h) h0 x1 x2 (by rw [r3.1 D (by omega), xu_at]) xu_at (fun k hk => by rw [r3.1 D (by omega), xu_at2 hk, q3.1 D (by omega)]) (fun j j1 j2 => cI _ (by omega) (by omega)) (fun k hk => by rw [xu_at2 hk, cJ 101 (by omega)]) (fun q c1 c2 => by rw [xu_off (by omega), cJ q (by omega)])
    refine ⟨nw, nb, nr, x, p2, a2, t2, I2, xu J2 101 8 (nI x), ?_, ?_, ⟨tk_congr r5 (fun _ _ => rfl) rfl rfl (fun j _ _ => xu_cell (by omega)) (xu_off (by omega)), hP, ?_, ?_, ?_, ?_, ?_, ?_, ?_, ?_, ?_, ?_⟩, by omega, frc_trans (frc_nc q3) (frc_trans (frc_xu (by omega)) (frc_nc r3)), frm_trans fm1 (frm_trans (frm_nm r4) (frm_101 (by omega)))⟩
    · rw [x6, Option.bind_some]
      dsimp only
      rw [if_neg (show ¬ (1 : Int32) = 0 by decide), hg42, Option.bind_some, gR_of sA_42 (rf_42_0 (hR _)), Option.bind_some, gI_of sA_40, Option.bind_some, pD_f hD (by omega), Option.bind_some]
      dsimp only
      rw [gR_of sA_42 (rf_42_0 (hR _)), Option.bind_some, on_of sA_40, x4, r1, Option.bind_some]
    · rw [x7, r2, Option.bind_some, Option.bind_some, on_of sA_99, m_reads hR' (i := 0) (by omega), Option.bind_some]
    · rw [xu_cell (by omega), c99 26 (by omega) (by omega)]; exact ln_f0 h
    · rw [xu_cell (by omega), c99 27 (by omega) (by omega)]; exact ln_f1 h
    · rw [i40 3 (by omega)]; exact ln_g0 h
    · rw [i40 4 (by omega)]; exact ln_g1 h
    · rw [xu_cell (by omega), c99 20 (by omega) (by omega)]; exact ln_li h
    · rw [xu_cell (by omega), c99 30 (by omega) (by omega)]; exact ln_op h
    · rw [xu_cell (by omega), c99 31 (by omega) (by omega), cI (D + 13) (by omega) (by omega)]; exact ln_mk h
    · rw [cI 42 (by omega) (by omega), xu_cell (by omega), c19]; exact told_or (by omega) (ln_tn h)
    · intro k hk
      rw [cI 42 (by omega) (by omega), xu_cell (by omega), c19, cI (D + 13) (by omega) (by omega), told_or2 (by omega) hk]; exact ln_tl h k hk
    · intro k hk hb
      rw [cI (D + 13) (by omega) (by omega)] at hb ⊢
      rw [xu_cell (by omega), cJ 114 (by omega)]; exact ln_tb h k hk hb
/-- the piano, calls, the seed: w is 4, 5 or 6 -/
theorem rl_num {P P' : Nat} {L L' : Nat → Nat → Int64} {R R' : Nat → Nat → Option Nat} (hR : ∀ I, RefOK (I, L, R) P) (hR' : ∀ I, RefOK (I, L', R') P') {n : Nat} {B : Nat → Nat} {D li nw nb nr tp p a t : Nat} {I J : Nat → Nat → Int32} (hD : isPl D) (hRD : R 42 2 = some D) (h : LN D n B li nw nb nr tp p a t I J) {w lo hi : Nat} (ht : t = w) (hw : (w = 4 ∧ lo = 1 ∧ hi = tp - 1) ∨ (w = 5 ∧ lo = 0 ∧ hi = 100) ∨ (w = 6 ∧ lo = 0 ∧ hi = 99999)) : RES L R L' R' n B D li p I J (f_X6_readNumberLine shA 42 (nI w) (I, L, R)) (if bt (J 99 19) w = true then some (rfM 3 J, L', R') else k_X10_line_85 shA 99 (nI w) (J, L', R')) := by
  have hpr := isPl_le hD
  have t60 := pr_t60 (ln_pr h); have t2' := pr_t2 (ln_pr h)
  have hg42 : ∀ X : Nat → Nat → Int32, xgR 6 shA (X, L, R) 42 2 = some D := fun X => gR_of sA_42 hRD
  have p42 : ∀ (d : xD) (v : Int32), xpI 6 shA d 42 3 v = some (xu d.1 42 3 v, d.2.1, d.2.2) := fun d v => pI_of sA_42 rfl
  have bw := ln_tn h w (by omega) (by omega)
  have hFT : f_X6_isFirstTime shA 42 (nI w) (I, L, R) = if bt (J 99 19) w = true then some (0, (rfC 3 I, L, R)) else some (1, (xu I 42 3 (I 42 3 ||| ((1 : Int32) <<< (nI w &&& 31))), L, R)) := by
    unfold f_X6_isFirstTime
    simp only [gI_of sA_42, Option.bind_some, bi1 _ (show w < 32 by omega), gR_of sA_42 (rf_42_0 (hR _)), on_of sA_40, c_refuse, p42, bw]
    by_cases c : bt (J 99 19) w = true
    · rw [if_pos c, if_pos rfl, if_pos c]; rfl
    · rw [if_neg c, if_neg (by decide), if_neg c]
  by_cases c : bt (J 99 19) w = true
  · left
    rw [if_pos c] at hFT ⊢
    refine ⟨rfC 3 I, rfM 3 J, ?_, rfl, ft_of (by decide) (tk_cp (ln_tk h)) (tk_mp (ln_tk h)), frc_rf frc_refl, frm_rf frm_refl⟩
    unfold f_X6_readNumberLine
    rw [on_of sA_42, hFT, Option.bind_some]
    dsimp only
    rw [if_pos rfl]
  · rw [if_neg c] at hFT ⊢
    generalize hI0 : xu I 42 3 (I 42 3 ||| ((1 : Int32) <<< (nI w &&& 31))) = I0 at hFT
    have o0 : ∀ q, q ≠ 42 → I0 q = I q := fun q hq => by rw [← hI0, xu_off hq]
    obtain ⟨I1, J1, p1, a1, t1, q1, q2, q3, q4, q5, q6⟩ := adv0 hR hR' (ln_tk h) (show t ≠ 36 by omega) (I1 := I0) (J1 := xu J 99 19 (J 99 19 ||| ((1 : Int32) <<< (nI w &&& 31)))) (fun _ _ => by rw [o0 40 (by omega)]) (o0 1 (by omega)) (o0 41 (by omega)) (fun j j1 j2 => xu_at2 (by omega)) (xu_off (by omega))
    have f0 : J1 99 26 = 0 := (q4.2 26 (by omega)).trans ((xu_at2 (by omega)).trans (ln_f0 h))
    have fm1 : FRM J J1 := frm_trans (frm_99 (by omega)) (frm_nm q4)
    have fc1 : FRC D I I1 := by rw [← hI0] at q3; exact frc_trans (frc_xu (by omega)) (frc_nc q3)
    have iD : ∀ k, I1 D k = I D k := fun k => by rw [q3.1 D (by omega), o0 D (by omega)]
    have jN : J1 101 = J 101 := by rw [q4.1 101 (by omega), xu_off (by omega)]
    have cTp : I1 D 0 = nI tp := (iD 0).trans (pr_cT (ln_pr h))
    have mTp : J1 101 8 = nI tp := by rw [jN]; exact pr_mT (ln_pr h)
    have hY : k_X10_line_85 shA 99 (nI w) (J, L', R') = (f_X10_numeral shA 99 (nI lo) (nI hi) (J1, L', R')).bind fun z22 => (xon 10 shA 99 (f_X10_reads shA 99 (nI w) z22.1 z22.2)).bind fun d23 => k_X10_line_521 shA 99 d23 := by
      unfold k_X10_line_85
      rw [gI_of sA_99, Option.bind_some]
      dsimp only
      rw [if_pos (ln_f0 h), gI_of sA_99, Option.bind_some, pM_19, Option.bind_some, on_of sA_99]
      dsimp only
      rw [q2, Option.bind_some]
      rcases hw with ⟨rfl, rfl, rfl⟩ | ⟨rfl, rfl, rfl⟩ | ⟨rfl, rfl, rfl⟩
      · rw [if_neg (show ¬ nI 4 = (0 : Int32) by decide), if_neg (show ¬ nI 4 = (1 : Int32) by decide), if_neg (show ¬ nI 4 = (2 : Int32) by decide), if_neg (show ¬ nI 4 = (3 : Int32) by decide), if_pos (show nI 4 = (4 : Int32) from rfl), on_of sA_99, show f_X10_fresher shA 99 (0 : Int32) (J1, L', R') = some (J1 101 (8 + 0), (J1, L', R')) from m_fresher hR' (i := 0) (by omega), Option.bind_some, on_of sA_99]
        dsimp only
        rw [Nat.add_zero, mTp, show nI tp - (1 : Int32) = nI (tp - 1) from pk_sub (b := 1) (by omega)]
        rfl
      · rw [if_neg (show ¬ nI 5 = (0 : Int32) by decide), if_neg (show ¬ nI 5 = (1 : Int32) by decide), if_neg (show ¬ nI 5 = (2 : Int32) by decide), if_neg (show ¬ nI 5 = (3 : Int32) by decide), if_neg (show ¬ nI 5 = (4 : Int32) by decide), if_pos (show nI 5 = (5 : Int32) from rfl), on_of sA_99]
        rfl
      · rw [if_neg (show ¬ nI 6 = (0 : Int32) by decide), if_neg (show ¬ nI 6 = (1 : Int32) by decide), if_neg (show ¬ nI 6 = (2 : Int32) by decide), if_neg (show ¬ nI 6 = (3 : Int32) by decide), if_neg (show ¬ nI 6 = (4 : Int32) by decide), if_neg (show ¬ nI 6 = (5 : Int32) by decide), if_pos (show nI 6 = (6 : Int32) from rfl), on_of sA_99]
        rfl
    have hX : f_X6_readNumberLine shA 42 (nI w) (I, L, R) = (f_X6_isNumber shA 42 (nI lo) (nI hi) (I1, L, R)).bind fun z3 => if z3.1 = 0 then (some ((0 : Int32), z3.2)) else ((xgR 6 shA z3.2 42 2).bind fun v4 => (xgR 6 shA z3.2 42 0).bind fun v5 => (xgI 7 shA z3.2 v5 2).bind fun v6 => (xpI 3 shA z3.2 v4 (w - 3) v6).bind fun d7 => k_X6_readNumberLine_118 shA 42 d7) := by
      unfold f_X6_readNumberLine
      rw [on_of sA_42, hFT, Option.bind_some]
      dsimp only
      rw [if_neg (show ¬ (1 : Int32) = 0 by decide), gR_of sA_42 (rf_42_0 (hR _)), Option.bind_some, on_of sA_40, q1, Option.bind_some]
      rcases hw with ⟨rfl, rfl, rfl⟩ | ⟨rfl, rfl, rfl⟩ | ⟨rfl, rfl, rfl⟩
      · rw [if_pos (show nI 4 = (4 : Int32) from rfl), hg42, Option.bind_some, gI_of (sp_0 hD), Option.bind_some, on_of sA_42]
        dsimp only
        rw [cTp, show nI tp - (1 : Int32) = nI (tp - 1) from pk_sub (b := 1) (by omega)]
        rfl
      · rw [if_neg (show ¬ nI 5 = (4 : Int32) by decide), if_pos (show nI 5 = (5 : Int32) from rfl), on_of sA_42]
        rfl
      · rw [if_neg (show ¬ nI 6 = (4 : Int32) by decide), if_neg (show ¬ nI 6 = (5 : Int32) by decide), on_of sA_42]
        rfl
    rw [hX, hY]
    rcases e_num hR hR' q5 f0 (lo := lo) (hi := hi) (by omega) (by omega) with ⟨v, v0, b1, b2⟩ | ⟨x, x1, x2, x3, x4, x5, x6, x7⟩
    · left
      refine ⟨rfC v I1, xu (rfM v J1) 101 (8 + w) (nI lo), ?_, ?_, ft_xu (by omega) (ft_of v0 (tk_cp q5) (tk_mp q5)), frc_rf fc1, frm_trans (frm_rf fm1) (frm_101 (by omega))⟩
      · rw [b1, Option.bind_some]
        dsimp only
        rw [if_pos rfl]
      · rw [b2, Option.bind_some, on_of sA_99, m_reads hR' (i := w) (by omega), Option.bind_some, h521F]
        rw [xu_cell (by omega), rfM_26]; exact v0
    · right
      obtain ⟨I2, J2, p2, a2, t2, r1, r2, r3, r4, r5, r6⟩ := adv0 hR hR' q5 (show t1 ≠ 36 by omega) (I1 := xu I1 D (w - 3) (nI x)) (J1 := J1) (fun j _ => xu_cell (by omega)) (xu_off (by omega)) (xu_off (by omega)) (fun _ _ _ => rfl) rfl
      have cI : ∀ q, q ≠ 40 → q ≠ 42 → q ≠ D → I2 q = I q := fun q c1 c3 c2 => by rw [r3.1 q c1, xu_off c2, q3.1 q c1, o0 q c3]
      have c42 : I2 42 3 = I 42 3 ||| ((1 : Int32) <<< (nI w &&& 31)) := by rw [r3.1 42 (by omega), xu_cell (by omega), q3.1 42 (by omega), ← hI0, xu_at]
      have cJ : ∀ q, q ≠ 99 → J2 q = J q := fun q c1 => by rw [r4.1 q c1, q4.1 q c1, xu_off c1]
      have c99 : ∀ j, (j < 22 ∨ 25 < j) → j ≠ 19 → J2 99 j = J 99 j := fun j c1 c2 => by rw [r4.2 j c1, q4.2 j c1, xu_at2 c2]
      have c19 : J2 99 19 = J 99 19 ||| ((1 : Int32) <<< (nI w &&& 31)) := by rw [r4.2 19 (by omega), q4.2 19 (by omega), xu_at]
      have i40 : ∀ j, j = 3 ∨ j = 4 → I2 40 j = I 40 j := fun j c => by rw [r3.2 j (by omega) (by omega) (by omega) (by omega), xu_cell (by omega), q3.2 j (by omega) (by omega) (by omega) (by omega), o0 40 (by omega)]
      have hP : PR D 1 nw nb nr tp I2 (xu J2 101 (8 + w) (nI x)) := pr_num (w := w) (hi := hi) (ln_pr h) (by omega) x2 (by rw [r3.1 D (by omega), xu_at]) xu_at (fun k hk => by rw [r3.1 D (by omega), xu_at2 hk, iD]) (fun j j1 j2 => cI _ (by omega) (by omega) (by omega)) (fun k hk => by rw [xu_at2 hk, cJ 101 (by omega)]) (fun q c1 c2 => by rw [xu_off (by omega), cJ q (by omega)])
      refine ⟨nw, nb, nr, tp, p2, a2, t2, I2, xu J2 101 (8 + w) (nI x), ?_, ?_, ⟨tk_congr r5 (fun _ _ => rfl) rfl rfl (fun j _ _ => xu_cell (by omega)) (xu_off (by omega)), hP, ?_, ?_, ?_, ?_, ?_, ?_, ?_, ?_, ?_, ?_⟩, by omega, frc_trans fc1 (frc_trans (frc_xu (by omega)) (frc_nc r3)), frm_trans fm1 (frm_trans (frm_nm r4) (frm_101 (by omega)))⟩
      · rw [x6, Option.bind_some]
        dsimp only
        rw [if_neg (show ¬ (1 : Int32) = 0 by decide), hg42, Option.bind_some, gR_of sA_42 (rf_42_0 (hR _)), Option.bind_some, gI_of sA_40, Option.bind_some, pD_f hD (by omega), Option.bind_some]
        dsimp only
        unfold k_X6_readNumberLine_118
        rw [gR_of sA_42 (rf_42_0 (hR _)), Option.bind_some, on_of sA_40, x4, r1, Option.bind_some]
      · rw [x7, r2, Option.bind_some, Option.bind_some, on_of sA_99, m_reads hR' (i := w) (by omega), Option.bind_some]
      · rw [xu_cell (by omega), c99 26 (by omega) (by omega)]; exact ln_f0 h
      · rw [xu_cell (by omega), c99 27 (by omega) (by omega)]; exact ln_f1 h
      · rw [i40 3 (by omega)]; exact ln_g0 h
      · rw [i40 4 (by omega)]; exact ln_g1 h
      · rw [xu_cell (by omega), c99 20 (by omega) (by omega)]; exact ln_li h
      · rw [xu_cell (by omega), c99 30 (by omega) (by omega)]; exact ln_op h
      · rw [xu_cell (by omega), c99 31 (by omega) (by omega), cI (D + 13) (by omega) (by omega) (by omega)]; exact ln_mk h
      · intro w' h1 h2
        rw [c42, xu_cell (by omega), c19, b_or1 _ (by omega) (by omega), b_or1 _ (by omega) (by omega), ln_tn h w' h1 h2]
      · intro k hk
        rw [c42, xu_cell (by omega), c19, cI (D + 13) (by omega) (by omega) (by omega), told_or2 (by omega) hk, b_or1 _ (by omega) (by omega), decide_eq_false (show ¬ 8 + k = w by omega), Bool.or_false]; exact ln_tl h k hk
      · intro k hk hb
        rw [cI (D + 13) (by omega) (by omega) (by omega)] at hb ⊢
        rw [xu_cell (by omega), cJ 114 (by omega)]; exact ln_tb h k hk hb

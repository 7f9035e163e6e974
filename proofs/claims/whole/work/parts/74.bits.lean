/-! LEVEL 2: bits (starting text of the kit), small numbers, words for the one heap -/
def bt (x : Int32) (i : Nat) : Bool := x.toBitVec.getLsbD i
theorem b_ext {x y : Int32} (h : ∀ i, i < 32 → bt x i = bt y i) : x = y := Int32.toBitVec_inj.mp (BitVec.eq_of_getLsbD_eq (fun i hi => h i hi))
theorem b_or (x y : Int32) (i : Nat) : bt (x ||| y) i = (bt x i || bt y i) := by unfold bt; rw [Int32.toBitVec_or, BitVec.getLsbD_or]
theorem b_and (x y : Int32) (i : Nat) : bt (x &&& y) i = (bt x i && bt y i) := by unfold bt; rw [Int32.toBitVec_and, BitVec.getLsbD_and]
theorem b_xor (x y : Int32) (i : Nat) : bt (x ^^^ y) i = (bt x i ^^ bt y i) := by unfold bt; rw [Int32.toBitVec_xor, BitVec.getLsbD_xor]
theorem b_big {x : Int32} {i : Nat} (h : 32 ≤ i) : bt x i = false := BitVec.getLsbD_of_ge _ _ h
theorem b_m1 : ∀ i, i < 32 → bt (-1) i = true := by decide +kernel
theorem b_0 (i : Nat) : bt 0 i = false := BitVec.getLsbD_zero
theorem s_l : ∀ n, n < 32 → ((nI n &&& 31).toBitVec.smod 32).toNat = n := by decide +kernel
theorem s_u : ∀ n, n < 32 → (((nI n).toUInt32 &&& Int32.toUInt32 31).toBitVec % 32).toNat = n := by decide +kernel
theorem b_shl (n : Nat) (hn : n < 32) (x : Int32) {i : Nat} (hi : i < 32) : bt (x <<< (nI n &&& 31)) i = (decide (n ≤ i) && bt x (i - n)) := by
  unfold bt
  rw [Int32.toBitVec_shiftLeft]
  show (x.toBitVec <<< ((nI n &&& 31).toBitVec.smod 32).toNat).getLsbD i = _
  rw [s_l n hn, BitVec.getLsbD_shiftLeft]
  rcases Nat.lt_or_ge i n with h | h
  · simp [h, Nat.not_le.mpr h]
  · simp [hi, h, Nat.not_lt.mpr h]
theorem b_ushr (n : Nat) (hn : n < 32) (x : Int32) (i : Nat) : bt ((x.toUInt32 >>> ((nI n).toUInt32 &&& Int32.toUInt32 31)).toInt32) i = bt x (n + i) := by
  show (x.toUInt32 >>> ((nI n).toUInt32 &&& Int32.toUInt32 31)).toBitVec.getLsbD i = x.toUInt32.toBitVec.getLsbD (n + i)
  rw [UInt32.toBitVec_shiftRight]
  show (x.toUInt32.toBitVec >>> (((nI n).toUInt32 &&& Int32.toUInt32 31).toBitVec % 32).toNat).getLsbD i = _
  rw [s_u n hn, BitVec.getLsbD_ushiftRight]
theorem b_sshr (n : Nat) (hn : n < 32) (x : Int32) {i : Nat} (hi : i < 32) : bt (x >>> (nI n &&& 31)) i = if n + i < 32 then bt x (n + i) else bt x 31 := by
  unfold bt
  rw [Int32.toBitVec_shiftRight]
  show (x.toBitVec.sshiftRight ((nI n &&& 31).toBitVec.smod 32).toNat).getLsbD i = _
  rw [s_l n hn, BitVec.getLsbD_sshiftRight, BitVec.msb_eq_getLsbD_last]
  simp [hi]
theorem b_shl8 (x : Int32) {i : Nat} (hi : i < 32) : bt (x <<< ((8 : Int32) &&& 31)) i = (decide (8 ≤ i) && bt x (i - 8)) := b_shl 8 (by omega) x hi
theorem b_shl16 (x : Int32) {i : Nat} (hi : i < 32) : bt (x <<< ((16 : Int32) &&& 31)) i = (decide (16 ≤ i) && bt x (i - 16)) := b_shl 16 (by omega) x hi
theorem b_shl24 (x : Int32) {i : Nat} (hi : i < 32) : bt (x <<< ((24 : Int32) &&& 31)) i = (decide (24 ≤ i) && bt x (i - 24)) := b_shl 24 (by omega) x hi
theorem b_sshr8 (x : Int32) {i : Nat} (hi : i < 32) : bt (x >>> ((8 : Int32) &&& 31)) i = if 8 + i < 32 then bt x (8 + i) else bt x 31 := b_sshr 8 (by omega) x hi
theorem bt_1 : ∀ i, i < 32 → bt 1 i = decide (i = 0) := by decide +kernel
theorem bi1 (x : Int32) {r : Nat} (hr : r < 32) : ((x >>> (nI r &&& 31)) &&& (1 : Int32)) = if bt x r then 1 else 0 := by
  apply b_ext
  intro i hi
  rw [b_and, b_sshr r hr x hi, bt_1 i hi]
  by_cases h0 : i = 0
  · subst h0
    rw [if_pos (by omega), Nat.add_zero]
    cases bt x r
    · rfl
    · rfl
  · rw [decide_eq_false h0, Bool.and_false]
    cases bt x r
    · rw [if_neg (by simp), b_0]
    · rw [if_pos rfl, bt_1 i hi, decide_eq_false h0]
theorem bsh1 {r i : Nat} (hr : r < 32) (hi : i < 32) : bt ((1 : Int32) <<< (nI r &&& 31)) i = decide (i = r) := by
  rw [b_shl r hr 1 hi]
  by_cases h : i = r
  · subst h; rw [Nat.sub_self, bt_1 0 (by omega), decide_eq_true (Nat.le_refl i)]; simp
  · by_cases h2 : r ≤ i
    · rw [bt_1 (i - r) (by omega), decide_eq_false (show ¬ i - r = 0 by omega), decide_eq_false h, Bool.and_false]
    · rw [decide_eq_false h2, decide_eq_false h, Bool.false_and]
theorem b_or1 (x : Int32) {r i : Nat} (hr : r < 32) (hi : i < 32) : bt (x ||| ((1 : Int32) <<< (nI r &&& 31))) i = (bt x i || decide (i = r)) := by rw [b_or, bsh1 hr hi]
theorem bi2 (x : Int32) {p q : Nat} (hp : p < 32) (hq : q < 32) : (((x >>> (nI p &&& 31)) &&& (x >>> (nI q &&& 31))) &&& (1 : Int32)) = if bt x p && bt x q then 1 else 0 := by
  apply b_ext
  intro i hi
  rw [b_and, b_and, b_sshr p hp x hi, b_sshr q hq x hi, bt_1 i hi]
  by_cases h0 : i = 0
  · subst h0
    rw [if_pos (by omega), if_pos (by omega), Nat.add_zero, Nat.add_zero]
    cases bt x p <;> cases bt x q <;> rfl
  · rw [decide_eq_false h0, Bool.and_false]
    cases bt x p && bt x q
    · rw [if_neg (by simp), b_0]
    · rw [if_pos rfl, bt_1 i hi, decide_eq_false h0]
theorem one_ne_zero32 : ¬ (1 : Int32) = 0 := by decide
theorem if10 {b : Bool} : ((if b then (1 : Int32) else 0) = 0) ↔ b = false := by cases b <;> simp
theorem if11 {b : Bool} : ((if b then (1 : Int32) else 0) = 1) ↔ b = true := by cases b <;> simp
theorem nI_mul (a b : Nat) : nI a * nI b = nI (a * b) := by
  unfold nI
  exact (Int32.ofNat_mul a b).symm
theorem m6_ (s : Nat) : (6 : Int32) * nI s = nI (6 * s) := nI_mul 6 s
theorem m8_ (s : Nat) : (8 : Int32) * nI s = nI (8 * s) := nI_mul 8 s
theorem rf_87_0 {d : xD} {P : Nat} (h : RefOK d P) : d.2.2 87 0 = some P := h.2.2.2.1
theorem rf_0_4 {d : xD} {P : Nat} (h : RefOK d P) : d.2.2 0 4 = some P := h.2.1
theorem rf_0_5 {d : xD} {P : Nat} (h : RefOK d P) : d.2.2 0 5 = some (23 - P) := h.2.2.1
theorem aN_0 {d : xD} : xaI .int shA d 101 (0 : Int32) = some (d.1 101 0) := aI_of (i := 0) sA_101 (by decide) (by decide)
theorem aN_1 {d : xD} : xaI .int shA d 101 (1 : Int32) = some (d.1 101 1) := aI_of (i := 1) sA_101 (by decide) (by decide)
theorem aN_2 {d : xD} : xaI .int shA d 101 (2 : Int32) = some (d.1 101 2) := aI_of (i := 2) sA_101 (by decide) (by decide)
theorem aN_3 {d : xD} : xaI .int shA d 101 (3 : Int32) = some (d.1 101 3) := aI_of (i := 3) sA_101 (by decide) (by decide)
theorem aN_4 {d : xD} : xaI .int shA d 101 (4 : Int32) = some (d.1 101 4) := aI_of (i := 4) sA_101 (by decide) (by decide)
theorem aN_5 {d : xD} : xaI .int shA d 101 (5 : Int32) = some (d.1 101 5) := aI_of (i := 5) sA_101 (by decide) (by decide)
theorem aN_6 {d : xD} : xaI .int shA d 101 (6 : Int32) = some (d.1 101 6) := aI_of (i := 6) sA_101 (by decide) (by decide)
theorem aN_7 {d : xD} : xaI .int shA d 101 (7 : Int32) = some (d.1 101 7) := aI_of (i := 7) sA_101 (by decide) (by decide)
theorem pS_0 {d : xD} {q : Nat} {v : Int32} (hq : isSc q) : xpI 4 shA d q 0 v = some (xu d.1 q 0 v, d.2.1, d.2.2) := pI_of (ss_0 hq) rfl
theorem pS_1 {d : xD} {q : Nat} {v : Int32} (hq : isSc q) : xpI 4 shA d q 1 v = some (xu d.1 q 1 v, d.2.1, d.2.2) := pI_of (ss_0 hq) rfl
theorem pS_2 {d : xD} {q : Nat} {v : Int32} (hq : isSc q) : xpI 4 shA d q 2 v = some (xu d.1 q 2 v, d.2.1, d.2.2) := pI_of (ss_0 hq) rfl
theorem pS_4 {d : xD} {q : Nat} {v : Int32} (hq : isSc q) : xpI 4 shA d q 4 v = some (xu d.1 q 4 v, d.2.1, d.2.2) := pI_of (ss_0 hq) rfl
theorem pS_14 {d : xD} {q : Nat} {v : Int32} (hq : isSc q) : xpI 4 shA d q 14 v = some (xu d.1 q 14 v, d.2.1, d.2.2) := pI_of (ss_0 hq) rfl
theorem pM_0 {d : xD} {v : Int32} : xpI 10 shA d 99 0 v = some (xu d.1 99 0 v, d.2.1, d.2.2) := pI_of sA_99 rfl
theorem pM_2 {d : xD} {v : Int32} : xpI 10 shA d 99 2 v = some (xu d.1 99 2 v, d.2.1, d.2.2) := pI_of sA_99 rfl
theorem pM_19 {d : xD} {v : Int32} : xpI 10 shA d 99 19 v = some (xu d.1 99 19 v, d.2.1, d.2.2) := pI_of sA_99 rfl
theorem pM_20 {d : xD} {v : Int32} : xpI 10 shA d 99 20 v = some (xu d.1 99 20 v, d.2.1, d.2.2) := pI_of sA_99 rfl
theorem pM_21 {d : xD} {v : Int32} : xpI 10 shA d 99 21 v = some (xu d.1 99 21 v, d.2.1, d.2.2) := pI_of sA_99 rfl
theorem pM_22 {d : xD} {v : Int32} : xpI 10 shA d 99 22 v = some (xu d.1 99 22 v, d.2.1, d.2.2) := pI_of sA_99 rfl
theorem pM_23 {d : xD} {v : Int32} : xpI 10 shA d 99 23 v = some (xu d.1 99 23 v, d.2.1, d.2.2) := pI_of sA_99 rfl
theorem pM_24 {d : xD} {v : Int32} : xpI 10 shA d 99 24 v = some (xu d.1 99 24 v, d.2.1, d.2.2) := pI_of sA_99 rfl
theorem pM_25 {d : xD} {v : Int32} : xpI 10 shA d 99 25 v = some (xu d.1 99 25 v, d.2.1, d.2.2) := pI_of sA_99 rfl
theorem pM_26 {d : xD} {v : Int32} : xpI 10 shA d 99 26 v = some (xu d.1 99 26 v, d.2.1, d.2.2) := pI_of sA_99 rfl
theorem pM_27 {d : xD} {v : Int32} : xpI 10 shA d 99 27 v = some (xu d.1 99 27 v, d.2.1, d.2.2) := pI_of sA_99 rfl
theorem pM_28 {d : xD} {v : Int32} : xpI 10 shA d 99 28 v = some (xu d.1 99 28 v, d.2.1, d.2.2) := pI_of sA_99 rfl
theorem pM_29 {d : xD} {v : Int32} : xpI 10 shA d 99 29 v = some (xu d.1 99 29 v, d.2.1, d.2.2) := pI_of sA_99 rfl
theorem pM_30 {d : xD} {v : Int32} : xpI 10 shA d 99 30 v = some (xu d.1 99 30 v, d.2.1, d.2.2) := pI_of sA_99 rfl
theorem pM_31 {d : xD} {v : Int32} : xpI 10 shA d 99 31 v = some (xu d.1 99 31 v, d.2.1, d.2.2) := pI_of sA_99 rfl
theorem pM_34 {d : xD} {v : Int32} : xpI 10 shA d 99 34 v = some (xu d.1 99 34 v, d.2.1, d.2.2) := pI_of sA_99 rfl
theorem pM_49 {d : xD} {v : Int32} : xpI 10 shA d 99 49 v = some (xu d.1 99 49 v, d.2.1, d.2.2) := pI_of sA_99 rfl
theorem pM_50 {d : xD} {v : Int32} : xpI 10 shA d 99 50 v = some (xu d.1 99 50 v, d.2.1, d.2.2) := pI_of sA_99 rfl
theorem pM_51 {d : xD} {v : Int32} : xpI 10 shA d 99 51 v = some (xu d.1 99 51 v, d.2.1, d.2.2) := pI_of sA_99 rfl
theorem pM_52 {d : xD} {v : Int32} : xpI 10 shA d 99 52 v = some (xu d.1 99 52 v, d.2.1, d.2.2) := pI_of sA_99 rfl
theorem pM_53 {d : xD} {v : Int32} : xpI 10 shA d 99 53 v = some (xu d.1 99 53 v, d.2.1, d.2.2) := pI_of sA_99 rfl
theorem pM_54 {d : xD} {v : Int32} : xpI 10 shA d 99 54 v = some (xu d.1 99 54 v, d.2.1, d.2.2) := pI_of sA_99 rfl
theorem pM_55 {d : xD} {v : Int32} : xpI 10 shA d 99 55 v = some (xu d.1 99 55 v, d.2.1, d.2.2) := pI_of sA_99 rfl
theorem pM_57 {d : xD} {v : Int32} : xpI 10 shA d 99 57 v = some (xu d.1 99 57 v, d.2.1, d.2.2) := pI_of sA_99 rfl
theorem pM_58 {d : xD} {v : Int32} : xpI 10 shA d 99 58 v = some (xu d.1 99 58 v, d.2.1, d.2.2) := pI_of sA_99 rfl
/-- the cells of a scene, of a slot -/
def vC (q : Nat) (I : Nat → Nat → Int32) : Nat → Nat → Int32 := fun j k => I (q + j) k
def stj (j : Nat) : Nat := if j < 5 then 1 else if j < 12 then 6 else 8
def vM (s : Nat) (J : Nat → Nat → Int32) : Nat → Nat → Int32 := fun j k => J (119 + j) (stj j * s + k)
theorem vC_xu {q j k : Nat} {I : Nat → Nat → Int32} {v : Int32} : vC q (xu I (q + j) k v) = xu (vC q I) j k v := by
  funext a b
  unfold vC xu
  by_cases h : a = j
  · subst h; simp
  · rw [if_neg (show ¬ q + a = q + j by omega), if_neg h]
theorem vC_xu0 {q k : Nat} {I : Nat → Nat → Int32} {v : Int32} : vC q (xu I q k v) = xu (vC q I) 0 k v := vC_xu (j := 0)
theorem vM_xu {s j k : Nat} {J : Nat → Nat → Int32} {v : Int32} : vM s (xu J (119 + j) (stj j * s + k) v) = xu (vM s J) j k v := by
  funext a b
  unfold vM xu
  by_cases h : a = j
  · subst h
    by_cases h2 : b = k
    · subst h2; simp
    · rw [if_pos rfl, if_pos rfl, if_neg (show ¬ stj a * s + b = stj a * s + k by omega), if_neg h2]
  · rw [if_neg (show ¬ 119 + a = 119 + j by omega), if_neg h]
theorem vM_off {s c k : Nat} {J : Nat → Nat → Int32} {v : Int32} (h : c < 119) : vM s (xu J c k v) = vM s J := by
  funext a b
  unfold vM xu
  rw [if_neg (by omega)]
theorem vM_119 {s : Nat} {J : Nat → Nat → Int32} {v : Int32} : vM s (xu J 119 s v) = xu (vM s J) 0 0 v := by have h := vM_xu (s := s) (j := 0) (k := 0) (J := J) (v := v); rw [show stj 0 * s + 0 = s by simp [stj]] at h; exact h
theorem vM_120 {s : Nat} {J : Nat → Nat → Int32} {v : Int32} : vM s (xu J 120 s v) = xu (vM s J) 1 0 v := by have h := vM_xu (s := s) (j := 1) (k := 0) (J := J) (v := v); rw [show stj 1 * s + 0 = s by simp [stj]] at h; exact h
theorem vM_121 {s : Nat} {J : Nat → Nat → Int32} {v : Int32} : vM s (xu J 121 s v) = xu (vM s J) 2 0 v := by have h := vM_xu (s := s) (j := 2) (k := 0) (J := J) (v := v); rw [show stj 2 * s + 0 = s by simp [stj]] at h; exact h
theorem vM_122 {s : Nat} {J : Nat → Nat → Int32} {v : Int32} : vM s (xu J 122 s v) = xu (vM s J) 3 0 v := by have h := vM_xu (s := s) (j := 3) (k := 0) (J := J) (v := v); rw [show stj 3 * s + 0 = s by simp [stj]] at h; exact h
theorem vM_123 {s : Nat} {J : Nat → Nat → Int32} {v : Int32} : vM s (xu J 123 s v) = xu (vM s J) 4 0 v := by have h := vM_xu (s := s) (j := 4) (k := 0) (J := J) (v := v); rw [show stj 4 * s + 0 = s by simp [stj]] at h; exact h
theorem vM_124 {s k : Nat} {J : Nat → Nat → Int32} {v : Int32} : vM s (xu J 124 (6 * s + k) v) = xu (vM s J) 5 k v := vM_xu (s := s) (j := 5) (k := k) (J := J) (v := v)
theorem vM_125 {s k : Nat} {J : Nat → Nat → Int32} {v : Int32} : vM s (xu J 125 (6 * s + k) v) = xu (vM s J) 6 k v := vM_xu (s := s) (j := 6) (k := k) (J := J) (v := v)
theorem vM_126 {s k : Nat} {J : Nat → Nat → Int32} {v : Int32} : vM s (xu J 126 (6 * s + k) v) = xu (vM s J) 7 k v := vM_xu (s := s) (j := 7) (k := k) (J := J) (v := v)
theorem vM_127 {s k : Nat} {J : Nat → Nat → Int32} {v : Int32} : vM s (xu J 127 (6 * s + k) v) = xu (vM s J) 8 k v := vM_xu (s := s) (j := 8) (k := k) (J := J) (v := v)
theorem vM_128 {s k : Nat} {J : Nat → Nat → Int32} {v : Int32} : vM s (xu J 128 (6 * s + k) v) = xu (vM s J) 9 k v := vM_xu (s := s) (j := 9) (k := k) (J := J) (v := v)
theorem vM_129 {s k : Nat} {J : Nat → Nat → Int32} {v : Int32} : vM s (xu J 129 (6 * s + k) v) = xu (vM s J) 10 k v := vM_xu (s := s) (j := 10) (k := k) (J := J) (v := v)
theorem vM_130 {s k : Nat} {J : Nat → Nat → Int32} {v : Int32} : vM s (xu J 130 (6 * s + k) v) = xu (vM s J) 11 k v := vM_xu (s := s) (j := 11) (k := k) (J := J) (v := v)
theorem vM_131 {s k : Nat} {J : Nat → Nat → Int32} {v : Int32} : vM s (xu J 131 (8 * s + k) v) = xu (vM s J) 12 k v := vM_xu (s := s) (j := 12) (k := k) (J := J) (v := v)
theorem rM_119 {s : Nat} {J : Nat → Nat → Int32} : J 119 s = vM s J 0 0 := by show J 119 s = J 119 (stj 0 * s + 0); rw [show stj 0 * s + 0 = s by simp [stj]]
theorem rM_120 {s : Nat} {J : Nat → Nat → Int32} : J 120 s = vM s J 1 0 := by show J 120 s = J 120 (stj 1 * s + 0); rw [show stj 1 * s + 0 = s by simp [stj]]
theorem rM_121 {s : Nat} {J : Nat → Nat → Int32} : J 121 s = vM s J 2 0 := by show J 121 s = J 121 (stj 2 * s + 0); rw [show stj 2 * s + 0 = s by simp [stj]]
theorem rM_122 {s : Nat} {J : Nat → Nat → Int32} : J 122 s = vM s J 3 0 := by show J 122 s = J 122 (stj 3 * s + 0); rw [show stj 3 * s + 0 = s by simp [stj]]
theorem rM_123 {s : Nat} {J : Nat → Nat → Int32} : J 123 s = vM s J 4 0 := by show J 123 s = J 123 (stj 4 * s + 0); rw [show stj 4 * s + 0 = s by simp [stj]]
theorem rM_124 {s k : Nat} {J : Nat → Nat → Int32} : J 124 (6 * s + k) = vM s J 5 k := rfl
theorem rM_125 {s k : Nat} {J : Nat → Nat → Int32} : J 125 (6 * s + k) = vM s J 6 k := rfl
theorem rM_126 {s k : Nat} {J : Nat → Nat → Int32} : J 126 (6 * s + k) = vM s J 7 k := rfl
theorem rM_127 {s k : Nat} {J : Nat → Nat → Int32} : J 127 (6 * s + k) = vM s J 8 k := rfl
theorem rM_128 {s k : Nat} {J : Nat → Nat → Int32} : J 128 (6 * s + k) = vM s J 9 k := rfl
theorem rM_129 {s k : Nat} {J : Nat → Nat → Int32} : J 129 (6 * s + k) = vM s J 10 k := rfl
theorem rM_130 {s k : Nat} {J : Nat → Nat → Int32} : J 130 (6 * s + k) = vM s J 11 k := rfl
theorem rM_131 {s k : Nat} {J : Nat → Nat → Int32} : J 131 (8 * s + k) = vM s J 12 k := rfl

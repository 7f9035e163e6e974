-- HalfLandingsModel.word()I
theorem dX10_word_0 : decode cX10_word 0 = .ok (.iconst 0, 1) := by decide +kernel
theorem dX10_word_1 : decode cX10_word 1 = .ok (.istore_n 1, 1) := by decide +kernel
theorem dX10_word_2 : decode cX10_word 2 = .ok (.iconst 0, 1) := by decide +kernel
theorem dX10_word_3 : decode cX10_word 3 = .ok (.istore_n 2, 1) := by decide +kernel
theorem dX10_word_4 : decode cX10_word 4 = .ok (.iload_n 2, 1) := by decide +kernel
theorem dX10_word_5 : decode cX10_word 5 = .ok (.ldc 188, 2) := by decide +kernel
theorem dX10_word_7 : decode cX10_word 7 = .ok (.invokevirtual 190, 3) := by decide +kernel
theorem dX10_word_10 : decode cX10_word 10 = .ok (.if_icmp .ge 113, 3) := by decide +kernel
theorem dX10_word_13 : decode cX10_word 13 = .ok (.iconst 0, 1) := by decide +kernel
theorem dX10_word_14 : decode cX10_word 14 = .ok (.istore_n 3, 1) := by decide +kernel
theorem dX10_word_15 : decode cX10_word 15 = .ok (.ldc 188, 2) := by decide +kernel
theorem dX10_word_17 : decode cX10_word 17 = .ok (.iload_n 2, 1) := by decide +kernel
theorem dX10_word_18 : decode cX10_word 18 = .ok (.iload_n 3, 1) := by decide +kernel
theorem dX10_word_19 : decode cX10_word 19 = .ok (.iadd, 1) := by decide +kernel
theorem dX10_word_20 : decode cX10_word 20 = .ok (.invokevirtual 195, 3) := by decide +kernel
theorem dX10_word_23 : decode cX10_word 23 = .ok (.bipush 32, 2) := by decide +kernel
theorem dX10_word_25 : decode cX10_word 25 = .ok (.if_icmp .eq 44, 3) := by decide +kernel
theorem dX10_word_28 : decode cX10_word 28 = .ok (.aload_n 0, 1) := by decide +kernel
theorem dX10_word_29 : decode cX10_word 29 = .ok (.getfield 161, 3) := by decide +kernel
theorem dX10_word_32 : decode cX10_word 32 = .ok (.iload_n 3, 1) := by decide +kernel
theorem dX10_word_33 : decode cX10_word 33 = .ok (.iadd, 1) := by decide +kernel
theorem dX10_word_34 : decode cX10_word 34 = .ok (.aload_n 0, 1) := by decide +kernel
theorem dX10_word_35 : decode cX10_word 35 = .ok (.getfield 151, 3) := by decide +kernel
theorem dX10_word_38 : decode cX10_word 38 = .ok (.if_icmp .ge 31, 3) := by decide +kernel
theorem dX10_word_41 : decode cX10_word 41 = .ok (.aload_n 0, 1) := by decide +kernel
theorem dX10_word_42 : decode cX10_word 42 = .ok (.getfield 7, 3) := by decide +kernel
theorem dX10_word_45 : decode cX10_word 45 = .ok (.aload_n 0, 1) := by decide +kernel
theorem dX10_word_46 : decode cX10_word 46 = .ok (.getfield 161, 3) := by decide +kernel
theorem dX10_word_49 : decode cX10_word 49 = .ok (.iload_n 3, 1) := by decide +kernel
theorem dX10_word_50 : decode cX10_word 50 = .ok (.iadd, 1) := by decide +kernel
theorem dX10_word_51 : decode cX10_word 51 = .ok (.iaload, 1) := by decide +kernel
theorem dX10_word_52 : decode cX10_word 52 = .ok (.ldc 188, 2) := by decide +kernel
theorem dX10_word_54 : decode cX10_word 54 = .ok (.iload_n 2, 1) := by decide +kernel
theorem dX10_word_55 : decode cX10_word 55 = .ok (.iload_n 3, 1) := by decide +kernel
theorem dX10_word_56 : decode cX10_word 56 = .ok (.iadd, 1) := by decide +kernel
theorem dX10_word_57 : decode cX10_word 57 = .ok (.invokevirtual 195, 3) := by decide +kernel
theorem dX10_word_60 : decode cX10_word 60 = .ok (.if_icmp .ne 9, 3) := by decide +kernel
theorem dX10_word_63 : decode cX10_word 63 = .ok (.iinc 3 1, 3) := by decide +kernel
theorem dX10_word_66 : decode cX10_word 66 = .ok (.goto (-51), 3) := by decide +kernel
theorem dX10_word_69 : decode cX10_word 69 = .ok (.ldc 188, 2) := by decide +kernel
theorem dX10_word_71 : decode cX10_word 71 = .ok (.iload_n 2, 1) := by decide +kernel
theorem dX10_word_72 : decode cX10_word 72 = .ok (.iload_n 3, 1) := by decide +kernel
theorem dX10_word_73 : decode cX10_word 73 = .ok (.iadd, 1) := by decide +kernel
theorem dX10_word_74 : decode cX10_word 74 = .ok (.invokevirtual 195, 3) := by decide +kernel
theorem dX10_word_77 : decode cX10_word 77 = .ok (.bipush 32, 2) := by decide +kernel
theorem dX10_word_79 : decode cX10_word 79 = .ok (.if_icmp .ne 18, 3) := by decide +kernel
theorem dX10_word_82 : decode cX10_word 82 = .ok (.aload_n 0, 1) := by decide +kernel
theorem dX10_word_83 : decode cX10_word 83 = .ok (.getfield 161, 3) := by decide +kernel
theorem dX10_word_86 : decode cX10_word 86 = .ok (.iload_n 3, 1) := by decide +kernel
theorem dX10_word_87 : decode cX10_word 87 = .ok (.iadd, 1) := by decide +kernel
theorem dX10_word_88 : decode cX10_word 88 = .ok (.aload_n 0, 1) := by decide +kernel
theorem dX10_word_89 : decode cX10_word 89 = .ok (.getfield 151, 3) := by decide +kernel
theorem dX10_word_92 : decode cX10_word 92 = .ok (.if_icmp .ne 5, 3) := by decide +kernel
theorem dX10_word_95 : decode cX10_word 95 = .ok (.iload_n 1, 1) := by decide +kernel
theorem dX10_word_96 : decode cX10_word 96 = .ok (.ireturn, 1) := by decide +kernel
theorem dX10_word_97 : decode cX10_word 97 = .ok (.ldc 188, 2) := by decide +kernel
theorem dX10_word_99 : decode cX10_word 99 = .ok (.iload_n 2, 1) := by decide +kernel
theorem dX10_word_100 : decode cX10_word 100 = .ok (.invokevirtual 195, 3) := by decide +kernel
theorem dX10_word_103 : decode cX10_word 103 = .ok (.bipush 32, 2) := by decide +kernel
theorem dX10_word_105 : decode cX10_word 105 = .ok (.if_icmp .eq 9, 3) := by decide +kernel
theorem dX10_word_108 : decode cX10_word 108 = .ok (.iinc 2 1, 3) := by decide +kernel
theorem dX10_word_111 : decode cX10_word 111 = .ok (.goto (-14), 3) := by decide +kernel
theorem dX10_word_114 : decode cX10_word 114 = .ok (.iinc 2 1, 3) := by decide +kernel
theorem dX10_word_117 : decode cX10_word 117 = .ok (.iinc 1 1, 3) := by decide +kernel
theorem dX10_word_120 : decode cX10_word 120 = .ok (.goto (-116), 3) := by decide +kernel
theorem dX10_word_123 : decode cX10_word 123 = .ok (.iconst (-1), 1) := by decide +kernel
theorem dX10_word_124 : decode cX10_word 124 = .ok (.ireturn, 1) := by decide +kernel
theorem hd_X10_word : yX10_word.cls = xCn 10 ∧ yX10_word.cls ≠ "java/lang/invoke/MethodHandle" ∧ yX10_word.cls ≠ "java/lang/invoke/VarHandle" ∧ (parseMethodDescriptor yX10_word.desc).map (fun d => d.parameters.length) = some 0 := by decide +kernel
def k_X10_word_123 (sh : List xSh) (d : xD) : Option (Int32 × xD) :=
  some ((-1 : Int32), d)
def k_X10_word_114 (sh : List xSh) (rec4 : Nat → Int32 → Int32 → xD → Option (Int32 × xD)) (q0 : Nat) (x1 : Int32) (x2 : Int32) (d : xD) : Option (Int32 × xD) :=
  rec4 q0 (x1 + 1) (x2 + 1) d
def b_X10_word_97 (sh : List xSh) (rec4 : Nat → Int32 → Int32 → xD → Option (Int32 × xD)) (rec97 : Nat → Int32 → Int32 → xD → Option (Int32 × xD)) (q0 : Nat) (x1 : Int32) (x2 : Int32) (d : xD) : Option (Int32 × xD) :=
  (xch x2).bind fun v1 => if v1 = (32 : Int32) then (k_X10_word_114 sh rec4 q0 x1 x2 d) else (rec97 q0 x1 (x2 + 1) d)
def k_X10_word_95 (sh : List xSh) (x1 : Int32) (d : xD) : Option (Int32 × xD) :=
  some (x1, d)
def k_X10_word_69 (sh : List xSh) (rec4 : Nat → Int32 → Int32 → xD → Option (Int32 × xD)) (q0 : Nat) (x1 : Int32) (x2 : Int32) (x3 : Int32) (d : xD) : Option (Int32 × xD) :=
  (xch (x2 + x3)).bind fun v2 => if v2 = (32 : Int32) then ((xgI 10 sh d q0 23).bind fun v3 => (xgI 10 sh d q0 22).bind fun v4 => if (v3 + x3) = v4 then (k_X10_word_95 sh x1 d) else (xloop (fun _ _ _ _ => none) (b_X10_word_97 sh rec4) xF q0 x1 x2 d)) else (xloop (fun _ _ _ _ => none) (b_X10_word_97 sh rec4) xF q0 x1 x2 d)
def b_X10_word_15 (sh : List xSh) (rec4 : Nat → Int32 → Int32 → xD → Option (Int32 × xD)) (rec15 : Nat → Int32 → Int32 → Int32 → xD → Option (Int32 × xD)) (q0 : Nat) (x1 : Int32) (x2 : Int32) (x3 : Int32) (d : xD) : Option (Int32 × xD) :=
  (xch (x2 + x3)).bind fun v5 => if v5 = (32 : Int32) then (k_X10_word_69 sh rec4 q0 x1 x2 x3 d) else ((xgI 10 sh d q0 23).bind fun v6 => (xgI 10 sh d q0 22).bind fun v7 => if v7 ≤ (v6 + x3) then (k_X10_word_69 sh rec4 q0 x1 x2 x3 d) else ((xgR 10 sh d q0 1).bind fun v8 => (xgI 10 sh d q0 23).bind fun v9 => (xaI .int sh d v8 (v9 + x3)).bind fun v10 => (xch (x2 + x3)).bind fun v11 => if v10 = v11 then (rec15 q0 x1 x2 (x3 + 1) d) else (k_X10_word_69 sh rec4 q0 x1 x2 x3 d)))
def b_X10_word_4 (sh : List xSh) (rec4 : Nat → Int32 → Int32 → xD → Option (Int32 × xD)) (q0 : Nat) (x1 : Int32) (x2 : Int32) (d : xD) : Option (Int32 × xD) :=
  if (104 : Int32) ≤ x2 then (k_X10_word_123 sh d) else (xloop (fun _ _ _ _ _ => none) (b_X10_word_15 sh rec4) xF q0 x1 x2 (0 : Int32) d)
def f_X10_word (sh : List xSh) (q0 : Nat) (d : xD) : Option (Int32 × xD) :=
  xloop (fun _ _ _ _ => none) (b_X10_word_4 sh) xF q0 (0 : Int32) (0 : Int32) d
set_option maxHeartbeats 4000000 in
set_option maxRecDepth 100000 in
theorem mt_X10_word (l : Launch) (D : va_G) (cid : FieldType → ClassId) (b : Nat) (ex : Bool) (sa sv B0 : Nat) (sh : List xSh) (q0 : Nat) (d : xD) (r : Int32) (dz : xD) (hf : f_X10_word sh q0 d = some (r, dz)) : xMet l yX10_word cX10_word 4 (some .int) 4 0 0 D cid b ex sa sv B0 [.ref (b + q0)] sh d (some (.int r)) sh dz := by
  refine xMet.of (by decide) (Nat.le_of_ble_eq_true rfl) ?_
  intro p e s m below meth c ls A S hr hin G hl
  have hl : lv_has ls 4 [(0, .ref (b + q0))] := hl
  generalize ([.ref (b + q0)] : List Value).toArray = av at S ⊢
  have hx := S.1
  have hb := S.2.1
  have hml := S.2.2.1
  have hown := S.2.2.2.1
  have hts := S.2.2.2.2.1
  have hstrT := S.2.2.2.2.2.2.2.2.1.1
  have hstrM := S.2.2.2.2.2.2.2.2.1.2.1
  have K123 : ∀ (d : xD), k_X10_word_123 sh d = some (r, dz) → ∀ (H : Heap) (locs : List Loc) (ls : Array Slot), lv_has ls 4 [] → xG D cid b A sh d s H locs → W p l e (xRm 4 0 0) s m av below meth c H locs 0 0 (MQ below (xQ D cid b ex A (some (.int r)) sh dz) av s 0 0 A) (F0 m 123 ls []) := by
    intro d hf H locs ls hl G
    unfold k_X10_word_123 at hf
    refine lv_iconst (v := (-1 : Int32)) hx hb dX10_word_123 (by decide) ?_
    cases hf
    exact xr_iret S G (fun _ => rfl) hr dX10_word_124
  have K114 : ∀ (rec4 : Nat → Int32 → Int32 → xD → Option (Int32 × xD)) (hrec4 : ∀ (q0 : Nat) (x1 : Int32) (x2 : Int32) (d : xD), rec4 q0 x1 x2 d = some (r, dz) → ∀ (H : Heap) (locs : List Loc) (ls : Array Slot), lv_has ls 4 [(0, .ref (b + q0)), (1, .int x1), (2, .int x2)] → xG D cid b A sh d s H locs → W p l e (xRm 4 0 0) s m av below meth c H locs 0 0 (MQ below (xQ D cid b ex A (some (.int r)) sh dz) av s 0 0 A) (F0 m 4 ls [])) (q0 : Nat) (x1 : Int32) (x2 : Int32) (d : xD), k_X10_word_114 sh rec4 q0 x1 x2 d = some (r, dz) → ∀ (H : Heap) (locs : List Loc) (ls : Array Slot), lv_has ls 4 [(0, .ref (b + q0)), (1, .int x1), (2, .int x2)] → xG D cid b A sh d s H locs → W p l e (xRm 4 0 0) s m av below meth c H locs 0 0 (MQ below (xQ D cid b ex A (some (.int r)) sh dz) av s 0 0 A) (F0 m 114 ls []) := by
    intro rec4 hrec4 q0 x1 x2 d hf H locs ls hl G
    unfold k_X10_word_114 at hf
    refine lv_iinc (v := (x2 + 1)) (lv' := [(2, .int (x2 + 1)), (0, .ref (b + q0)), (1, .int x1)]) hx hb dX10_word_114 hl (k := 2) rfl rfl (by decide) rfl (fun ls hl => ?_)
    refine lv_iinc (v := (x1 + 1)) (lv' := [(1, .int (x1 + 1)), (2, .int (x2 + 1)), (0, .ref (b + q0))]) hx hb dX10_word_117 hl (k := 2) rfl rfl (by decide) rfl (fun ls hl => ?_)
    refine lv_goto (tgt := 4) hx hb dX10_word_120 (by decide) ?_
    exact hrec4 q0 (x1 + 1) (x2 + 1) d hf _ _ ls (lv_sub hl [2, 0, 1] rfl) G
  have K97 : ∀ (rec4 : Nat → Int32 → Int32 → xD → Option (Int32 × xD)) (hrec4 : ∀ (q0 : Nat) (x1 : Int32) (x2 : Int32) (d : xD), rec4 q0 x1 x2 d = some (r, dz) → ∀ (H : Heap) (locs : List Loc) (ls : Array Slot), lv_has ls 4 [(0, .ref (b + q0)), (1, .int x1), (2, .int x2)] → xG D cid b A sh d s H locs → W p l e (xRm 4 0 0) s m av below meth c H locs 0 0 (MQ below (xQ D cid b ex A (some (.int r)) sh dz) av s 0 0 A) (F0 m 4 ls [])) (n : Nat) (q0 : Nat) (x1 : Int32) (x2 : Int32) (d : xD), xloop (fun _ _ _ _ => none) (b_X10_word_97 sh rec4) n q0 x1 x2 d = some (r, dz) → ∀ (H : Heap) (locs : List Loc) (ls : Array Slot), lv_has ls 4 [(0, .ref (b + q0)), (1, .int x1), (2, .int x2)] → xG D cid b A sh d s H locs → W p l e (xRm 4 0 0) s m av below meth c H locs 0 0 (MQ below (xQ D cid b ex A (some (.int r)) sh dz) av s 0 0 A) (F0 m 97 ls []) := by
    intro rec4 hrec4 n
    induction n with
    | zero =>
      intro q0 x1 x2 d hf
      have hf : (none : Option (Int32 × xD)) = some (r, dz) := hf
      cases hf
    | succ n hrec97 =>
      intro q0 x1 x2 d hf H locs ls hl G
      have hf : b_X10_word_97 sh rec4 (xloop (fun _ _ _ _ => none) (b_X10_word_97 sh rec4) n) q0 x1 x2 d = some (r, dz) := hf
      unfold b_X10_word_97 at hf
      refine va_ldcS hx hb hown hstrM dX10_word_97 ?_
      refine lv_iload_n hx hb dX10_word_99 rfl (lv_at hl 2 rfl) ?_
      obtain ⟨v1, hv1, hf⟩ := x_ob hf
      refine xr_charAt S G hl.1 (fun _ => rfl) hv1 kw_1397 ⟨Nat.le_of_ble_eq_true rfl, Nat.le_of_ble_eq_true rfl⟩ (Nat.le_of_ble_eq_true rfl) ⟨Nat.le_refl _, Nat.le_refl _⟩ dX10_word_100 (fun H locs G => ?_)
      refine lv_bipush (v := (32 : Int32)) hx hb dX10_word_103 (by decide) ?_
      refine lv_icmp_eq (tgt := 114) hx hb dX10_word_105 (by decide) (fun c => ?_) (fun c => ?_)
      · have hf := x_pos c hf
        exact K114 _ hrec4 q0 x1 x2 d hf _ _ ls (lv_sub hl [0, 1, 2] rfl) G
      · have hf := x_neg c hf
        refine lv_iinc (v := (x2 + 1)) (lv' := [(2, .int (x2 + 1)), (0, .ref (b + q0)), (1, .int x1)]) hx hb dX10_word_108 hl (k := 2) rfl rfl (by decide) rfl (fun ls hl => ?_)
        refine lv_goto (tgt := 97) hx hb dX10_word_111 (by decide) ?_
        exact hrec97 q0 x1 (x2 + 1) d hf _ _ ls (lv_sub hl [1, 2, 0] rfl) G
  have K95 : ∀ (x1 : Int32) (d : xD), k_X10_word_95 sh x1 d = some (r, dz) → ∀ (H : Heap) (locs : List Loc) (ls : Array Slot), lv_has ls 4 [(1, .int x1)] → xG D cid b A sh d s H locs → W p l e (xRm 4 0 0) s m av below meth c H locs 0 0 (MQ below (xQ D cid b ex A (some (.int r)) sh dz) av s 0 0 A) (F0 m 95 ls []) := by
    intro x1 d hf H locs ls hl G
    unfold k_X10_word_95 at hf
    refine lv_iload_n hx hb dX10_word_95 rfl (lv_at hl 0 rfl) ?_
    cases hf
    exact xr_iret S G (fun _ => rfl) hr dX10_word_96
  have K69 : ∀ (rec4 : Nat → Int32 → Int32 → xD → Option (Int32 × xD)) (hrec4 : ∀ (q0 : Nat) (x1 : Int32) (x2 : Int32) (d : xD), rec4 q0 x1 x2 d = some (r, dz) → ∀ (H : Heap) (locs : List Loc) (ls : Array Slot), lv_has ls 4 [(0, .ref (b + q0)), (1, .int x1), (2, .int x2)] → xG D cid b A sh d s H locs → W p l e (xRm 4 0 0) s m av below meth c H locs 0 0 (MQ below (xQ D cid b ex A (some (.int r)) sh dz) av s 0 0 A) (F0 m 4 ls [])) (q0 : Nat) (x1 : Int32) (x2 : Int32) (x3 : Int32) (d : xD), k_X10_word_69 sh rec4 q0 x1 x2 x3 d = some (r, dz) → ∀ (H : Heap) (locs : List Loc) (ls : Array Slot), lv_has ls 4 [(0, .ref (b + q0)), (1, .int x1), (2, .int x2), (3, .int x3)] → xG D cid b A sh d s H locs → W p l e (xRm 4 0 0) s m av below meth c H locs 0 0 (MQ below (xQ D cid b ex A (some (.int r)) sh dz) av s 0 0 A) (F0 m 69 ls []) := by
    intro rec4 hrec4 q0 x1 x2 x3 d hf H locs ls hl G
    unfold k_X10_word_69 at hf
    refine va_ldcS hx hb hown hstrM dX10_word_69 ?_
    refine lv_iload_n hx hb dX10_word_71 rfl (lv_at hl 2 rfl) ?_
    refine lv_iload_n hx hb dX10_word_72 rfl (lv_at hl 3 rfl) ?_
    refine lv_iadd hx hb dX10_word_73 ?_
    obtain ⟨v2, hv2, hf⟩ := x_ob hf
    refine xr_charAt S G hl.1 (fun _ => rfl) hv2 kw_1397 ⟨Nat.le_of_ble_eq_true rfl, Nat.le_of_ble_eq_true rfl⟩ (Nat.le_of_ble_eq_true rfl) ⟨Nat.le_refl _, Nat.le_refl _⟩ dX10_word_74 (fun H locs G => ?_)
    refine lv_bipush (v := (32 : Int32)) hx hb dX10_word_77 (by decide) ?_
    refine lv_icmp_ne (tgt := 97) hx hb dX10_word_79 (by decide) (fun c => ?_) (fun c => ?_)
    · have hf := x_neg c hf
      exact K97 _ hrec4 xF q0 x1 x2 d hf _ _ ls (lv_sub hl [0, 1, 2] rfl) G
    · have hf := x_pos c hf
      refine lv_aload_n hx hb dX10_word_82 rfl (lv_at hl 0 rfl) ?_
      obtain ⟨v3, hv3, hf⟩ := x_ob hf
      refine xr_getI (ci := 10) (k := 23) S G hv3 rfl kw_1191 dX10_word_83 ?_
      refine lv_iload_n hx hb dX10_word_86 rfl (lv_at hl 3 rfl) ?_
      refine lv_iadd hx hb dX10_word_87 ?_
      refine lv_aload_n hx hb dX10_word_88 rfl (lv_at hl 0 rfl) ?_
      obtain ⟨v4, hv4, hf⟩ := x_ob hf
      refine xr_getI (ci := 10) (k := 22) S G hv4 rfl kw_1190 dX10_word_89 ?_
      refine lv_icmp_ne (tgt := 97) hx hb dX10_word_92 (by decide) (fun c => ?_) (fun c => ?_)
      · have hf := x_neg c hf
        exact K97 _ hrec4 xF q0 x1 x2 d hf _ _ ls (lv_sub hl [0, 1, 2] rfl) G
      · have hf := x_pos c hf
        exact K95 x1 d hf _ _ ls (lv_sub hl [1] rfl) G
  have K15 : ∀ (rec4 : Nat → Int32 → Int32 → xD → Option (Int32 × xD)) (hrec4 : ∀ (q0 : Nat) (x1 : Int32) (x2 : Int32) (d : xD), rec4 q0 x1 x2 d = some (r, dz) → ∀ (H : Heap) (locs : List Loc) (ls : Array Slot), lv_has ls 4 [(0, .ref (b + q0)), (1, .int x1), (2, .int x2)] → xG D cid b A sh d s H locs → W p l e (xRm 4 0 0) s m av below meth c H locs 0 0 (MQ below (xQ D cid b ex A (some (.int r)) sh dz) av s 0 0 A) (F0 m 4 ls [])) (n : Nat) (q0 : Nat) (x1 : Int32) (x2 : Int32) (x3 : Int32) (d : xD), xloop (fun _ _ _ _ _ => none) (b_X10_word_15 sh rec4) n q0 x1 x2 x3 d = some (r, dz) → ∀ (H : Heap) (locs : List Loc) (ls : Array Slot), lv_has ls 4 [(0, .ref (b + q0)), (1, .int x1), (2, .int x2), (3, .int x3)] → xG D cid b A sh d s H locs → W p l e (xRm 4 0 0) s m av below meth c H locs 0 0 (MQ below (xQ D cid b ex A (some (.int r)) sh dz) av s 0 0 A) (F0 m 15 ls []) := by
    intro rec4 hrec4 n
    induction n with
    | zero =>
      intro q0 x1 x2 x3 d hf
      have hf : (none : Option (Int32 × xD)) = some (r, dz) := hf
      cases hf
    | succ n hrec15 =>
      intro q0 x1 x2 x3 d hf H locs ls hl G
      have hf : b_X10_word_15 sh rec4 (xloop (fun _ _ _ _ _ => none) (b_X10_word_15 sh rec4) n) q0 x1 x2 x3 d = some (r, dz) := hf
      unfold b_X10_word_15 at hf
      refine va_ldcS hx hb hown hstrM dX10_word_15 ?_
      refine lv_iload_n hx hb dX10_word_17 rfl (lv_at hl 2 rfl) ?_
      refine lv_iload_n hx hb dX10_word_18 rfl (lv_at hl 3 rfl) ?_
      refine lv_iadd hx hb dX10_word_19 ?_
      obtain ⟨v5, hv5, hf⟩ := x_ob hf
      refine xr_charAt S G hl.1 (fun _ => rfl) hv5 kw_1397 ⟨Nat.le_of_ble_eq_true rfl, Nat.le_of_ble_eq_true rfl⟩ (Nat.le_of_ble_eq_true rfl) ⟨Nat.le_refl _, Nat.le_refl _⟩ dX10_word_20 (fun H locs G => ?_)
      refine lv_bipush (v := (32 : Int32)) hx hb dX10_word_23 (by decide) ?_
      refine lv_icmp_eq (tgt := 69) hx hb dX10_word_25 (by decide) (fun c => ?_) (fun c => ?_)
      · have hf := x_pos c hf
        exact K69 _ hrec4 q0 x1 x2 x3 d hf _ _ ls (lv_sub hl [0, 1, 2, 3] rfl) G
      · have hf := x_neg c hf
        refine lv_aload_n hx hb dX10_word_28 rfl (lv_at hl 0 rfl) ?_
        obtain ⟨v6, hv6, hf⟩ := x_ob hf
        refine xr_getI (ci := 10) (k := 23) S G hv6 rfl kw_1191 dX10_word_29 ?_
        refine lv_iload_n hx hb dX10_word_32 rfl (lv_at hl 3 rfl) ?_
        refine lv_iadd hx hb dX10_word_33 ?_
        refine lv_aload_n hx hb dX10_word_34 rfl (lv_at hl 0 rfl) ?_
        obtain ⟨v7, hv7, hf⟩ := x_ob hf
        refine xr_getI (ci := 10) (k := 22) S G hv7 rfl kw_1190 dX10_word_35 ?_
        refine lv_icmp_ge (tgt := 69) hx hb dX10_word_38 (by decide) (fun c => ?_) (fun c => ?_)
        · have hf := x_pos c hf
          exact K69 _ hrec4 q0 x1 x2 x3 d hf _ _ ls (lv_sub hl [0, 1, 2, 3] rfl) G
        · have hf := x_neg c hf
          refine lv_aload_n hx hb dX10_word_41 rfl (lv_at hl 0 rfl) ?_
          obtain ⟨v8, hv8, hf⟩ := x_ob hf
          refine xr_getR (ci := 10) (k := 1) S G hv8 rfl kw_1169 dX10_word_42 ?_
          refine lv_aload_n hx hb dX10_word_45 rfl (lv_at hl 0 rfl) ?_
          obtain ⟨v9, hv9, hf⟩ := x_ob hf
          refine xr_getI (ci := 10) (k := 23) S G hv9 rfl kw_1191 dX10_word_46 ?_
          refine lv_iload_n hx hb dX10_word_49 rfl (lv_at hl 3 rfl) ?_
          refine lv_iadd hx hb dX10_word_50 ?_
          obtain ⟨v10, hv10, hf⟩ := x_ob hf
          refine xr_iald S G hv10 dX10_word_51 ?_
          refine va_ldcS hx hb hown hstrM dX10_word_52 ?_
          refine lv_iload_n hx hb dX10_word_54 rfl (lv_at hl 2 rfl) ?_
          refine lv_iload_n hx hb dX10_word_55 rfl (lv_at hl 3 rfl) ?_
          refine lv_iadd hx hb dX10_word_56 ?_
          obtain ⟨v11, hv11, hf⟩ := x_ob hf
          refine xr_charAt S G hl.1 (fun _ => rfl) hv11 kw_1397 ⟨Nat.le_of_ble_eq_true rfl, Nat.le_of_ble_eq_true rfl⟩ (Nat.le_of_ble_eq_true rfl) ⟨Nat.le_refl _, Nat.le_refl _⟩ dX10_word_57 (fun H locs G => ?_)
          refine lv_icmp_ne (tgt := 69) hx hb dX10_word_60 (by decide) (fun c => ?_) (fun c => ?_)
          · have hf := x_neg c hf
            exact K69 _ hrec4 q0 x1 x2 x3 d hf _ _ ls (lv_sub hl [0, 1, 2, 3] rfl) G
          · have hf := x_pos c hf
            refine lv_iinc (v := (x3 + 1)) (lv' := [(3, .int (x3 + 1)), (0, .ref (b + q0)), (1, .int x1), (2, .int x2)]) hx hb dX10_word_63 hl (k := 3) rfl rfl (by decide) rfl (fun ls hl => ?_)
            refine lv_goto (tgt := 15) hx hb dX10_word_66 (by decide) ?_
            exact hrec15 q0 x1 x2 (x3 + 1) d hf _ _ ls (lv_sub hl [1, 2, 3, 0] rfl) G
  have K4 : ∀ (n : Nat) (q0 : Nat) (x1 : Int32) (x2 : Int32) (d : xD), xloop (fun _ _ _ _ => none) (b_X10_word_4 sh) n q0 x1 x2 d = some (r, dz) → ∀ (H : Heap) (locs : List Loc) (ls : Array Slot), lv_has ls 4 [(0, .ref (b + q0)), (1, .int x1), (2, .int x2)] → xG D cid b A sh d s H locs → W p l e (xRm 4 0 0) s m av below meth c H locs 0 0 (MQ below (xQ D cid b ex A (some (.int r)) sh dz) av s 0 0 A) (F0 m 4 ls []) := by
    intro n
    induction n with
    | zero =>
      intro q0 x1 x2 d hf
      have hf : (none : Option (Int32 × xD)) = some (r, dz) := hf
      cases hf
    | succ n hrec4 =>
      intro q0 x1 x2 d hf H locs ls hl G
      have hf : b_X10_word_4 sh (xloop (fun _ _ _ _ => none) (b_X10_word_4 sh) n) q0 x1 x2 d = some (r, dz) := hf
      unfold b_X10_word_4 at hf
      refine lv_iload_n hx hb dX10_word_4 rfl (lv_at hl 2 rfl) ?_
      refine va_ldcS hx hb hown hstrM dX10_word_5 ?_
      refine xr_strlen S G hl.1 (fun _ => rfl) kw_1396 ⟨Nat.le_of_ble_eq_true rfl, Nat.le_of_ble_eq_true rfl⟩ (Nat.le_of_ble_eq_true rfl) ⟨Nat.le_refl _, Nat.le_refl _⟩ dX10_word_7 (fun H locs G => ?_)
      refine lv_icmp_ge (tgt := 123) hx hb dX10_word_10 (by decide) (fun c => ?_) (fun c => ?_)
      · have hf := x_pos c hf
        exact K123 d hf _ _ ls (lv_sub hl [] rfl) G
      · have hf := x_neg c hf
        refine lv_iconst (v := (0 : Int32)) hx hb dX10_word_13 (by decide) ?_
        refine lv_istore_n (lv' := [(3, .int (0 : Int32)), (0, .ref (b + q0)), (1, .int x1), (2, .int x2)]) hx hb dX10_word_14 rfl hl (by decide) rfl (fun ls hl => ?_)
        exact K15 _ hrec4 xF q0 x1 x2 (0 : Int32) d hf _ _ ls (lv_sub hl [1, 2, 3, 0] rfl) G
  unfold f_X10_word at hf
  refine lv_iconst (v := (0 : Int32)) hx hb dX10_word_0 (by decide) ?_
  refine lv_istore_n (lv' := [(1, .int (0 : Int32)), (0, .ref (b + q0))]) hx hb dX10_word_1 rfl hl (by decide) rfl (fun ls hl => ?_)
  refine lv_iconst (v := (0 : Int32)) hx hb dX10_word_2 (by decide) ?_
  refine lv_istore_n (lv' := [(2, .int (0 : Int32)), (1, .int (0 : Int32)), (0, .ref (b + q0))]) hx hb dX10_word_3 rfl hl (by decide) rfl (fun ls hl => ?_)
  exact K4 xF q0 (0 : Int32) (0 : Int32) d hf _ _ ls (lv_sub hl [2, 1, 0] rfl) G
-- HalfLandingsModel.token()V
theorem dX10_token_0 : decode cX10_token 0 = .ok (.aload_n 0, 1) := by decide +kernel
theorem dX10_token_1 : decode cX10_token 1 = .ok (.invokevirtual 157, 3) := by decide +kernel
theorem dX10_token_4 : decode cX10_token 4 = .ok (.bipush 10, 2) := by decide +kernel
theorem dX10_token_6 : decode cX10_token 6 = .ok (.if_icmp .eq 12, 3) := by decide +kernel
theorem dX10_token_9 : decode cX10_token 9 = .ok (.aload_n 0, 1) := by decide +kernel
theorem dX10_token_10 : decode cX10_token 10 = .ok (.invokevirtual 157, 3) := by decide +kernel
theorem dX10_token_13 : decode cX10_token 13 = .ok (.bipush 32, 2) := by decide +kernel
theorem dX10_token_15 : decode cX10_token 15 = .ok (.if_icmp .ne 16, 3) := by decide +kernel
theorem dX10_token_18 : decode cX10_token 18 = .ok (.aload_n 0, 1) := by decide +kernel
theorem dX10_token_19 : decode cX10_token 19 = .ok (.dup, 1) := by decide +kernel
theorem dX10_token_20 : decode cX10_token 20 = .ok (.getfield 151, 3) := by decide +kernel
theorem dX10_token_23 : decode cX10_token 23 = .ok (.iconst 1, 1) := by decide +kernel
theorem dX10_token_24 : decode cX10_token 24 = .ok (.iadd, 1) := by decide +kernel
theorem dX10_token_25 : decode cX10_token 25 = .ok (.putfield 151, 3) := by decide +kernel
theorem dX10_token_28 : decode cX10_token 28 = .ok (.goto (-28), 3) := by decide +kernel
theorem dX10_token_31 : decode cX10_token 31 = .ok (.aload_n 0, 1) := by decide +kernel
theorem dX10_token_32 : decode cX10_token 32 = .ok (.aload_n 0, 1) := by decide +kernel
theorem dX10_token_33 : decode cX10_token 33 = .ok (.getfield 151, 3) := by decide +kernel
theorem dX10_token_36 : decode cX10_token 36 = .ok (.putfield 161, 3) := by decide +kernel
theorem dX10_token_39 : decode cX10_token 39 = .ok (.aload_n 0, 1) := by decide +kernel
theorem dX10_token_40 : decode cX10_token 40 = .ok (.invokevirtual 157, 3) := by decide +kernel
theorem dX10_token_43 : decode cX10_token 43 = .ok (.istore_n 1, 1) := by decide +kernel
theorem dX10_token_44 : decode cX10_token 44 = .ok (.iload_n 1, 1) := by decide +kernel
theorem dX10_token_45 : decode cX10_token 45 = .ok (.iconst (-1), 1) := by decide +kernel
theorem dX10_token_46 : decode cX10_token 46 = .ok (.if_icmp .ne 11, 3) := by decide +kernel
theorem dX10_token_49 : decode cX10_token 49 = .ok (.aload_n 0, 1) := by decide +kernel
theorem dX10_token_50 : decode cX10_token 50 = .ok (.iconst 4, 1) := by decide +kernel
theorem dX10_token_51 : decode cX10_token 51 = .ok (.putfield 164, 3) := by decide +kernel
theorem dX10_token_54 : decode cX10_token 54 = .ok (.goto 171, 3) := by decide +kernel
theorem dX10_token_57 : decode cX10_token 57 = .ok (.iload_n 1, 1) := by decide +kernel
theorem dX10_token_58 : decode cX10_token 58 = .ok (.invokestatic 167, 3) := by decide +kernel
theorem dX10_token_61 : decode cX10_token 61 = .ok (.ifCond .eq 84, 3) := by decide +kernel
theorem dX10_token_64 : decode cX10_token 64 = .ok (.aload_n 0, 1) := by decide +kernel
theorem dX10_token_65 : decode cX10_token 65 = .ok (.invokevirtual 157, 3) := by decide +kernel
theorem dX10_token_68 : decode cX10_token 68 = .ok (.invokestatic 167, 3) := by decide +kernel
theorem dX10_token_71 : decode cX10_token 71 = .ok (.ifCond .eq 16, 3) := by decide +kernel
theorem dX10_token_74 : decode cX10_token 74 = .ok (.aload_n 0, 1) := by decide +kernel
theorem dX10_token_75 : decode cX10_token 75 = .ok (.dup, 1) := by decide +kernel
theorem dX10_token_76 : decode cX10_token 76 = .ok (.getfield 151, 3) := by decide +kernel
theorem dX10_token_79 : decode cX10_token 79 = .ok (.iconst 1, 1) := by decide +kernel
theorem dX10_token_80 : decode cX10_token 80 = .ok (.iadd, 1) := by decide +kernel
theorem dX10_token_81 : decode cX10_token 81 = .ok (.putfield 151, 3) := by decide +kernel
theorem dX10_token_84 : decode cX10_token 84 = .ok (.goto (-20), 3) := by decide +kernel
theorem dX10_token_87 : decode cX10_token 87 = .ok (.aload_n 0, 1) := by decide +kernel
theorem dX10_token_88 : decode cX10_token 88 = .ok (.aload_n 0, 1) := by decide +kernel
theorem dX10_token_89 : decode cX10_token 89 = .ok (.invokevirtual 171, 3) := by decide +kernel
theorem dX10_token_92 : decode cX10_token 92 = .ok (.putfield 174, 3) := by decide +kernel
theorem dX10_token_95 : decode cX10_token 95 = .ok (.aload_n 0, 1) := by decide +kernel
theorem dX10_token_96 : decode cX10_token 96 = .ok (.aload_n 0, 1) := by decide +kernel
theorem dX10_token_97 : decode cX10_token 97 = .ok (.getfield 174, 3) := by decide +kernel
theorem dX10_token_100 : decode cX10_token 100 = .ok (.iconst (-1), 1) := by decide +kernel
theorem dX10_token_101 : decode cX10_token 101 = .ok (.if_icmp .eq 7, 3) := by decide +kernel
theorem dX10_token_104 : decode cX10_token 104 = .ok (.iconst 0, 1) := by decide +kernel
theorem dX10_token_105 : decode cX10_token 105 = .ok (.goto 22, 3) := by decide +kernel
theorem dX10_token_108 : decode cX10_token 108 = .ok (.aload_n 0, 1) := by decide +kernel
theorem dX10_token_109 : decode cX10_token 109 = .ok (.getfield 151, 3) := by decide +kernel
theorem dX10_token_112 : decode cX10_token 112 = .ok (.aload_n 0, 1) := by decide +kernel
theorem dX10_token_113 : decode cX10_token 113 = .ok (.getfield 161, 3) := by decide +kernel
theorem dX10_token_116 : decode cX10_token 116 = .ok (.isub, 1) := by decide +kernel
theorem dX10_token_117 : decode cX10_token 117 = .ok (.bipush 6, 2) := by decide +kernel
theorem dX10_token_119 : decode cX10_token 119 = .ok (.if_icmp .le 7, 3) := by decide +kernel
theorem dX10_token_122 : decode cX10_token 122 = .ok (.iconst 5, 1) := by decide +kernel
theorem dX10_token_123 : decode cX10_token 123 = .ok (.goto 4, 3) := by decide +kernel
theorem dX10_token_126 : decode cX10_token 126 = .ok (.iconst 1, 1) := by decide +kernel
theorem dX10_token_127 : decode cX10_token 127 = .ok (.putfield 164, 3) := by decide +kernel
theorem dX10_token_130 : decode cX10_token 130 = .ok (.aload_n 0, 1) := by decide +kernel
theorem dX10_token_131 : decode cX10_token 131 = .ok (.getfield 164, 3) := by decide +kernel
theorem dX10_token_134 : decode cX10_token 134 = .ok (.iconst 1, 1) := by decide +kernel
theorem dX10_token_135 : decode cX10_token 135 = .ok (.if_icmp .ne 90, 3) := by decide +kernel
theorem dX10_token_138 : decode cX10_token 138 = .ok (.aload_n 0, 1) := by decide +kernel
theorem dX10_token_139 : decode cX10_token 139 = .ok (.invokevirtual 177, 3) := by decide +kernel
theorem dX10_token_142 : decode cX10_token 142 = .ok (.goto 83, 3) := by decide +kernel
theorem dX10_token_145 : decode cX10_token 145 = .ok (.iload_n 1, 1) := by decide +kernel
theorem dX10_token_146 : decode cX10_token 146 = .ok (.invokestatic 180, 3) := by decide +kernel
theorem dX10_token_149 : decode cX10_token 149 = .ok (.ifCond .eq 71, 3) := by decide +kernel
theorem dX10_token_152 : decode cX10_token 152 = .ok (.aload_n 0, 1) := by decide +kernel
theorem dX10_token_153 : decode cX10_token 153 = .ok (.iconst 2, 1) := by decide +kernel
theorem dX10_token_154 : decode cX10_token 154 = .ok (.putfield 164, 3) := by decide +kernel
theorem dX10_token_157 : decode cX10_token 157 = .ok (.aload_n 0, 1) := by decide +kernel
theorem dX10_token_158 : decode cX10_token 158 = .ok (.iconst 0, 1) := by decide +kernel
theorem dX10_token_159 : decode cX10_token 159 = .ok (.putfield 174, 3) := by decide +kernel
theorem dX10_token_162 : decode cX10_token 162 = .ok (.aload_n 0, 1) := by decide +kernel
theorem dX10_token_163 : decode cX10_token 163 = .ok (.invokevirtual 157, 3) := by decide +kernel
theorem dX10_token_166 : decode cX10_token 166 = .ok (.invokestatic 180, 3) := by decide +kernel
theorem dX10_token_169 : decode cX10_token 169 = .ok (.ifCond .eq 56, 3) := by decide +kernel
theorem dX10_token_172 : decode cX10_token 172 = .ok (.aload_n 0, 1) := by decide +kernel
theorem dX10_token_173 : decode cX10_token 173 = .ok (.aload_n 0, 1) := by decide +kernel
theorem dX10_token_174 : decode cX10_token 174 = .ok (.getfield 174, 3) := by decide +kernel
theorem dX10_token_177 : decode cX10_token 177 = .ok (.ldc 183, 2) := by decide +kernel
theorem dX10_token_179 : decode cX10_token 179 = .ok (.if_icmp .le 10, 3) := by decide +kernel
theorem dX10_token_182 : decode cX10_token 182 = .ok (.aload_n 0, 1) := by decide +kernel
theorem dX10_token_183 : decode cX10_token 183 = .ok (.getfield 174, 3) := by decide +kernel
theorem dX10_token_186 : decode cX10_token 186 = .ok (.goto 18, 3) := by decide +kernel
theorem dX10_token_189 : decode cX10_token 189 = .ok (.bipush 10, 2) := by decide +kernel
theorem dX10_token_191 : decode cX10_token 191 = .ok (.aload_n 0, 1) := by decide +kernel
theorem dX10_token_192 : decode cX10_token 192 = .ok (.getfield 174, 3) := by decide +kernel
theorem dX10_token_195 : decode cX10_token 195 = .ok (.imul, 1) := by decide +kernel
theorem dX10_token_196 : decode cX10_token 196 = .ok (.aload_n 0, 1) := by decide +kernel
theorem dX10_token_197 : decode cX10_token 197 = .ok (.invokevirtual 157, 3) := by decide +kernel
theorem dX10_token_200 : decode cX10_token 200 = .ok (.iadd, 1) := by decide +kernel
theorem dX10_token_201 : decode cX10_token 201 = .ok (.bipush 48, 2) := by decide +kernel
theorem dX10_token_203 : decode cX10_token 203 = .ok (.isub, 1) := by decide +kernel
theorem dX10_token_204 : decode cX10_token 204 = .ok (.putfield 174, 3) := by decide +kernel
theorem dX10_token_207 : decode cX10_token 207 = .ok (.aload_n 0, 1) := by decide +kernel
theorem dX10_token_208 : decode cX10_token 208 = .ok (.dup, 1) := by decide +kernel
theorem dX10_token_209 : decode cX10_token 209 = .ok (.getfield 151, 3) := by decide +kernel
theorem dX10_token_212 : decode cX10_token 212 = .ok (.iconst 1, 1) := by decide +kernel
theorem dX10_token_213 : decode cX10_token 213 = .ok (.iadd, 1) := by decide +kernel
theorem dX10_token_214 : decode cX10_token 214 = .ok (.putfield 151, 3) := by decide +kernel
theorem dX10_token_217 : decode cX10_token 217 = .ok (.goto (-55), 3) := by decide +kernel
theorem dX10_token_220 : decode cX10_token 220 = .ok (.aload_n 0, 1) := by decide +kernel
theorem dX10_token_221 : decode cX10_token 221 = .ok (.iload_n 1, 1) := by decide +kernel
theorem dX10_token_222 : decode cX10_token 222 = .ok (.invokevirtual 184, 3) := by decide +kernel
theorem dX10_token_225 : decode cX10_token 225 = .ok (.return_, 1) := by decide +kernel
theorem hd_X10_token : yX10_token.cls = xCn 10 ∧ yX10_token.cls ≠ "java/lang/invoke/MethodHandle" ∧ yX10_token.cls ≠ "java/lang/invoke/VarHandle" ∧ (parseMethodDescriptor yX10_token.desc).map (fun d => d.parameters.length) = some 0 := by decide +kernel
def k_X10_token_18 (sh : List xSh) (rec0 : Nat → xD → Option xD) (q0 : Nat) (d : xD) : Option xD :=
  (xgI 10 sh d q0 22).bind fun v1 => (xpI 10 sh d q0 22 (v1 + (1 : Int32))).bind fun d2 => rec0 q0 d2
def k_X10_token_225 (sh : List xSh) (d : xD) : Option xD :=
  some d
def k_X10_token_204 (sh : List xSh) (rec162 : Nat → xD → Option xD) (q0 : Nat) (p0 : Nat) (y1 : Int32) (d : xD) : Option xD :=
  (xpI 10 sh d p0 25 y1).bind fun d3 => (xgI 10 sh d3 q0 22).bind fun v4 => (xpI 10 sh d3 q0 22 (v4 + (1 : Int32))).bind fun d5 => rec162 q0 d5
def b_X10_token_162 (sh : List xSh) (rec162 : Nat → xD → Option xD) (q0 : Nat) (d : xD) : Option xD :=
  (xon 10 sh q0 (f_X10_here sh q0 d)).bind fun z6 => (f_X10_isDigit sh z6.1 z6.2).bind fun z7 => if z7.1 = 0 then (k_X10_token_225 sh z7.2) else ((xgI 10 sh z7.2 q0 25).bind fun v8 => if v8 ≤ (99999 : Int32) then ((xgI 10 sh z7.2 q0 25).bind fun v9 => (xon 10 sh q0 (f_X10_here sh q0 z7.2)).bind fun z10 => k_X10_token_204 sh rec162 q0 q0 ((((10 : Int32) * v9) + z10.1) - (48 : Int32)) z10.2) else ((xgI 10 sh z7.2 q0 25).bind fun v11 => k_X10_token_204 sh rec162 q0 q0 v11 z7.2))
def k_X10_token_127 (sh : List xSh) (q0 : Nat) (p0 : Nat) (y1 : Int32) (d : xD) : Option xD :=
  (xpI 10 sh d p0 24 y1).bind fun d12 => (xgI 10 sh d12 q0 24).bind fun v13 => if v13 = (1 : Int32) then ((xon 10 sh q0 (f_X10_name sh q0 d12)).bind fun d14 => k_X10_token_225 sh d14) else (k_X10_token_225 sh d12)
def k_X10_token_87 (sh : List xSh) (q0 : Nat) (d : xD) : Option xD :=
  (xon 10 sh q0 (f_X10_word sh q0 d)).bind fun z15 => (xpI 10 sh z15.2 q0 25 z15.1).bind fun d16 => (xgI 10 sh d16 q0 25).bind fun v17 => if v17 = (-1 : Int32) then ((xgI 10 sh d16 q0 22).bind fun v18 => (xgI 10 sh d16 q0 23).bind fun v19 => if (v18 - v19) ≤ (6 : Int32) then (k_X10_token_127 sh q0 q0 (1 : Int32) d16) else (k_X10_token_127 sh q0 q0 (5 : Int32) d16)) else (k_X10_token_127 sh q0 q0 (0 : Int32) d16)
def b_X10_token_64 (sh : List xSh) (rec64 : Nat → xD → Option xD) (q0 : Nat) (d : xD) : Option xD :=
  (xon 10 sh q0 (f_X10_here sh q0 d)).bind fun z20 => (f_X10_isSmall sh z20.1 z20.2).bind fun z21 => if z21.1 = 0 then (k_X10_token_87 sh q0 z21.2) else ((xgI 10 sh z21.2 q0 22).bind fun v22 => (xpI 10 sh z21.2 q0 22 (v22 + (1 : Int32))).bind fun d23 => rec64 q0 d23)
def k_X10_token_31 (sh : List xSh) (q0 : Nat) (d : xD) : Option xD :=
  (xgI 10 sh d q0 22).bind fun v24 => (xpI 10 sh d q0 23 v24).bind fun d25 => (xon 10 sh q0 (f_X10_here sh q0 d25)).bind fun z26 => if z26.1 = (-1 : Int32) then ((xpI 10 sh z26.2 q0 24 (4 : Int32)).bind fun d32 => k_X10_token_225 sh d32) else ((f_X10_isSmall sh z26.1 z26.2).bind fun z27 => if z27.1 = 0 then ((f_X10_isDigit sh z26.1 z27.2).bind fun z28 => if z28.1 = 0 then ((xon 10 sh q0 (f_X10_sign sh q0 z26.1 z28.2)).bind fun d29 => k_X10_token_225 sh d29) else ((xpI 10 sh z28.2 q0 24 (2 : Int32)).bind fun d30 => (xpI 10 sh d30 q0 25 (0 : Int32)).bind fun d31 => xloop (fun _ _ => none) (b_X10_token_162 sh) xF q0 d31)) else (xloop (fun _ _ => none) (b_X10_token_64 sh) xF q0 z27.2))
def b_X10_token_0 (sh : List xSh) (rec0 : Nat → xD → Option xD) (q0 : Nat) (d : xD) : Option xD :=
  (xon 10 sh q0 (f_X10_here sh q0 d)).bind fun z33 => if z33.1 = (10 : Int32) then (k_X10_token_18 sh rec0 q0 z33.2) else ((xon 10 sh q0 (f_X10_here sh q0 z33.2)).bind fun z34 => if z34.1 = (32 : Int32) then (k_X10_token_18 sh rec0 q0 z34.2) else (k_X10_token_31 sh q0 z34.2))
def f_X10_token (sh : List xSh) (q0 : Nat) (d : xD) : Option xD :=
  xloop (fun _ _ => none) (b_X10_token_0 sh) xF q0 d
set_option maxHeartbeats 4000000 in
set_option maxRecDepth 100000 in
theorem mt_X10_token (l : Launch) (D : va_G) (cid : FieldType → ClassId) (b : Nat) (ex : Bool) (sa sv B0 : Nat) (sh : List xSh) (q0 : Nat) (d : xD) (dz : xD) (hf : f_X10_token sh q0 d = some dz) : xMet l yX10_token cX10_token 2 none 5 0 0 D cid b ex sa sv B0 [.ref (b + q0)] sh d none sh dz := by
  refine xMet.of (by decide) (Nat.le_of_ble_eq_true rfl) ?_
  intro p e s m below meth c ls A S hr hin G hl
  have hl : lv_has ls 2 [(0, .ref (b + q0))] := hl
  generalize ([.ref (b + q0)] : List Value).toArray = av at S ⊢
  have hx := S.1
  have hb := S.2.1
  have hml := S.2.2.1
  have hown := S.2.2.2.1
  have hts := S.2.2.2.2.1
  have K18 : ∀ (rec0 : Nat → xD → Option xD) (hrec0 : ∀ (q0 : Nat) (d : xD), rec0 q0 d = some dz → ∀ (H : Heap) (locs : List Loc) (ls : Array Slot), lv_has ls 2 [(0, .ref (b + q0))] → xG D cid b A sh d s H locs → W p l e (xRm 5 0 0) s m av below meth c H locs 0 0 (MQ below (xQ D cid b ex A none sh dz) av s 0 0 A) (F0 m 0 ls [])) (q0 : Nat) (d : xD), k_X10_token_18 sh rec0 q0 d = some dz → ∀ (H : Heap) (locs : List Loc) (ls : Array Slot), lv_has ls 2 [(0, .ref (b + q0))] → xG D cid b A sh d s H locs → W p l e (xRm 5 0 0) s m av below meth c H locs 0 0 (MQ below (xQ D cid b ex A none sh dz) av s 0 0 A) (F0 m 18 ls []) := by
    intro rec0 hrec0 q0 d hf H locs ls hl G
    unfold k_X10_token_18 at hf
    refine lv_aload_n hx hb dX10_token_18 rfl (lv_at hl 0 rfl) ?_
    refine lv_dup hx hb dX10_token_19 rfl ?_
    obtain ⟨v1, hv1, hf⟩ := x_ob hf
    refine xr_getI (ci := 10) (k := 22) S G hv1 rfl kw_1190 dX10_token_20 ?_
    refine lv_iconst (v := (1 : Int32)) hx hb dX10_token_23 (by decide) ?_
    refine lv_iadd hx hb dX10_token_24 ?_
    obtain ⟨d2, hd2, hf⟩ := x_ob hf
    refine xr_putI (ci := 10) (k := 22) S G hd2 rfl kw_1190 dX10_token_25 (fun H locs G => ?_)
    refine lv_goto (tgt := 0) hx hb dX10_token_28 (by decide) ?_
    exact hrec0 q0 d2 hf _ _ ls (lv_sub hl [0] rfl) G
  have K225 : ∀ (d : xD), k_X10_token_225 sh d = some dz → ∀ (H : Heap) (locs : List Loc) (ls : Array Slot), lv_has ls 2 [] → xG D cid b A sh d s H locs → W p l e (xRm 5 0 0) s m av below meth c H locs 0 0 (MQ below (xQ D cid b ex A none sh dz) av s 0 0 A) (F0 m 225 ls []) := by
    intro d hf H locs ls hl G
    unfold k_X10_token_225 at hf
    cases hf
    exact xr_vret S G (fun _ => rfl) hr dX10_token_225
  have K204 : ∀ (rec162 : Nat → xD → Option xD) (hrec162 : ∀ (q0 : Nat) (d : xD), rec162 q0 d = some dz → ∀ (H : Heap) (locs : List Loc) (ls : Array Slot), lv_has ls 2 [(0, .ref (b + q0))] → xG D cid b A sh d s H locs → W p l e (xRm 5 0 0) s m av below meth c H locs 0 0 (MQ below (xQ D cid b ex A none sh dz) av s 0 0 A) (F0 m 162 ls [])) (q0 : Nat) (p0 : Nat) (y1 : Int32) (d : xD), k_X10_token_204 sh rec162 q0 p0 y1 d = some dz → ∀ (H : Heap) (locs : List Loc) (ls : Array Slot), lv_has ls 2 [(0, .ref (b + q0))] → xG D cid b A sh d s H locs → W p l e (xRm 5 0 0) s m av below meth c H locs 0 0 (MQ below (xQ D cid b ex A none sh dz) av s 0 0 A) (F0 m 204 ls [.int y1, .ref (b + p0)]) := by
    intro rec162 hrec162 q0 p0 y1 d hf H locs ls hl G
    unfold k_X10_token_204 at hf
    obtain ⟨d3, hd3, hf⟩ := x_ob hf
    refine xr_putI (ci := 10) (k := 25) S G hd3 rfl kw_1193 dX10_token_204 (fun H locs G => ?_)
    refine lv_aload_n hx hb dX10_token_207 rfl (lv_at hl 0 rfl) ?_
    refine lv_dup hx hb dX10_token_208 rfl ?_
    obtain ⟨v4, hv4, hf⟩ := x_ob hf
    refine xr_getI (ci := 10) (k := 22) S G hv4 rfl kw_1190 dX10_token_209 ?_
    refine lv_iconst (v := (1 : Int32)) hx hb dX10_token_212 (by decide) ?_
    refine lv_iadd hx hb dX10_token_213 ?_
    obtain ⟨d5, hd5, hf⟩ := x_ob hf
    refine xr_putI (ci := 10) (k := 22) S G hd5 rfl kw_1190 dX10_token_214 (fun H locs G => ?_)
    refine lv_goto (tgt := 162) hx hb dX10_token_217 (by decide) ?_
    exact hrec162 q0 d5 hf _ _ ls (lv_sub hl [0] rfl) G
  have K162 : ∀ (n : Nat) (q0 : Nat) (d : xD), xloop (fun _ _ => none) (b_X10_token_162 sh) n q0 d = some dz → ∀ (H : Heap) (locs : List Loc) (ls : Array Slot), lv_has ls 2 [(0, .ref (b + q0))] → xG D cid b A sh d s H locs → W p l e (xRm 5 0 0) s m av below meth c H locs 0 0 (MQ below (xQ D cid b ex A none sh dz) av s 0 0 A) (F0 m 162 ls []) := by
    intro n
    induction n with
    | zero =>
      intro q0 d hf
      have hf : (none : Option xD) = some dz := hf
      cases hf
    | succ n hrec162 =>
      intro q0 d hf H locs ls hl G
      have hf : b_X10_token_162 sh (xloop (fun _ _ => none) (b_X10_token_162 sh) n) q0 d = some dz := hf
      unfold b_X10_token_162 at hf
      refine lv_aload_n hx hb dX10_token_162 rfl (lv_at hl 0 rfl) ?_
      obtain ⟨z6, hz6, hf⟩ := x_ob hf
      obtain ⟨hqz6, hz6⟩ := xon_of hz6
      refine xr_callV (ci := 10) (As := []) (rest := []) (st1 := [.int z6.1]) S G hl.1 (fun _ => rfl) (mt_X10_here l D cid b ex sa sv B0 sh q0 d _ _ hz6) hqz6 (by decide) kw_1384 kw_1386 ks_39 kw_17 kw_1387 hd_X10_here ⟨Nat.le_of_ble_eq_true rfl, Nat.le_of_ble_eq_true rfl⟩ rfl rfl rfl (Nat.le_of_ble_eq_true rfl) ⟨Nat.le_of_ble_eq_true rfl, Nat.le_of_ble_eq_true rfl⟩ dX10_token_163 (fun H locs G => ?_)
      obtain ⟨z7, hz7, hf⟩ := x_ob hf
      refine xr_callS (As := [.int z6.1]) (rest := []) (st1 := [.int z7.1]) S G hl.1 (fun _ => rfl) (mt_X10_isDigit l D cid b ex sa sv B0 sh z6.1 z6.2 _ _ hz7) kw_1402 kw_1403 kw_17 kw_1404 hd_X10_isDigit ⟨Nat.le_of_ble_eq_true rfl, Nat.le_of_ble_eq_true rfl⟩ rfl rfl rfl (Nat.le_of_ble_eq_true rfl) ⟨Nat.le_of_ble_eq_true rfl, Nat.le_of_ble_eq_true rfl⟩ dX10_token_166 (fun H locs G => ?_)
      refine lv_if_eq (tgt := 225) hx hb dX10_token_169 (by decide) (fun c => ?_) (fun c => ?_)
      · have hf := x_pos c hf
        exact K225 z7.2 hf _ _ ls (lv_sub hl [] rfl) G
      · have hf := x_neg c hf
        refine lv_aload_n hx hb dX10_token_172 rfl (lv_at hl 0 rfl) ?_
        refine lv_aload_n hx hb dX10_token_173 rfl (lv_at hl 0 rfl) ?_
        obtain ⟨v8, hv8, hf⟩ := x_ob hf
        refine xr_getI (ci := 10) (k := 25) S G hv8 rfl kw_1193 dX10_token_174 ?_
        refine lv_ldc (v := (99999 : Int32)) hx hb hown (hts _ kw_1405) dX10_token_177 ?_
        refine lv_icmp_le (tgt := 189) hx hb dX10_token_179 (by decide) (fun c => ?_) (fun c => ?_)
        · have hf := x_pos c hf
          refine lv_bipush (v := (10 : Int32)) hx hb dX10_token_189 (by decide) ?_
          refine lv_aload_n hx hb dX10_token_191 rfl (lv_at hl 0 rfl) ?_
          obtain ⟨v9, hv9, hf⟩ := x_ob hf
          refine xr_getI (ci := 10) (k := 25) S G hv9 rfl kw_1193 dX10_token_192 ?_
          refine lv_imul hx hb dX10_token_195 ?_
          refine lv_aload_n hx hb dX10_token_196 rfl (lv_at hl 0 rfl) ?_
          obtain ⟨z10, hz10, hf⟩ := x_ob hf
          obtain ⟨hqz10, hz10⟩ := xon_of hz10
          refine xr_callV (ci := 10) (As := []) (rest := [.int ((10 : Int32) * v9), .ref (b + q0)]) (st1 := [.int z10.1, .int ((10 : Int32) * v9), .ref (b + q0)]) S G hl.1 (fun _ => rfl) (mt_X10_here l D cid b ex sa sv B0 sh q0 z7.2 _ _ hz10) hqz10 (by decide) kw_1384 kw_1386 ks_39 kw_17 kw_1387 hd_X10_here ⟨Nat.le_of_ble_eq_true rfl, Nat.le_of_ble_eq_true rfl⟩ rfl rfl rfl (Nat.le_of_ble_eq_true rfl) ⟨Nat.le_of_ble_eq_true rfl, Nat.le_of_ble_eq_true rfl⟩ dX10_token_197 (fun H locs G => ?_)
          refine lv_iadd hx hb dX10_token_200 ?_
          refine lv_bipush (v := (48 : Int32)) hx hb dX10_token_201 (by decide) ?_
          refine lv_isub hx hb dX10_token_203 ?_
          exact K204 _ hrec162 q0 q0 ((((10 : Int32) * v9) + z10.1) - (48 : Int32)) z10.2 hf _ _ ls (lv_sub hl [0] rfl) G
        · have hf := x_neg c hf
          refine lv_aload_n hx hb dX10_token_182 rfl (lv_at hl 0 rfl) ?_
          obtain ⟨v11, hv11, hf⟩ := x_ob hf
          refine xr_getI (ci := 10) (k := 25) S G hv11 rfl kw_1193 dX10_token_183 ?_
          refine lv_goto (tgt := 204) hx hb dX10_token_186 (by decide) ?_
          exact K204 _ hrec162 q0 q0 v11 z7.2 hf _ _ ls (lv_sub hl [0] rfl) G
  have K127 : ∀ (q0 : Nat) (p0 : Nat) (y1 : Int32) (d : xD), k_X10_token_127 sh q0 p0 y1 d = some dz → ∀ (H : Heap) (locs : List Loc) (ls : Array Slot), lv_has ls 2 [(0, .ref (b + q0))] → xG D cid b A sh d s H locs → W p l e (xRm 5 0 0) s m av below meth c H locs 0 0 (MQ below (xQ D cid b ex A none sh dz) av s 0 0 A) (F0 m 127 ls [.int y1, .ref (b + p0)]) := by
    intro q0 p0 y1 d hf H locs ls hl G
    unfold k_X10_token_127 at hf
    obtain ⟨d12, hd12, hf⟩ := x_ob hf
    refine xr_putI (ci := 10) (k := 24) S G hd12 rfl kw_1192 dX10_token_127 (fun H locs G => ?_)
    refine lv_aload_n hx hb dX10_token_130 rfl (lv_at hl 0 rfl) ?_
    obtain ⟨v13, hv13, hf⟩ := x_ob hf
    refine xr_getI (ci := 10) (k := 24) S G hv13 rfl kw_1192 dX10_token_131 ?_
    refine lv_iconst (v := (1 : Int32)) hx hb dX10_token_134 (by decide) ?_
    refine lv_icmp_ne (tgt := 225) hx hb dX10_token_135 (by decide) (fun c => ?_) (fun c => ?_)
    · have hf := x_neg c hf
      exact K225 d12 hf _ _ ls (lv_sub hl [] rfl) G
    · have hf := x_pos c hf
      refine lv_aload_n hx hb dX10_token_138 rfl (lv_at hl 0 rfl) ?_
      obtain ⟨d14, hd14, hf⟩ := x_ob hf
      obtain ⟨hqd14, hd14⟩ := xon_of hd14
      refine xr_callV (ci := 10) (As := []) (rest := []) (st1 := []) S G hl.1 (fun _ => rfl) (mt_X10_name l D cid b ex sa sv B0 sh q0 d12 _ hd14) hqd14 (by decide) kw_1398 kw_1400 ks_41 kw_17 kw_1401 hd_X10_name ⟨Nat.le_of_ble_eq_true rfl, Nat.le_of_ble_eq_true rfl⟩ rfl rfl rfl (Nat.le_of_ble_eq_true rfl) ⟨Nat.le_of_ble_eq_true rfl, Nat.le_of_ble_eq_true rfl⟩ dX10_token_139 (fun H locs G => ?_)
      refine lv_goto (tgt := 225) hx hb dX10_token_142 (by decide) ?_
      exact K225 d14 hf _ _ ls (lv_sub hl [] rfl) G
  have K87 : ∀ (q0 : Nat) (d : xD), k_X10_token_87 sh q0 d = some dz → ∀ (H : Heap) (locs : List Loc) (ls : Array Slot), lv_has ls 2 [(0, .ref (b + q0))] → xG D cid b A sh d s H locs → W p l e (xRm 5 0 0) s m av below meth c H locs 0 0 (MQ below (xQ D cid b ex A none sh dz) av s 0 0 A) (F0 m 87 ls []) := by
    intro q0 d hf H locs ls hl G
    unfold k_X10_token_87 at hf
    refine lv_aload_n hx hb dX10_token_87 rfl (lv_at hl 0 rfl) ?_
    refine lv_aload_n hx hb dX10_token_88 rfl (lv_at hl 0 rfl) ?_
    obtain ⟨z15, hz15, hf⟩ := x_ob hf
    obtain ⟨hqz15, hz15⟩ := xon_of hz15
    refine xr_callV (ci := 10) (As := []) (rest := [.ref (b + q0)]) (st1 := [.int z15.1, .ref (b + q0)]) S G hl.1 (fun _ => rfl) (mt_X10_word l D cid b ex sa sv B0 sh q0 d _ _ hz15) hqz15 (by decide) kw_1391 kw_1393 ks_40 kw_17 kw_1394 hd_X10_word ⟨Nat.le_of_ble_eq_true rfl, Nat.le_of_ble_eq_true rfl⟩ rfl rfl rfl (Nat.le_of_ble_eq_true rfl) ⟨Nat.le_of_ble_eq_true rfl, Nat.le_of_ble_eq_true rfl⟩ dX10_token_89 (fun H locs G => ?_)
    obtain ⟨d16, hd16, hf⟩ := x_ob hf
    refine xr_putI (ci := 10) (k := 25) S G hd16 rfl kw_1193 dX10_token_92 (fun H locs G => ?_)
    refine lv_aload_n hx hb dX10_token_95 rfl (lv_at hl 0 rfl) ?_
    refine lv_aload_n hx hb dX10_token_96 rfl (lv_at hl 0 rfl) ?_
    obtain ⟨v17, hv17, hf⟩ := x_ob hf
    refine xr_getI (ci := 10) (k := 25) S G hv17 rfl kw_1193 dX10_token_97 ?_
    refine lv_iconst (v := (-1 : Int32)) hx hb dX10_token_100 (by decide) ?_
    refine lv_icmp_eq (tgt := 108) hx hb dX10_token_101 (by decide) (fun c => ?_) (fun c => ?_)
    · have hf := x_pos c hf
      refine lv_aload_n hx hb dX10_token_108 rfl (lv_at hl 0 rfl) ?_
      obtain ⟨v18, hv18, hf⟩ := x_ob hf
      refine xr_getI (ci := 10) (k := 22) S G hv18 rfl kw_1190 dX10_token_109 ?_
      refine lv_aload_n hx hb dX10_token_112 rfl (lv_at hl 0 rfl) ?_
      obtain ⟨v19, hv19, hf⟩ := x_ob hf
      refine xr_getI (ci := 10) (k := 23) S G hv19 rfl kw_1191 dX10_token_113 ?_
      refine lv_isub hx hb dX10_token_116 ?_
      refine lv_bipush (v := (6 : Int32)) hx hb dX10_token_117 (by decide) ?_
      refine lv_icmp_le (tgt := 126) hx hb dX10_token_119 (by decide) (fun c => ?_) (fun c => ?_)
      · have hf := x_pos c hf
        refine lv_iconst (v := (1 : Int32)) hx hb dX10_token_126 (by decide) ?_
        exact K127 q0 q0 (1 : Int32) d16 hf _ _ ls (lv_sub hl [0] rfl) G
      · have hf := x_neg c hf
        refine lv_iconst (v := (5 : Int32)) hx hb dX10_token_122 (by decide) ?_
        refine lv_goto (tgt := 127) hx hb dX10_token_123 (by decide) ?_
        exact K127 q0 q0 (5 : Int32) d16 hf _ _ ls (lv_sub hl [0] rfl) G
    · have hf := x_neg c hf
      refine lv_iconst (v := (0 : Int32)) hx hb dX10_token_104 (by decide) ?_
      refine lv_goto (tgt := 127) hx hb dX10_token_105 (by decide) ?_
      exact K127 q0 q0 (0 : Int32) d16 hf _ _ ls (lv_sub hl [0] rfl) G
  have K64 : ∀ (n : Nat) (q0 : Nat) (d : xD), xloop (fun _ _ => none) (b_X10_token_64 sh) n q0 d = some dz → ∀ (H : Heap) (locs : List Loc) (ls : Array Slot), lv_has ls 2 [(0, .ref (b + q0))] → xG D cid b A sh d s H locs → W p l e (xRm 5 0 0) s m av below meth c H locs 0 0 (MQ below (xQ D cid b ex A none sh dz) av s 0 0 A) (F0 m 64 ls []) := by
    intro n
    induction n with
    | zero =>
      intro q0 d hf
      have hf : (none : Option xD) = some dz := hf
      cases hf
    | succ n hrec64 =>
      intro q0 d hf H locs ls hl G
      have hf : b_X10_token_64 sh (xloop (fun _ _ => none) (b_X10_token_64 sh) n) q0 d = some dz := hf
      unfold b_X10_token_64 at hf
      refine lv_aload_n hx hb dX10_token_64 rfl (lv_at hl 0 rfl) ?_
      obtain ⟨z20, hz20, hf⟩ := x_ob hf
      obtain ⟨hqz20, hz20⟩ := xon_of hz20
      refine xr_callV (ci := 10) (As := []) (rest := []) (st1 := [.int z20.1]) S G hl.1 (fun _ => rfl) (mt_X10_here l D cid b ex sa sv B0 sh q0 d _ _ hz20) hqz20 (by decide) kw_1384 kw_1386 ks_39 kw_17 kw_1387 hd_X10_here ⟨Nat.le_of_ble_eq_true rfl, Nat.le_of_ble_eq_true rfl⟩ rfl rfl rfl (Nat.le_of_ble_eq_true rfl) ⟨Nat.le_of_ble_eq_true rfl, Nat.le_of_ble_eq_true rfl⟩ dX10_token_65 (fun H locs G => ?_)
      obtain ⟨z21, hz21, hf⟩ := x_ob hf
      refine xr_callS (As := [.int z20.1]) (rest := []) (st1 := [.int z21.1]) S G hl.1 (fun _ => rfl) (mt_X10_isSmall l D cid b ex sa sv B0 sh z20.1 z20.2 _ _ hz21) kw_1388 kw_1389 kw_17 kw_1390 hd_X10_isSmall ⟨Nat.le_of_ble_eq_true rfl, Nat.le_of_ble_eq_true rfl⟩ rfl rfl rfl (Nat.le_of_ble_eq_true rfl) ⟨Nat.le_of_ble_eq_true rfl, Nat.le_of_ble_eq_true rfl⟩ dX10_token_68 (fun H locs G => ?_)
      refine lv_if_eq (tgt := 87) hx hb dX10_token_71 (by decide) (fun c => ?_) (fun c => ?_)
      · have hf := x_pos c hf
        exact K87 q0 z21.2 hf _ _ ls (lv_sub hl [0] rfl) G
      · have hf := x_neg c hf
        refine lv_aload_n hx hb dX10_token_74 rfl (lv_at hl 0 rfl) ?_
        refine lv_dup hx hb dX10_token_75 rfl ?_
        obtain ⟨v22, hv22, hf⟩ := x_ob hf
        refine xr_getI (ci := 10) (k := 22) S G hv22 rfl kw_1190 dX10_token_76 ?_
        refine lv_iconst (v := (1 : Int32)) hx hb dX10_token_79 (by decide) ?_
        refine lv_iadd hx hb dX10_token_80 ?_
        obtain ⟨d23, hd23, hf⟩ := x_ob hf
        refine xr_putI (ci := 10) (k := 22) S G hd23 rfl kw_1190 dX10_token_81 (fun H locs G => ?_)
        refine lv_goto (tgt := 64) hx hb dX10_token_84 (by decide) ?_
        exact hrec64 q0 d23 hf _ _ ls (lv_sub hl [0] rfl) G
  have K31 : ∀ (q0 : Nat) (d : xD), k_X10_token_31 sh q0 d = some dz → ∀ (H : Heap) (locs : List Loc) (ls : Array Slot), lv_has ls 2 [(0, .ref (b + q0))] → xG D cid b A sh d s H locs → W p l e (xRm 5 0 0) s m av below meth c H locs 0 0 (MQ below (xQ D cid b ex A none sh dz) av s 0 0 A) (F0 m 31 ls []) := by
    intro q0 d hf H locs ls hl G
    unfold k_X10_token_31 at hf
    refine lv_aload_n hx hb dX10_token_31 rfl (lv_at hl 0 rfl) ?_
    refine lv_aload_n hx hb dX10_token_32 rfl (lv_at hl 0 rfl) ?_
    obtain ⟨v24, hv24, hf⟩ := x_ob hf
    refine xr_getI (ci := 10) (k := 22) S G hv24 rfl kw_1190 dX10_token_33 ?_
    obtain ⟨d25, hd25, hf⟩ := x_ob hf
    refine xr_putI (ci := 10) (k := 23) S G hd25 rfl kw_1191 dX10_token_36 (fun H locs G => ?_)
    refine lv_aload_n hx hb dX10_token_39 rfl (lv_at hl 0 rfl) ?_
    obtain ⟨z26, hz26, hf⟩ := x_ob hf
    obtain ⟨hqz26, hz26⟩ := xon_of hz26
    refine xr_callV (ci := 10) (As := []) (rest := []) (st1 := [.int z26.1]) S G hl.1 (fun _ => rfl) (mt_X10_here l D cid b ex sa sv B0 sh q0 d25 _ _ hz26) hqz26 (by decide) kw_1384 kw_1386 ks_39 kw_17 kw_1387 hd_X10_here ⟨Nat.le_of_ble_eq_true rfl, Nat.le_of_ble_eq_true rfl⟩ rfl rfl rfl (Nat.le_of_ble_eq_true rfl) ⟨Nat.le_of_ble_eq_true rfl, Nat.le_of_ble_eq_true rfl⟩ dX10_token_40 (fun H locs G => ?_)
    refine lv_istore_n (lv' := [(1, .int z26.1), (0, .ref (b + q0))]) hx hb dX10_token_43 rfl hl (by decide) rfl (fun ls hl => ?_)
    refine lv_iload_n hx hb dX10_token_44 rfl (lv_at hl 0 rfl) ?_
    refine lv_iconst (v := (-1 : Int32)) hx hb dX10_token_45 (by decide) ?_
    refine lv_icmp_ne (tgt := 57) hx hb dX10_token_46 (by decide) (fun c => ?_) (fun c => ?_)
    · have hf := x_neg c hf
      refine lv_iload_n hx hb dX10_token_57 rfl (lv_at hl 0 rfl) ?_
      obtain ⟨z27, hz27, hf⟩ := x_ob hf
      refine xr_callS (As := [.int z26.1]) (rest := []) (st1 := [.int z27.1]) S G hl.1 (fun _ => rfl) (mt_X10_isSmall l D cid b ex sa sv B0 sh z26.1 z26.2 _ _ hz27) kw_1388 kw_1389 kw_17 kw_1390 hd_X10_isSmall ⟨Nat.le_of_ble_eq_true rfl, Nat.le_of_ble_eq_true rfl⟩ rfl rfl rfl (Nat.le_of_ble_eq_true rfl) ⟨Nat.le_of_ble_eq_true rfl, Nat.le_of_ble_eq_true rfl⟩ dX10_token_58 (fun H locs G => ?_)
      refine lv_if_eq (tgt := 145) hx hb dX10_token_61 (by decide) (fun c => ?_) (fun c => ?_)
      · have hf := x_pos c hf
        refine lv_iload_n hx hb dX10_token_145 rfl (lv_at hl 0 rfl) ?_
        obtain ⟨z28, hz28, hf⟩ := x_ob hf
        refine xr_callS (As := [.int z26.1]) (rest := []) (st1 := [.int z28.1]) S G hl.1 (fun _ => rfl) (mt_X10_isDigit l D cid b ex sa sv B0 sh z26.1 z27.2 _ _ hz28) kw_1402 kw_1403 kw_17 kw_1404 hd_X10_isDigit ⟨Nat.le_of_ble_eq_true rfl, Nat.le_of_ble_eq_true rfl⟩ rfl rfl rfl (Nat.le_of_ble_eq_true rfl) ⟨Nat.le_of_ble_eq_true rfl, Nat.le_of_ble_eq_true rfl⟩ dX10_token_146 (fun H locs G => ?_)
        refine lv_if_eq (tgt := 220) hx hb dX10_token_149 (by decide) (fun c => ?_) (fun c => ?_)
        · have hf := x_pos c hf
          refine lv_aload_n hx hb dX10_token_220 rfl (lv_at hl 1 rfl) ?_
          refine lv_iload_n hx hb dX10_token_221 rfl (lv_at hl 0 rfl) ?_
          obtain ⟨d29, hd29, hf⟩ := x_ob hf
          obtain ⟨hqd29, hd29⟩ := xon_of hd29
          refine xr_callV (ci := 10) (As := [.int z26.1]) (rest := []) (st1 := []) S G hl.1 (fun _ => rfl) (mt_X10_sign l D cid b ex sa sv B0 sh q0 z26.1 z28.2 _ hd29) hqd29 (by decide) kw_1406 kw_1408 ks_42 kw_17 kw_1409 hd_X10_sign ⟨Nat.le_of_ble_eq_true rfl, Nat.le_of_ble_eq_true rfl⟩ rfl rfl rfl (Nat.le_of_ble_eq_true rfl) ⟨Nat.le_of_ble_eq_true rfl, Nat.le_of_ble_eq_true rfl⟩ dX10_token_222 (fun H locs G => ?_)
          exact K225 d29 hf _ _ ls (lv_sub hl [] rfl) G
        · have hf := x_neg c hf
          refine lv_aload_n hx hb dX10_token_152 rfl (lv_at hl 1 rfl) ?_
          refine lv_iconst (v := (2 : Int32)) hx hb dX10_token_153 (by decide) ?_
          obtain ⟨d30, hd30, hf⟩ := x_ob hf
          refine xr_putI (ci := 10) (k := 24) S G hd30 rfl kw_1192 dX10_token_154 (fun H locs G => ?_)
          refine lv_aload_n hx hb dX10_token_157 rfl (lv_at hl 1 rfl) ?_
          refine lv_iconst (v := (0 : Int32)) hx hb dX10_token_158 (by decide) ?_
          obtain ⟨d31, hd31, hf⟩ := x_ob hf
          refine xr_putI (ci := 10) (k := 25) S G hd31 rfl kw_1193 dX10_token_159 (fun H locs G => ?_)
          exact K162 xF q0 d31 hf _ _ ls (lv_sub hl [1] rfl) G
      · have hf := x_neg c hf
        exact K64 xF q0 z27.2 hf _ _ ls (lv_sub hl [1] rfl) G
    · have hf := x_pos c hf
      refine lv_aload_n hx hb dX10_token_49 rfl (lv_at hl 1 rfl) ?_
      refine lv_iconst (v := (4 : Int32)) hx hb dX10_token_50 (by decide) ?_
      obtain ⟨d32, hd32, hf⟩ := x_ob hf
      refine xr_putI (ci := 10) (k := 24) S G hd32 rfl kw_1192 dX10_token_51 (fun H locs G => ?_)
      refine lv_goto (tgt := 225) hx hb dX10_token_54 (by decide) ?_
      exact K225 d32 hf _ _ ls (lv_sub hl [] rfl) G
  have K0 : ∀ (n : Nat) (q0 : Nat) (d : xD), xloop (fun _ _ => none) (b_X10_token_0 sh) n q0 d = some dz → ∀ (H : Heap) (locs : List Loc) (ls : Array Slot), lv_has ls 2 [(0, .ref (b + q0))] → xG D cid b A sh d s H locs → W p l e (xRm 5 0 0) s m av below meth c H locs 0 0 (MQ below (xQ D cid b ex A none sh dz) av s 0 0 A) (F0 m 0 ls []) := by
    intro n
    induction n with
    | zero =>
      intro q0 d hf
      have hf : (none : Option xD) = some dz := hf
      cases hf
    | succ n hrec0 =>
      intro q0 d hf H locs ls hl G
      have hf : b_X10_token_0 sh (xloop (fun _ _ => none) (b_X10_token_0 sh) n) q0 d = some dz := hf
      unfold b_X10_token_0 at hf
      refine lv_aload_n hx hb dX10_token_0 rfl (lv_at hl 0 rfl) ?_
      obtain ⟨z33, hz33, hf⟩ := x_ob hf
      obtain ⟨hqz33, hz33⟩ := xon_of hz33
      refine xr_callV (ci := 10) (As := []) (rest := []) (st1 := [.int z33.1]) S G hl.1 (fun _ => rfl) (mt_X10_here l D cid b ex sa sv B0 sh q0 d _ _ hz33) hqz33 (by decide) kw_1384 kw_1386 ks_39 kw_17 kw_1387 hd_X10_here ⟨Nat.le_of_ble_eq_true rfl, Nat.le_of_ble_eq_true rfl⟩ rfl rfl rfl (Nat.le_of_ble_eq_true rfl) ⟨Nat.le_of_ble_eq_true rfl, Nat.le_of_ble_eq_true rfl⟩ dX10_token_1 (fun H locs G => ?_)
      refine lv_bipush (v := (10 : Int32)) hx hb dX10_token_4 (by decide) ?_
      refine lv_icmp_eq (tgt := 18) hx hb dX10_token_6 (by decide) (fun c => ?_) (fun c => ?_)
      · have hf := x_pos c hf
        exact K18 _ hrec0 q0 z33.2 hf _ _ ls (lv_sub hl [0] rfl) G
      · have hf := x_neg c hf
        refine lv_aload_n hx hb dX10_token_9 rfl (lv_at hl 0 rfl) ?_
        obtain ⟨z34, hz34, hf⟩ := x_ob hf
        obtain ⟨hqz34, hz34⟩ := xon_of hz34
        refine xr_callV (ci := 10) (As := []) (rest := []) (st1 := [.int z34.1]) S G hl.1 (fun _ => rfl) (mt_X10_here l D cid b ex sa sv B0 sh q0 z33.2 _ _ hz34) hqz34 (by decide) kw_1384 kw_1386 ks_39 kw_17 kw_1387 hd_X10_here ⟨Nat.le_of_ble_eq_true rfl, Nat.le_of_ble_eq_true rfl⟩ rfl rfl rfl (Nat.le_of_ble_eq_true rfl) ⟨Nat.le_of_ble_eq_true rfl, Nat.le_of_ble_eq_true rfl⟩ dX10_token_10 (fun H locs G => ?_)
        refine lv_bipush (v := (32 : Int32)) hx hb dX10_token_13 (by decide) ?_
        refine lv_icmp_ne (tgt := 31) hx hb dX10_token_15 (by decide) (fun c => ?_) (fun c => ?_)
        · have hf := x_neg c hf
          exact K31 q0 z34.2 hf _ _ ls (lv_sub hl [0] rfl) G
        · have hf := x_pos c hf
          exact K18 _ hrec0 q0 z34.2 hf _ _ ls (lv_sub hl [0] rfl) G
  unfold f_X10_token at hf
  exact K0 xF q0 d hf _ _ ls (lv_sub hl [0] rfl) G
-- HalfLandingsModel.goOn()V
theorem dX10_goOn_0 : decode cX10_goOn 0 = .ok (.aload_n 0, 1) := by decide +kernel
theorem dX10_goOn_1 : decode cX10_goOn 1 = .ok (.getfield 199, 3) := by decide +kernel
theorem dX10_goOn_4 : decode cX10_goOn 4 = .ok (.ifCond .ne 7, 3) := by decide +kernel
theorem dX10_goOn_7 : decode cX10_goOn 7 = .ok (.aload_n 0, 1) := by decide +kernel
theorem dX10_goOn_8 : decode cX10_goOn 8 = .ok (.invokevirtual 205, 3) := by decide +kernel
theorem dX10_goOn_11 : decode cX10_goOn 11 = .ok (.return_, 1) := by decide +kernel
theorem hd_X10_goOn : yX10_goOn.cls = xCn 10 ∧ yX10_goOn.cls ≠ "java/lang/invoke/MethodHandle" ∧ yX10_goOn.cls ≠ "java/lang/invoke/VarHandle" ∧ (parseMethodDescriptor yX10_goOn.desc).map (fun d => d.parameters.length) = some 0 := by decide +kernel
def k_X10_goOn_11 (sh : List xSh) (d : xD) : Option xD :=
  some d
def f_X10_goOn (sh : List xSh) (q0 : Nat) (d : xD) : Option xD :=
  (xgI 10 sh d q0 26).bind fun v1 => if v1 = 0 then ((xon 10 sh q0 (f_X10_token sh q0 d)).bind fun d2 => k_X10_goOn_11 sh d2) else (k_X10_goOn_11 sh d)
set_option maxHeartbeats 4000000 in
set_option maxRecDepth 100000 in
theorem mt_X10_goOn (l : Launch) (D : va_G) (cid : FieldType → ClassId) (b : Nat) (ex : Bool) (sa sv B0 : Nat) (sh : List xSh) (q0 : Nat) (d : xD) (dz : xD) (hf : f_X10_goOn sh q0 d = some dz) : xMet l yX10_goOn cX10_goOn 1 none 6 0 0 D cid b ex sa sv B0 [.ref (b + q0)] sh d none sh dz := by
  refine xMet.of (by decide) (Nat.le_of_ble_eq_true rfl) ?_
  intro p e s m below meth c ls A S hr hin G hl
  have hl : lv_has ls 1 [(0, .ref (b + q0))] := hl
  generalize ([.ref (b + q0)] : List Value).toArray = av at S ⊢
  have hx := S.1
  have hb := S.2.1
  have hml := S.2.2.1
  have hown := S.2.2.2.1
  have hts := S.2.2.2.2.1
  have K11 : ∀ (d : xD), k_X10_goOn_11 sh d = some dz → ∀ (H : Heap) (locs : List Loc) (ls : Array Slot), lv_has ls 1 [] → xG D cid b A sh d s H locs → W p l e (xRm 6 0 0) s m av below meth c H locs 0 0 (MQ below (xQ D cid b ex A none sh dz) av s 0 0 A) (F0 m 11 ls []) := by
    intro d hf H locs ls hl G
    unfold k_X10_goOn_11 at hf
    cases hf
    exact xr_vret S G (fun _ => rfl) hr dX10_goOn_11
  unfold f_X10_goOn at hf
  refine lv_aload_n hx hb dX10_goOn_0 rfl (lv_at hl 0 rfl) ?_
  obtain ⟨v1, hv1, hf⟩ := x_ob hf
  refine xr_getI (ci := 10) (k := 26) S G hv1 rfl kw_1194 dX10_goOn_1 ?_
  refine lv_if_ne (tgt := 11) hx hb dX10_goOn_4 (by decide) (fun c => ?_) (fun c => ?_)
  · have hf := x_neg c hf
    exact K11 d hf _ _ ls (lv_sub hl [] rfl) G
  · have hf := x_pos c hf
    refine lv_aload_n hx hb dX10_goOn_7 rfl (lv_at hl 0 rfl) ?_
    obtain ⟨d2, hd2, hf⟩ := x_ob hf
    obtain ⟨hqd2, hd2⟩ := xon_of hd2
    refine xr_callV (ci := 10) (As := []) (rest := []) (st1 := []) S G hl.1 (fun _ => rfl) (mt_X10_token l D cid b ex sa sv B0 sh q0 d _ hd2) hqd2 (by decide) kw_1380 kw_1382 ks_38 kw_17 kw_1383 hd_X10_token ⟨Nat.le_of_ble_eq_true rfl, Nat.le_of_ble_eq_true rfl⟩ rfl rfl rfl (Nat.le_of_ble_eq_true rfl) ⟨Nat.le_of_ble_eq_true rfl, Nat.le_of_ble_eq_true rfl⟩ dX10_goOn_8 (fun H locs G => ?_)
    exact K11 d2 hf _ _ ls (lv_sub hl [] rfl) G
-- HalfLandingsModel.numeral(II)I
theorem dX10_numeral_0 : decode cX10_numeral 0 = .ok (.aload_n 0, 1) := by decide +kernel
theorem dX10_numeral_1 : decode cX10_numeral 1 = .ok (.getfield 199, 3) := by decide +kernel
theorem dX10_numeral_4 : decode cX10_numeral 4 = .ok (.ifCond .eq 5, 3) := by decide +kernel
theorem dX10_numeral_7 : decode cX10_numeral 7 = .ok (.iload_n 1, 1) := by decide +kernel
theorem dX10_numeral_8 : decode cX10_numeral 8 = .ok (.ireturn, 1) := by decide +kernel
theorem dX10_numeral_9 : decode cX10_numeral 9 = .ok (.aload_n 0, 1) := by decide +kernel
theorem dX10_numeral_10 : decode cX10_numeral 10 = .ok (.getfield 164, 3) := by decide +kernel
theorem dX10_numeral_13 : decode cX10_numeral 13 = .ok (.iconst 2, 1) := by decide +kernel
theorem dX10_numeral_14 : decode cX10_numeral 14 = .ok (.if_icmp .eq 11, 3) := by decide +kernel
theorem dX10_numeral_17 : decode cX10_numeral 17 = .ok (.aload_n 0, 1) := by decide +kernel
theorem dX10_numeral_18 : decode cX10_numeral 18 = .ok (.iconst 1, 1) := by decide +kernel
theorem dX10_numeral_19 : decode cX10_numeral 19 = .ok (.invokevirtual 208, 3) := by decide +kernel
theorem dX10_numeral_22 : decode cX10_numeral 22 = .ok (.goto 24, 3) := by decide +kernel
theorem dX10_numeral_25 : decode cX10_numeral 25 = .ok (.aload_n 0, 1) := by decide +kernel
theorem dX10_numeral_26 : decode cX10_numeral 26 = .ok (.getfield 174, 3) := by decide +kernel
theorem dX10_numeral_29 : decode cX10_numeral 29 = .ok (.iload_n 1, 1) := by decide +kernel
theorem dX10_numeral_30 : decode cX10_numeral 30 = .ok (.if_icmp .lt 11, 3) := by decide +kernel
theorem dX10_numeral_33 : decode cX10_numeral 33 = .ok (.aload_n 0, 1) := by decide +kernel
theorem dX10_numeral_34 : decode cX10_numeral 34 = .ok (.getfield 174, 3) := by decide +kernel
theorem dX10_numeral_37 : decode cX10_numeral 37 = .ok (.iload_n 2, 1) := by decide +kernel
theorem dX10_numeral_38 : decode cX10_numeral 38 = .ok (.if_icmp .le 8, 3) := by decide +kernel
theorem dX10_numeral_41 : decode cX10_numeral 41 = .ok (.aload_n 0, 1) := by decide +kernel
theorem dX10_numeral_42 : decode cX10_numeral 42 = .ok (.iconst 2, 1) := by decide +kernel
theorem dX10_numeral_43 : decode cX10_numeral 43 = .ok (.invokevirtual 208, 3) := by decide +kernel
theorem dX10_numeral_46 : decode cX10_numeral 46 = .ok (.aload_n 0, 1) := by decide +kernel
theorem dX10_numeral_47 : decode cX10_numeral 47 = .ok (.getfield 199, 3) := by decide +kernel
theorem dX10_numeral_50 : decode cX10_numeral 50 = .ok (.ifCond .eq 5, 3) := by decide +kernel
theorem dX10_numeral_53 : decode cX10_numeral 53 = .ok (.iload_n 1, 1) := by decide +kernel
theorem dX10_numeral_54 : decode cX10_numeral 54 = .ok (.ireturn, 1) := by decide +kernel
theorem dX10_numeral_55 : decode cX10_numeral 55 = .ok (.aload_n 0, 1) := by decide +kernel
theorem dX10_numeral_56 : decode cX10_numeral 56 = .ok (.getfield 174, 3) := by decide +kernel
theorem dX10_numeral_59 : decode cX10_numeral 59 = .ok (.istore_n 3, 1) := by decide +kernel
theorem dX10_numeral_60 : decode cX10_numeral 60 = .ok (.aload_n 0, 1) := by decide +kernel
theorem dX10_numeral_61 : decode cX10_numeral 61 = .ok (.invokevirtual 205, 3) := by decide +kernel
theorem dX10_numeral_64 : decode cX10_numeral 64 = .ok (.iload_n 3, 1) := by decide +kernel
theorem dX10_numeral_65 : decode cX10_numeral 65 = .ok (.ireturn, 1) := by decide +kernel
theorem hd_X10_numeral : yX10_numeral.cls = xCn 10 ∧ yX10_numeral.cls ≠ "java/lang/invoke/MethodHandle" ∧ yX10_numeral.cls ≠ "java/lang/invoke/VarHandle" ∧ (parseMethodDescriptor yX10_numeral.desc).map (fun d => d.parameters.length) = some 2 := by decide +kernel
def k_X10_numeral_46 (sh : List xSh) (q0 : Nat) (x1 : Int32) (d : xD) : Option (Int32 × xD) :=
  (xgI 10 sh d q0 26).bind fun v1 => if v1 = 0 then ((xgI 10 sh d q0 25).bind fun v2 => (xon 10 sh q0 (f_X10_token sh q0 d)).bind fun d3 => some (v2, d3)) else (some (x1, d))
def k_X10_numeral_41 (sh : List xSh) (q0 : Nat) (x1 : Int32) (d : xD) : Option (Int32 × xD) :=
  (xon 10 sh q0 (f_X10_wrong sh q0 (2 : Int32) d)).bind fun d4 => k_X10_numeral_46 sh q0 x1 d4
def f_X10_numeral (sh : List xSh) (q0 : Nat) (x1 : Int32) (x2 : Int32) (d : xD) : Option (Int32 × xD) :=
  (xgI 10 sh d q0 26).bind fun v5 => if v5 = 0 then ((xgI 10 sh d q0 24).bind fun v6 => if v6 = (2 : Int32) then ((xgI 10 sh d q0 25).bind fun v7 => if v7 < x1 then (k_X10_numeral_41 sh q0 x1 d) else ((xgI 10 sh d q0 25).bind fun v8 => if v8 ≤ x2 then (k_X10_numeral_46 sh q0 x1 d) else (k_X10_numeral_41 sh q0 x1 d))) else ((xon 10 sh q0 (f_X10_wrong sh q0 (1 : Int32) d)).bind fun d9 => k_X10_numeral_46 sh q0 x1 d9)) else (some (x1, d))
set_option maxHeartbeats 4000000 in
set_option maxRecDepth 100000 in
theorem mt_X10_numeral (l : Launch) (D : va_G) (cid : FieldType → ClassId) (b : Nat) (ex : Bool) (sa sv B0 : Nat) (sh : List xSh) (q0 : Nat) (x1 : Int32) (x2 : Int32) (d : xD) (r : Int32) (dz : xD) (hf : f_X10_numeral sh q0 x1 x2 d = some (r, dz)) : xMet l yX10_numeral cX10_numeral 4 (some .int) 6 0 0 D cid b ex sa sv B0 [.ref (b + q0), .int x1, .int x2] sh d (some (.int r)) sh dz := by
  refine xMet.of (by decide) (Nat.le_of_ble_eq_true rfl) ?_
  intro p e s m below meth c ls A S hr hin G hl
  have hl : lv_has ls 4 [(0, .ref (b + q0)), (1, .int x1), (2, .int x2)] := hl
  generalize ([.ref (b + q0), .int x1, .int x2] : List Value).toArray = av at S ⊢
  have hx := S.1
  have hb := S.2.1
  have hml := S.2.2.1
  have hown := S.2.2.2.1
  have hts := S.2.2.2.2.1
  have K46 : ∀ (q0 : Nat) (x1 : Int32) (d : xD), k_X10_numeral_46 sh q0 x1 d = some (r, dz) → ∀ (H : Heap) (locs : List Loc) (ls : Array Slot), lv_has ls 4 [(0, .ref (b + q0)), (1, .int x1)] → xG D cid b A sh d s H locs → W p l e (xRm 6 0 0) s m av below meth c H locs 0 0 (MQ below (xQ D cid b ex A (some (.int r)) sh dz) av s 0 0 A) (F0 m 46 ls []) := by
    intro q0 x1 d hf H locs ls hl G
    unfold k_X10_numeral_46 at hf
    refine lv_aload_n hx hb dX10_numeral_46 rfl (lv_at hl 0 rfl) ?_
    obtain ⟨v1, hv1, hf⟩ := x_ob hf
    refine xr_getI (ci := 10) (k := 26) S G hv1 rfl kw_1194 dX10_numeral_47 ?_
    refine lv_if_eq (tgt := 55) hx hb dX10_numeral_50 (by decide) (fun c => ?_) (fun c => ?_)
    · have hf := x_pos c hf
      refine lv_aload_n hx hb dX10_numeral_55 rfl (lv_at hl 0 rfl) ?_
      obtain ⟨v2, hv2, hf⟩ := x_ob hf
      refine xr_getI (ci := 10) (k := 25) S G hv2 rfl kw_1193 dX10_numeral_56 ?_
      refine lv_istore_n (lv' := [(3, .int v2), (0, .ref (b + q0)), (1, .int x1)]) hx hb dX10_numeral_59 rfl hl (by decide) rfl (fun ls hl => ?_)
      refine lv_aload_n hx hb dX10_numeral_60 rfl (lv_at hl 1 rfl) ?_
      obtain ⟨d3, hd3, hf⟩ := x_ob hf
      obtain ⟨hqd3, hd3⟩ := xon_of hd3
      refine xr_callV (ci := 10) (As := []) (rest := []) (st1 := []) S G hl.1 (fun _ => rfl) (mt_X10_token l D cid b ex sa sv B0 sh q0 d _ hd3) hqd3 (by decide) kw_1380 kw_1382 ks_38 kw_17 kw_1383 hd_X10_token ⟨Nat.le_of_ble_eq_true rfl, Nat.le_of_ble_eq_true rfl⟩ rfl rfl rfl (Nat.le_of_ble_eq_true rfl) ⟨Nat.le_of_ble_eq_true rfl, Nat.le_of_ble_eq_true rfl⟩ dX10_numeral_61 (fun H locs G => ?_)
      refine lv_iload_n hx hb dX10_numeral_64 rfl (lv_at hl 0 rfl) ?_
      cases hf
      exact xr_iret S G (fun _ => rfl) hr dX10_numeral_65
    · have hf := x_neg c hf
      refine lv_iload_n hx hb dX10_numeral_53 rfl (lv_at hl 1 rfl) ?_
      cases hf
      exact xr_iret S G (fun _ => rfl) hr dX10_numeral_54
  have K41 : ∀ (q0 : Nat) (x1 : Int32) (d : xD), k_X10_numeral_41 sh q0 x1 d = some (r, dz) → ∀ (H : Heap) (locs : List Loc) (ls : Array Slot), lv_has ls 4 [(0, .ref (b + q0)), (1, .int x1)] → xG D cid b A sh d s H locs → W p l e (xRm 6 0 0) s m av below meth c H locs 0 0 (MQ below (xQ D cid b ex A (some (.int r)) sh dz) av s 0 0 A) (F0 m 41 ls []) := by
    intro q0 x1 d hf H locs ls hl G
    unfold k_X10_numeral_41 at hf
    refine lv_aload_n hx hb dX10_numeral_41 rfl (lv_at hl 0 rfl) ?_
    refine lv_iconst (v := (2 : Int32)) hx hb dX10_numeral_42 (by decide) ?_
    obtain ⟨d4, hd4, hf⟩ := x_ob hf
    obtain ⟨hqd4, hd4⟩ := xon_of hd4
    refine xr_callV (ci := 10) (As := [.int (2 : Int32)]) (rest := []) (st1 := []) S G hl.1 (fun _ => rfl) (mt_X10_wrong l D cid b ex sa sv B0 sh q0 (2 : Int32) d _ hd4) hqd4 (by decide) kw_1414 kw_1416 ks_44 kw_17 kw_1417 hd_X10_wrong ⟨Nat.le_of_ble_eq_true rfl, Nat.le_of_ble_eq_true rfl⟩ rfl rfl rfl (Nat.le_of_ble_eq_true rfl) ⟨Nat.le_of_ble_eq_true rfl, Nat.le_of_ble_eq_true rfl⟩ dX10_numeral_43 (fun H locs G => ?_)
    exact K46 q0 x1 d4 hf _ _ ls (lv_sub hl [0, 1] rfl) G
  unfold f_X10_numeral at hf
  refine lv_aload_n hx hb dX10_numeral_0 rfl (lv_at hl 0 rfl) ?_
  obtain ⟨v5, hv5, hf⟩ := x_ob hf
  refine xr_getI (ci := 10) (k := 26) S G hv5 rfl kw_1194 dX10_numeral_1 ?_
  refine lv_if_eq (tgt := 9) hx hb dX10_numeral_4 (by decide) (fun c => ?_) (fun c => ?_)
  · have hf := x_pos c hf
    refine lv_aload_n hx hb dX10_numeral_9 rfl (lv_at hl 0 rfl) ?_
    obtain ⟨v6, hv6, hf⟩ := x_ob hf
    refine xr_getI (ci := 10) (k := 24) S G hv6 rfl kw_1192 dX10_numeral_10 ?_
    refine lv_iconst (v := (2 : Int32)) hx hb dX10_numeral_13 (by decide) ?_
    refine lv_icmp_eq (tgt := 25) hx hb dX10_numeral_14 (by decide) (fun c => ?_) (fun c => ?_)
    · have hf := x_pos c hf
      refine lv_aload_n hx hb dX10_numeral_25 rfl (lv_at hl 0 rfl) ?_
      obtain ⟨v7, hv7, hf⟩ := x_ob hf
      refine xr_getI (ci := 10) (k := 25) S G hv7 rfl kw_1193 dX10_numeral_26 ?_
      refine lv_iload_n hx hb dX10_numeral_29 rfl (lv_at hl 1 rfl) ?_
      refine lv_icmp_lt (tgt := 41) hx hb dX10_numeral_30 (by decide) (fun c => ?_) (fun c => ?_)
      · have hf := x_pos c hf
        exact K41 q0 x1 d hf _ _ ls (lv_sub hl [0, 1] rfl) G
      · have hf := x_neg c hf
        refine lv_aload_n hx hb dX10_numeral_33 rfl (lv_at hl 0 rfl) ?_
        obtain ⟨v8, hv8, hf⟩ := x_ob hf
        refine xr_getI (ci := 10) (k := 25) S G hv8 rfl kw_1193 dX10_numeral_34 ?_
        refine lv_iload_n hx hb dX10_numeral_37 rfl (lv_at hl 2 rfl) ?_
        refine lv_icmp_le (tgt := 46) hx hb dX10_numeral_38 (by decide) (fun c => ?_) (fun c => ?_)
        · have hf := x_pos c hf
          exact K46 q0 x1 d hf _ _ ls (lv_sub hl [0, 1] rfl) G
        · have hf := x_neg c hf
          exact K41 q0 x1 d hf _ _ ls (lv_sub hl [0, 1] rfl) G
    · have hf := x_neg c hf
      refine lv_aload_n hx hb dX10_numeral_17 rfl (lv_at hl 0 rfl) ?_
      refine lv_iconst (v := (1 : Int32)) hx hb dX10_numeral_18 (by decide) ?_
      obtain ⟨d9, hd9, hf⟩ := x_ob hf
      obtain ⟨hqd9, hd9⟩ := xon_of hd9
      refine xr_callV (ci := 10) (As := [.int (1 : Int32)]) (rest := []) (st1 := []) S G hl.1 (fun _ => rfl) (mt_X10_wrong l D cid b ex sa sv B0 sh q0 (1 : Int32) d _ hd9) hqd9 (by decide) kw_1414 kw_1416 ks_44 kw_17 kw_1417 hd_X10_wrong ⟨Nat.le_of_ble_eq_true rfl, Nat.le_of_ble_eq_true rfl⟩ rfl rfl rfl (Nat.le_of_ble_eq_true rfl) ⟨Nat.le_of_ble_eq_true rfl, Nat.le_of_ble_eq_true rfl⟩ dX10_numeral_19 (fun H locs G => ?_)
      refine lv_goto (tgt := 46) hx hb dX10_numeral_22 (by decide) ?_
      exact K46 q0 x1 d9 hf _ _ ls (lv_sub hl [0, 1] rfl) G
  · have hf := x_neg c hf
    refine lv_iload_n hx hb dX10_numeral_7 rfl (lv_at hl 1 rfl) ?_
    cases hf
    exact xr_iret S G (fun _ => rfl) hr dX10_numeral_8
-- HalfLandingsModel.fresh([III)I
theorem dX10_fresh_0 : decode cX10_fresh 0 = .ok (.aload_n 0, 1) := by decide +kernel
theorem dX10_fresh_1 : decode cX10_fresh 1 = .ok (.getfield 199, 3) := by decide +kernel
theorem dX10_fresh_4 : decode cX10_fresh 4 = .ok (.ifCond .eq 5, 3) := by decide +kernel
theorem dX10_fresh_7 : decode cX10_fresh 7 = .ok (.iconst 0, 1) := by decide +kernel
theorem dX10_fresh_8 : decode cX10_fresh 8 = .ok (.ireturn, 1) := by decide +kernel
theorem dX10_fresh_9 : decode cX10_fresh 9 = .ok (.aload_n 0, 1) := by decide +kernel
theorem dX10_fresh_10 : decode cX10_fresh 10 = .ok (.getfield 164, 3) := by decide +kernel
theorem dX10_fresh_13 : decode cX10_fresh 13 = .ok (.iconst 1, 1) := by decide +kernel
theorem dX10_fresh_14 : decode cX10_fresh 14 = .ok (.if_icmp .eq 11, 3) := by decide +kernel
theorem dX10_fresh_17 : decode cX10_fresh 17 = .ok (.aload_n 0, 1) := by decide +kernel
theorem dX10_fresh_18 : decode cX10_fresh 18 = .ok (.iconst 1, 1) := by decide +kernel
theorem dX10_fresh_19 : decode cX10_fresh 19 = .ok (.invokevirtual 208, 3) := by decide +kernel
theorem dX10_fresh_22 : decode cX10_fresh 22 = .ok (.goto 22, 3) := by decide +kernel
theorem dX10_fresh_25 : decode cX10_fresh 25 = .ok (.aload_n 1, 1) := by decide +kernel
theorem dX10_fresh_26 : decode cX10_fresh 26 = .ok (.iload_n 2, 1) := by decide +kernel
theorem dX10_fresh_27 : decode cX10_fresh 27 = .ok (.iload_n 3, 1) := by decide +kernel
theorem dX10_fresh_28 : decode cX10_fresh 28 = .ok (.aload_n 0, 1) := by decide +kernel
theorem dX10_fresh_29 : decode cX10_fresh 29 = .ok (.getfield 174, 3) := by decide +kernel
theorem dX10_fresh_32 : decode cX10_fresh 32 = .ok (.invokestatic 211, 3) := by decide +kernel
theorem dX10_fresh_35 : decode cX10_fresh 35 = .ok (.iconst (-1), 1) := by decide +kernel
theorem dX10_fresh_36 : decode cX10_fresh 36 = .ok (.if_icmp .eq 8, 3) := by decide +kernel
theorem dX10_fresh_39 : decode cX10_fresh 39 = .ok (.aload_n 0, 1) := by decide +kernel
theorem dX10_fresh_40 : decode cX10_fresh 40 = .ok (.iconst 3, 1) := by decide +kernel
theorem dX10_fresh_41 : decode cX10_fresh 41 = .ok (.invokevirtual 208, 3) := by decide +kernel
theorem dX10_fresh_44 : decode cX10_fresh 44 = .ok (.aload_n 0, 1) := by decide +kernel
theorem dX10_fresh_45 : decode cX10_fresh 45 = .ok (.getfield 199, 3) := by decide +kernel
theorem dX10_fresh_48 : decode cX10_fresh 48 = .ok (.ifCond .eq 5, 3) := by decide +kernel
theorem dX10_fresh_51 : decode cX10_fresh 51 = .ok (.iconst 0, 1) := by decide +kernel
theorem dX10_fresh_52 : decode cX10_fresh 52 = .ok (.ireturn, 1) := by decide +kernel
theorem dX10_fresh_53 : decode cX10_fresh 53 = .ok (.aload_n 0, 1) := by decide +kernel
theorem dX10_fresh_54 : decode cX10_fresh 54 = .ok (.getfield 174, 3) := by decide +kernel
theorem dX10_fresh_57 : decode cX10_fresh 57 = .ok (.istore 4, 2) := by decide +kernel
theorem dX10_fresh_59 : decode cX10_fresh 59 = .ok (.aload_n 0, 1) := by decide +kernel
theorem dX10_fresh_60 : decode cX10_fresh 60 = .ok (.invokevirtual 205, 3) := by decide +kernel
theorem dX10_fresh_63 : decode cX10_fresh 63 = .ok (.iload 4, 2) := by decide +kernel
theorem dX10_fresh_65 : decode cX10_fresh 65 = .ok (.ireturn, 1) := by decide +kernel
theorem hd_X10_fresh : yX10_fresh.cls = xCn 10 ∧ yX10_fresh.cls ≠ "java/lang/invoke/MethodHandle" ∧ yX10_fresh.cls ≠ "java/lang/invoke/VarHandle" ∧ (parseMethodDescriptor yX10_fresh.desc).map (fun d => d.parameters.length) = some 3 := by decide +kernel
def k_X10_fresh_44 (sh : List xSh) (q0 : Nat) (d : xD) : Option (Int32 × xD) :=
  (xgI 10 sh d q0 26).bind fun v1 => if v1 = 0 then ((xgI 10 sh d q0 25).bind fun v2 => (xon 10 sh q0 (f_X10_token sh q0 d)).bind fun d3 => some (v2, d3)) else (some ((0 : Int32), d))
def f_X10_fresh (sh : List xSh) (q0 : Nat) (q1 : Nat) (x2 : Int32) (x3 : Int32) (d : xD) : Option (Int32 × xD) :=
  (xgI 10 sh d q0 26).bind fun v4 => if v4 = 0 then ((xgI 10 sh d q0 24).bind fun v5 => if v5 = (1 : Int32) then ((xgI 10 sh d q0 25).bind fun v6 => (f_X10_found sh q1 x2 x3 v6 d).bind fun z7 => if z7.1 = (-1 : Int32) then (k_X10_fresh_44 sh q0 z7.2) else ((xon 10 sh q0 (f_X10_wrong sh q0 (3 : Int32) z7.2)).bind fun d8 => k_X10_fresh_44 sh q0 d8)) else ((xon 10 sh q0 (f_X10_wrong sh q0 (1 : Int32) d)).bind fun d9 => k_X10_fresh_44 sh q0 d9)) else (some ((0 : Int32), d))
set_option maxHeartbeats 4000000 in
set_option maxRecDepth 100000 in
theorem mt_X10_fresh (l : Launch) (D : va_G) (cid : FieldType → ClassId) (b : Nat) (ex : Bool) (sa sv B0 : Nat) (sh : List xSh) (q0 : Nat) (q1 : Nat) (x2 : Int32) (x3 : Int32) (d : xD) (r : Int32) (dz : xD) (hf : f_X10_fresh sh q0 q1 x2 x3 d = some (r, dz)) : xMet l yX10_fresh cX10_fresh 5 (some .int) 6 0 0 D cid b ex sa sv B0 [.ref (b + q0), .ref (b + q1), .int x2, .int x3] sh d (some (.int r)) sh dz := by
  refine xMet.of (by decide) (Nat.le_of_ble_eq_true rfl) ?_
  intro p e s m below meth c ls A S hr hin G hl
  have hl : lv_has ls 5 [(0, .ref (b + q0)), (1, .ref (b + q1)), (2, .int x2), (3, .int x3)] := hl
  generalize ([.ref (b + q0), .ref (b + q1), .int x2, .int x3] : List Value).toArray = av at S ⊢
  have hx := S.1
  have hb := S.2.1
  have hml := S.2.2.1
  have hown := S.2.2.2.1
  have hts := S.2.2.2.2.1
  have K44 : ∀ (q0 : Nat) (d : xD), k_X10_fresh_44 sh q0 d = some (r, dz) → ∀ (H : Heap) (locs : List Loc) (ls : Array Slot), lv_has ls 5 [(0, .ref (b + q0))] → xG D cid b A sh d s H locs → W p l e (xRm 6 0 0) s m av below meth c H locs 0 0 (MQ below (xQ D cid b ex A (some (.int r)) sh dz) av s 0 0 A) (F0 m 44 ls []) := by
    intro q0 d hf H locs ls hl G
    unfold k_X10_fresh_44 at hf
    refine lv_aload_n hx hb dX10_fresh_44 rfl (lv_at hl 0 rfl) ?_
    obtain ⟨v1, hv1, hf⟩ := x_ob hf
    refine xr_getI (ci := 10) (k := 26) S G hv1 rfl kw_1194 dX10_fresh_45 ?_
    refine lv_if_eq (tgt := 53) hx hb dX10_fresh_48 (by decide) (fun c => ?_) (fun c => ?_)
    · have hf := x_pos c hf
      refine lv_aload_n hx hb dX10_fresh_53 rfl (lv_at hl 0 rfl) ?_
      obtain ⟨v2, hv2, hf⟩ := x_ob hf
      refine xr_getI (ci := 10) (k := 25) S G hv2 rfl kw_1193 dX10_fresh_54 ?_
      refine lv_istore (lv' := [(4, .int v2), (0, .ref (b + q0))]) hx hb dX10_fresh_57 hl (by decide) rfl (fun ls hl => ?_)
      refine lv_aload_n hx hb dX10_fresh_59 rfl (lv_at hl 1 rfl) ?_
      obtain ⟨d3, hd3, hf⟩ := x_ob hf
      obtain ⟨hqd3, hd3⟩ := xon_of hd3
      refine xr_callV (ci := 10) (As := []) (rest := []) (st1 := []) S G hl.1 (fun _ => rfl) (mt_X10_token l D cid b ex sa sv B0 sh q0 d _ hd3) hqd3 (by decide) kw_1380 kw_1382 ks_38 kw_17 kw_1383 hd_X10_token ⟨Nat.le_of_ble_eq_true rfl, Nat.le_of_ble_eq_true rfl⟩ rfl rfl rfl (Nat.le_of_ble_eq_true rfl) ⟨Nat.le_of_ble_eq_true rfl, Nat.le_of_ble_eq_true rfl⟩ dX10_fresh_60 (fun H locs G => ?_)
      refine lv_iload hx hb dX10_fresh_63 (lv_at hl 0 rfl) ?_
      cases hf
      exact xr_iret S G (fun _ => rfl) hr dX10_fresh_65
    · have hf := x_neg c hf
      refine lv_iconst (v := (0 : Int32)) hx hb dX10_fresh_51 (by decide) ?_
      cases hf
      exact xr_iret S G (fun _ => rfl) hr dX10_fresh_52
  unfold f_X10_fresh at hf
  refine lv_aload_n hx hb dX10_fresh_0 rfl (lv_at hl 0 rfl) ?_
  obtain ⟨v4, hv4, hf⟩ := x_ob hf
  refine xr_getI (ci := 10) (k := 26) S G hv4 rfl kw_1194 dX10_fresh_1 ?_
  refine lv_if_eq (tgt := 9) hx hb dX10_fresh_4 (by decide) (fun c => ?_) (fun c => ?_)
  · have hf := x_pos c hf
    refine lv_aload_n hx hb dX10_fresh_9 rfl (lv_at hl 0 rfl) ?_
    obtain ⟨v5, hv5, hf⟩ := x_ob hf
    refine xr_getI (ci := 10) (k := 24) S G hv5 rfl kw_1192 dX10_fresh_10 ?_
    refine lv_iconst (v := (1 : Int32)) hx hb dX10_fresh_13 (by decide) ?_
    refine lv_icmp_eq (tgt := 25) hx hb dX10_fresh_14 (by decide) (fun c => ?_) (fun c => ?_)
    · have hf := x_pos c hf
      refine lv_aload_n hx hb dX10_fresh_25 rfl (lv_at hl 1 rfl) ?_
      refine lv_iload_n hx hb dX10_fresh_26 rfl (lv_at hl 2 rfl) ?_
      refine lv_iload_n hx hb dX10_fresh_27 rfl (lv_at hl 3 rfl) ?_
      refine lv_aload_n hx hb dX10_fresh_28 rfl (lv_at hl 0 rfl) ?_
      obtain ⟨v6, hv6, hf⟩ := x_ob hf
      refine xr_getI (ci := 10) (k := 25) S G hv6 rfl kw_1193 dX10_fresh_29 ?_
      obtain ⟨z7, hz7, hf⟩ := x_ob hf
      refine xr_callS (As := [.ref (b + q1), .int x2, .int x3, .int v6]) (rest := []) (st1 := [.int z7.1]) S G hl.1 (fun _ => rfl) (mt_X10_found l D cid b ex sa sv B0 sh q1 x2 x3 v6 d _ _ hz7) kw_1434 kw_1435 kw_17 kw_1436 hd_X10_found ⟨Nat.le_of_ble_eq_true rfl, Nat.le_of_ble_eq_true rfl⟩ rfl rfl rfl (Nat.le_of_ble_eq_true rfl) ⟨Nat.le_of_ble_eq_true rfl, Nat.le_of_ble_eq_true rfl⟩ dX10_fresh_32 (fun H locs G => ?_)
      refine lv_iconst (v := (-1 : Int32)) hx hb dX10_fresh_35 (by decide) ?_
      refine lv_icmp_eq (tgt := 44) hx hb dX10_fresh_36 (by decide) (fun c => ?_) (fun c => ?_)
      · have hf := x_pos c hf
        exact K44 q0 z7.2 hf _ _ ls (lv_sub hl [0] rfl) G
      · have hf := x_neg c hf
        refine lv_aload_n hx hb dX10_fresh_39 rfl (lv_at hl 0 rfl) ?_
        refine lv_iconst (v := (3 : Int32)) hx hb dX10_fresh_40 (by decide) ?_
        obtain ⟨d8, hd8, hf⟩ := x_ob hf
        obtain ⟨hqd8, hd8⟩ := xon_of hd8
        refine xr_callV (ci := 10) (As := [.int (3 : Int32)]) (rest := []) (st1 := []) S G hl.1 (fun _ => rfl) (mt_X10_wrong l D cid b ex sa sv B0 sh q0 (3 : Int32) z7.2 _ hd8) hqd8 (by decide) kw_1414 kw_1416 ks_44 kw_17 kw_1417 hd_X10_wrong ⟨Nat.le_of_ble_eq_true rfl, Nat.le_of_ble_eq_true rfl⟩ rfl rfl rfl (Nat.le_of_ble_eq_true rfl) ⟨Nat.le_of_ble_eq_true rfl, Nat.le_of_ble_eq_true rfl⟩ dX10_fresh_41 (fun H locs G => ?_)
        exact K44 q0 d8 hf _ _ ls (lv_sub hl [0] rfl) G
    · have hf := x_neg c hf
      refine lv_aload_n hx hb dX10_fresh_17 rfl (lv_at hl 0 rfl) ?_
      refine lv_iconst (v := (1 : Int32)) hx hb dX10_fresh_18 (by decide) ?_
      obtain ⟨d9, hd9, hf⟩ := x_ob hf
      obtain ⟨hqd9, hd9⟩ := xon_of hd9
      refine xr_callV (ci := 10) (As := [.int (1 : Int32)]) (rest := []) (st1 := []) S G hl.1 (fun _ => rfl) (mt_X10_wrong l D cid b ex sa sv B0 sh q0 (1 : Int32) d _ hd9) hqd9 (by decide) kw_1414 kw_1416 ks_44 kw_17 kw_1417 hd_X10_wrong ⟨Nat.le_of_ble_eq_true rfl, Nat.le_of_ble_eq_true rfl⟩ rfl rfl rfl (Nat.le_of_ble_eq_true rfl) ⟨Nat.le_of_ble_eq_true rfl, Nat.le_of_ble_eq_true rfl⟩ dX10_fresh_19 (fun H locs G => ?_)
      refine lv_goto (tgt := 44) hx hb dX10_fresh_22 (by decide) ?_
      exact K44 q0 d9 hf _ _ ls (lv_sub hl [0] rfl) G
  · have hf := x_neg c hf
    refine lv_iconst (v := (0 : Int32)) hx hb dX10_fresh_7 (by decide) ?_
    cases hf
    exact xr_iret S G (fun _ => rfl) hr dX10_fresh_8
-- HalfLandingsModel.toldAhead([III)I
theorem dX10_toldAhead_0 : decode cX10_toldAhead 0 = .ok (.aload_n 0, 1) := by decide +kernel
theorem dX10_toldAhead_1 : decode cX10_toldAhead 1 = .ok (.getfield 199, 3) := by decide +kernel
theorem dX10_toldAhead_4 : decode cX10_toldAhead 4 = .ok (.ifCond .eq 5, 3) := by decide +kernel
theorem dX10_toldAhead_7 : decode cX10_toldAhead 7 = .ok (.iconst 0, 1) := by decide +kernel
theorem dX10_toldAhead_8 : decode cX10_toldAhead 8 = .ok (.ireturn, 1) := by decide +kernel
theorem dX10_toldAhead_9 : decode cX10_toldAhead 9 = .ok (.aload_n 0, 1) := by decide +kernel
theorem dX10_toldAhead_10 : decode cX10_toldAhead 10 = .ok (.getfield 164, 3) := by decide +kernel
theorem dX10_toldAhead_13 : decode cX10_toldAhead 13 = .ok (.iconst 1, 1) := by decide +kernel
theorem dX10_toldAhead_14 : decode cX10_toldAhead 14 = .ok (.if_icmp .eq 8, 3) := by decide +kernel
theorem dX10_toldAhead_17 : decode cX10_toldAhead 17 = .ok (.aload_n 0, 1) := by decide +kernel
theorem dX10_toldAhead_18 : decode cX10_toldAhead 18 = .ok (.iconst 1, 1) := by decide +kernel
theorem dX10_toldAhead_19 : decode cX10_toldAhead 19 = .ok (.invokevirtual 208, 3) := by decide +kernel
theorem dX10_toldAhead_22 : decode cX10_toldAhead 22 = .ok (.aload_n 0, 1) := by decide +kernel
theorem dX10_toldAhead_23 : decode cX10_toldAhead 23 = .ok (.getfield 199, 3) := by decide +kernel
theorem dX10_toldAhead_26 : decode cX10_toldAhead 26 = .ok (.ifCond .ne 16, 3) := by decide +kernel
theorem dX10_toldAhead_29 : decode cX10_toldAhead 29 = .ok (.aload_n 1, 1) := by decide +kernel
theorem dX10_toldAhead_30 : decode cX10_toldAhead 30 = .ok (.iload_n 2, 1) := by decide +kernel
theorem dX10_toldAhead_31 : decode cX10_toldAhead 31 = .ok (.iload_n 3, 1) := by decide +kernel
theorem dX10_toldAhead_32 : decode cX10_toldAhead 32 = .ok (.aload_n 0, 1) := by decide +kernel
theorem dX10_toldAhead_33 : decode cX10_toldAhead 33 = .ok (.getfield 174, 3) := by decide +kernel
theorem dX10_toldAhead_36 : decode cX10_toldAhead 36 = .ok (.invokestatic 211, 3) := by decide +kernel
theorem dX10_toldAhead_39 : decode cX10_toldAhead 39 = .ok (.goto 4, 3) := by decide +kernel
theorem dX10_toldAhead_42 : decode cX10_toldAhead 42 = .ok (.iconst 0, 1) := by decide +kernel
theorem dX10_toldAhead_43 : decode cX10_toldAhead 43 = .ok (.istore 4, 2) := by decide +kernel
theorem dX10_toldAhead_45 : decode cX10_toldAhead 45 = .ok (.aload_n 0, 1) := by decide +kernel
theorem dX10_toldAhead_46 : decode cX10_toldAhead 46 = .ok (.getfield 199, 3) := by decide +kernel
theorem dX10_toldAhead_49 : decode cX10_toldAhead 49 = .ok (.ifCond .ne 14, 3) := by decide +kernel
theorem dX10_toldAhead_52 : decode cX10_toldAhead 52 = .ok (.iload 4, 2) := by decide +kernel
theorem dX10_toldAhead_54 : decode cX10_toldAhead 54 = .ok (.iconst (-1), 1) := by decide +kernel
theorem dX10_toldAhead_55 : decode cX10_toldAhead 55 = .ok (.if_icmp .ne 8, 3) := by decide +kernel
theorem dX10_toldAhead_58 : decode cX10_toldAhead 58 = .ok (.aload_n 0, 1) := by decide +kernel
theorem dX10_toldAhead_59 : decode cX10_toldAhead 59 = .ok (.iconst 4, 1) := by decide +kernel
theorem dX10_toldAhead_60 : decode cX10_toldAhead 60 = .ok (.invokevirtual 208, 3) := by decide +kernel
theorem dX10_toldAhead_63 : decode cX10_toldAhead 63 = .ok (.aload_n 0, 1) := by decide +kernel
theorem dX10_toldAhead_64 : decode cX10_toldAhead 64 = .ok (.invokevirtual 215, 3) := by decide +kernel
theorem dX10_toldAhead_67 : decode cX10_toldAhead 67 = .ok (.aload_n 0, 1) := by decide +kernel
theorem dX10_toldAhead_68 : decode cX10_toldAhead 68 = .ok (.getfield 199, 3) := by decide +kernel
theorem dX10_toldAhead_71 : decode cX10_toldAhead 71 = .ok (.ifCond .eq 7, 3) := by decide +kernel
theorem dX10_toldAhead_74 : decode cX10_toldAhead 74 = .ok (.iconst 0, 1) := by decide +kernel
theorem dX10_toldAhead_75 : decode cX10_toldAhead 75 = .ok (.goto 5, 3) := by decide +kernel
theorem dX10_toldAhead_78 : decode cX10_toldAhead 78 = .ok (.iload 4, 2) := by decide +kernel
theorem dX10_toldAhead_80 : decode cX10_toldAhead 80 = .ok (.ireturn, 1) := by decide +kernel
theorem hd_X10_toldAhead : yX10_toldAhead.cls = xCn 10 ∧ yX10_toldAhead.cls ≠ "java/lang/invoke/MethodHandle" ∧ yX10_toldAhead.cls ≠ "java/lang/invoke/VarHandle" ∧ (parseMethodDescriptor yX10_toldAhead.desc).map (fun d => d.parameters.length) = some 3 := by decide +kernel
def k_X10_toldAhead_80 (sh : List xSh) (y0 : Int32) (d : xD) : Option (Int32 × xD) :=
  some (y0, d)
def k_X10_toldAhead_63 (sh : List xSh) (q0 : Nat) (x4 : Int32) (d : xD) : Option (Int32 × xD) :=
  (xon 10 sh q0 (f_X10_goOn sh q0 d)).bind fun d1 => (xgI 10 sh d1 q0 26).bind fun v2 => if v2 = 0 then (k_X10_toldAhead_80 sh x4 d1) else (k_X10_toldAhead_80 sh (0 : Int32) d1)
def k_X10_toldAhead_43 (sh : List xSh) (q0 : Nat) (y0 : Int32) (d : xD) : Option (Int32 × xD) :=
  (xgI 10 sh d q0 26).bind fun v3 => if v3 = 0 then (if y0 = (-1 : Int32) then ((xon 10 sh q0 (f_X10_wrong sh q0 (4 : Int32) d)).bind fun d4 => k_X10_toldAhead_63 sh q0 y0 d4) else (k_X10_toldAhead_63 sh q0 y0 d)) else (k_X10_toldAhead_63 sh q0 y0 d)
def k_X10_toldAhead_22 (sh : List xSh) (q0 : Nat) (q1 : Nat) (x2 : Int32) (x3 : Int32) (d : xD) : Option (Int32 × xD) :=
  (xgI 10 sh d q0 26).bind fun v5 => if v5 = 0 then ((xgI 10 sh d q0 25).bind fun v6 => (f_X10_found sh q1 x2 x3 v6 d).bind fun z7 => k_X10_toldAhead_43 sh q0 z7.1 z7.2) else (k_X10_toldAhead_43 sh q0 (0 : Int32) d)
def f_X10_toldAhead (sh : List xSh) (q0 : Nat) (q1 : Nat) (x2 : Int32) (x3 : Int32) (d : xD) : Option (Int32 × xD) :=
  (xgI 10 sh d q0 26).bind fun v8 => if v8 = 0 then ((xgI 10 sh d q0 24).bind fun v9 => if v9 = (1 : Int32) then (k_X10_toldAhead_22 sh q0 q1 x2 x3 d) else ((xon 10 sh q0 (f_X10_wrong sh q0 (1 : Int32) d)).bind fun d10 => k_X10_toldAhead_22 sh q0 q1 x2 x3 d10)) else (some ((0 : Int32), d))
set_option maxHeartbeats 4000000 in
set_option maxRecDepth 100000 in
theorem mt_X10_toldAhead (l : Launch) (D : va_G) (cid : FieldType → ClassId) (b : Nat) (ex : Bool) (sa sv B0 : Nat) (sh : List xSh) (q0 : Nat) (q1 : Nat) (x2 : Int32) (x3 : Int32) (d : xD) (r : Int32) (dz : xD) (hf : f_X10_toldAhead sh q0 q1 x2 x3 d = some (r, dz)) : xMet l yX10_toldAhead cX10_toldAhead 5 (some .int) 7 0 0 D cid b ex sa sv B0 [.ref (b + q0), .ref (b + q1), .int x2, .int x3] sh d (some (.int r)) sh dz := by
  refine xMet.of (by decide) (Nat.le_of_ble_eq_true rfl) ?_
  intro p e s m below meth c ls A S hr hin G hl
  have hl : lv_has ls 5 [(0, .ref (b + q0)), (1, .ref (b + q1)), (2, .int x2), (3, .int x3)] := hl
  generalize ([.ref (b + q0), .ref (b + q1), .int x2, .int x3] : List Value).toArray = av at S ⊢
  have hx := S.1
  have hb := S.2.1
  have hml := S.2.2.1
  have hown := S.2.2.2.1
  have hts := S.2.2.2.2.1
  have K80 : ∀ (y0 : Int32) (d : xD), k_X10_toldAhead_80 sh y0 d = some (r, dz) → ∀ (H : Heap) (locs : List Loc) (ls : Array Slot), lv_has ls 5 [] → xG D cid b A sh d s H locs → W p l e (xRm 7 0 0) s m av below meth c H locs 0 0 (MQ below (xQ D cid b ex A (some (.int r)) sh dz) av s 0 0 A) (F0 m 80 ls [.int y0]) := by
    intro y0 d hf H locs ls hl G
    unfold k_X10_toldAhead_80 at hf
    cases hf
    exact xr_iret S G (fun _ => rfl) hr dX10_toldAhead_80
  have K63 : ∀ (q0 : Nat) (x4 : Int32) (d : xD), k_X10_toldAhead_63 sh q0 x4 d = some (r, dz) → ∀ (H : Heap) (locs : List Loc) (ls : Array Slot), lv_has ls 5 [(0, .ref (b + q0)), (4, .int x4)] → xG D cid b A sh d s H locs → W p l e (xRm 7 0 0) s m av below meth c H locs 0 0 (MQ below (xQ D cid b ex A (some (.int r)) sh dz) av s 0 0 A) (F0 m 63 ls []) := by
    intro q0 x4 d hf H locs ls hl G
    unfold k_X10_toldAhead_63 at hf
    refine lv_aload_n hx hb dX10_toldAhead_63 rfl (lv_at hl 0 rfl) ?_
    obtain ⟨d1, hd1, hf⟩ := x_ob hf
    obtain ⟨hqd1, hd1⟩ := xon_of hd1
    refine xr_callV (ci := 10) (As := []) (rest := []) (st1 := []) S G hl.1 (fun _ => rfl) (mt_X10_goOn l D cid b ex sa sv B0 sh q0 d _ hd1) hqd1 (by decide) kw_1441 kw_1443 ks_50 kw_17 kw_1444 hd_X10_goOn ⟨Nat.le_of_ble_eq_true rfl, Nat.le_of_ble_eq_true rfl⟩ rfl rfl rfl (Nat.le_of_ble_eq_true rfl) ⟨Nat.le_of_ble_eq_true rfl, Nat.le_of_ble_eq_true rfl⟩ dX10_toldAhead_64 (fun H locs G => ?_)
    refine lv_aload_n hx hb dX10_toldAhead_67 rfl (lv_at hl 0 rfl) ?_
    obtain ⟨v2, hv2, hf⟩ := x_ob hf
    refine xr_getI (ci := 10) (k := 26) S G hv2 rfl kw_1194 dX10_toldAhead_68 ?_
    refine lv_if_eq (tgt := 78) hx hb dX10_toldAhead_71 (by decide) (fun c => ?_) (fun c => ?_)
    · have hf := x_pos c hf
      refine lv_iload hx hb dX10_toldAhead_78 (lv_at hl 1 rfl) ?_
      exact K80 x4 d1 hf _ _ ls (lv_sub hl [] rfl) G
    · have hf := x_neg c hf
      refine lv_iconst (v := (0 : Int32)) hx hb dX10_toldAhead_74 (by decide) ?_
      refine lv_goto (tgt := 80) hx hb dX10_toldAhead_75 (by decide) ?_
      exact K80 (0 : Int32) d1 hf _ _ ls (lv_sub hl [] rfl) G
  have K43 : ∀ (q0 : Nat) (y0 : Int32) (d : xD), k_X10_toldAhead_43 sh q0 y0 d = some (r, dz) → ∀ (H : Heap) (locs : List Loc) (ls : Array Slot), lv_has ls 5 [(0, .ref (b + q0))] → xG D cid b A sh d s H locs → W p l e (xRm 7 0 0) s m av below meth c H locs 0 0 (MQ below (xQ D cid b ex A (some (.int r)) sh dz) av s 0 0 A) (F0 m 43 ls [.int y0]) := by
    intro q0 y0 d hf H locs ls hl G
    unfold k_X10_toldAhead_43 at hf
    refine lv_istore (lv' := [(4, .int y0), (0, .ref (b + q0))]) hx hb dX10_toldAhead_43 hl (by decide) rfl (fun ls hl => ?_)
    refine lv_aload_n hx hb dX10_toldAhead_45 rfl (lv_at hl 1 rfl) ?_
    obtain ⟨v3, hv3, hf⟩ := x_ob hf
    refine xr_getI (ci := 10) (k := 26) S G hv3 rfl kw_1194 dX10_toldAhead_46 ?_
    refine lv_if_ne (tgt := 63) hx hb dX10_toldAhead_49 (by decide) (fun c => ?_) (fun c => ?_)
    · have hf := x_neg c hf
      exact K63 q0 y0 d hf _ _ ls (lv_sub hl [1, 0] rfl) G
    · have hf := x_pos c hf
      refine lv_iload hx hb dX10_toldAhead_52 (lv_at hl 0 rfl) ?_
      refine lv_iconst (v := (-1 : Int32)) hx hb dX10_toldAhead_54 (by decide) ?_
      refine lv_icmp_ne (tgt := 63) hx hb dX10_toldAhead_55 (by decide) (fun c => ?_) (fun c => ?_)
      · have hf := x_neg c hf
        exact K63 q0 y0 d hf _ _ ls (lv_sub hl [1, 0] rfl) G
      · have hf := x_pos c hf
        refine lv_aload_n hx hb dX10_toldAhead_58 rfl (lv_at hl 1 rfl) ?_
        refine lv_iconst (v := (4 : Int32)) hx hb dX10_toldAhead_59 (by decide) ?_
        obtain ⟨d4, hd4, hf⟩ := x_ob hf
        obtain ⟨hqd4, hd4⟩ := xon_of hd4
        refine xr_callV (ci := 10) (As := [.int (4 : Int32)]) (rest := []) (st1 := []) S G hl.1 (fun _ => rfl) (mt_X10_wrong l D cid b ex sa sv B0 sh q0 (4 : Int32) d _ hd4) hqd4 (by decide) kw_1414 kw_1416 ks_44 kw_17 kw_1417 hd_X10_wrong ⟨Nat.le_of_ble_eq_true rfl, Nat.le_of_ble_eq_true rfl⟩ rfl rfl rfl (Nat.le_of_ble_eq_true rfl) ⟨Nat.le_of_ble_eq_true rfl, Nat.le_of_ble_eq_true rfl⟩ dX10_toldAhead_60 (fun H locs G => ?_)
        exact K63 q0 y0 d4 hf _ _ ls (lv_sub hl [1, 0] rfl) G
  have K22 : ∀ (q0 : Nat) (q1 : Nat) (x2 : Int32) (x3 : Int32) (d : xD), k_X10_toldAhead_22 sh q0 q1 x2 x3 d = some (r, dz) → ∀ (H : Heap) (locs : List Loc) (ls : Array Slot), lv_has ls 5 [(0, .ref (b + q0)), (1, .ref (b + q1)), (2, .int x2), (3, .int x3)] → xG D cid b A sh d s H locs → W p l e (xRm 7 0 0) s m av below meth c H locs 0 0 (MQ below (xQ D cid b ex A (some (.int r)) sh dz) av s 0 0 A) (F0 m 22 ls []) := by
    intro q0 q1 x2 x3 d hf H locs ls hl G
    unfold k_X10_toldAhead_22 at hf
    refine lv_aload_n hx hb dX10_toldAhead_22 rfl (lv_at hl 0 rfl) ?_
    obtain ⟨v5, hv5, hf⟩ := x_ob hf
    refine xr_getI (ci := 10) (k := 26) S G hv5 rfl kw_1194 dX10_toldAhead_23 ?_
    refine lv_if_ne (tgt := 42) hx hb dX10_toldAhead_26 (by decide) (fun c => ?_) (fun c => ?_)
    · have hf := x_neg c hf
      refine lv_iconst (v := (0 : Int32)) hx hb dX10_toldAhead_42 (by decide) ?_
      exact K43 q0 (0 : Int32) d hf _ _ ls (lv_sub hl [0] rfl) G
    · have hf := x_pos c hf
      refine lv_aload_n hx hb dX10_toldAhead_29 rfl (lv_at hl 1 rfl) ?_
      refine lv_iload_n hx hb dX10_toldAhead_30 rfl (lv_at hl 2 rfl) ?_
      refine lv_iload_n hx hb dX10_toldAhead_31 rfl (lv_at hl 3 rfl) ?_
      refine lv_aload_n hx hb dX10_toldAhead_32 rfl (lv_at hl 0 rfl) ?_
      obtain ⟨v6, hv6, hf⟩ := x_ob hf
      refine xr_getI (ci := 10) (k := 25) S G hv6 rfl kw_1193 dX10_toldAhead_33 ?_
      obtain ⟨z7, hz7, hf⟩ := x_ob hf
      refine xr_callS (As := [.ref (b + q1), .int x2, .int x3, .int v6]) (rest := []) (st1 := [.int z7.1]) S G hl.1 (fun _ => rfl) (mt_X10_found l D cid b ex sa sv B0 sh q1 x2 x3 v6 d _ _ hz7) kw_1434 kw_1435 kw_17 kw_1436 hd_X10_found ⟨Nat.le_of_ble_eq_true rfl, Nat.le_of_ble_eq_true rfl⟩ rfl rfl rfl (Nat.le_of_ble_eq_true rfl) ⟨Nat.le_of_ble_eq_true rfl, Nat.le_of_ble_eq_true rfl⟩ dX10_toldAhead_36 (fun H locs G => ?_)
      refine lv_goto (tgt := 43) hx hb dX10_toldAhead_39 (by decide) ?_
      exact K43 q0 z7.1 z7.2 hf _ _ ls (lv_sub hl [0] rfl) G
  unfold f_X10_toldAhead at hf
  refine lv_aload_n hx hb dX10_toldAhead_0 rfl (lv_at hl 0 rfl) ?_
  obtain ⟨v8, hv8, hf⟩ := x_ob hf
  refine xr_getI (ci := 10) (k := 26) S G hv8 rfl kw_1194 dX10_toldAhead_1 ?_
  refine lv_if_eq (tgt := 9) hx hb dX10_toldAhead_4 (by decide) (fun c => ?_) (fun c => ?_)
  · have hf := x_pos c hf
    refine lv_aload_n hx hb dX10_toldAhead_9 rfl (lv_at hl 0 rfl) ?_
    obtain ⟨v9, hv9, hf⟩ := x_ob hf
    refine xr_getI (ci := 10) (k := 24) S G hv9 rfl kw_1192 dX10_toldAhead_10 ?_
    refine lv_iconst (v := (1 : Int32)) hx hb dX10_toldAhead_13 (by decide) ?_
    refine lv_icmp_eq (tgt := 22) hx hb dX10_toldAhead_14 (by decide) (fun c => ?_) (fun c => ?_)
    · have hf := x_pos c hf
      exact K22 q0 q1 x2 x3 d hf _ _ ls (lv_sub hl [0, 1, 2, 3] rfl) G
    · have hf := x_neg c hf
      refine lv_aload_n hx hb dX10_toldAhead_17 rfl (lv_at hl 0 rfl) ?_
      refine lv_iconst (v := (1 : Int32)) hx hb dX10_toldAhead_18 (by decide) ?_
      obtain ⟨d10, hd10, hf⟩ := x_ob hf
      obtain ⟨hqd10, hd10⟩ := xon_of hd10
      refine xr_callV (ci := 10) (As := [.int (1 : Int32)]) (rest := []) (st1 := []) S G hl.1 (fun _ => rfl) (mt_X10_wrong l D cid b ex sa sv B0 sh q0 (1 : Int32) d _ hd10) hqd10 (by decide) kw_1414 kw_1416 ks_44 kw_17 kw_1417 hd_X10_wrong ⟨Nat.le_of_ble_eq_true rfl, Nat.le_of_ble_eq_true rfl⟩ rfl rfl rfl (Nat.le_of_ble_eq_true rfl) ⟨Nat.le_of_ble_eq_true rfl, Nat.le_of_ble_eq_true rfl⟩ dX10_toldAhead_19 (fun H locs G => ?_)
      exact K22 q0 q1 x2 x3 d10 hf _ _ ls (lv_sub hl [0, 1, 2, 3] rfl) G
  · have hf := x_neg c hf
    refine lv_iconst (v := (0 : Int32)) hx hb dX10_toldAhead_7 (by decide) ?_
    cases hf
    exact xr_iret S G (fun _ => rfl) hr dX10_toldAhead_8

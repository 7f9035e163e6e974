-- HalfLandings$LawReader.rankOf(I)I
theorem dX0_rankOf_0 : decode cX0_rankOf 0 = .ok (.iload_n 0, 1) := by decide +kernel
theorem dX0_rankOf_1 : decode cX0_rankOf 1 = .ok (.bipush 11, 2) := by decide +kernel
theorem dX0_rankOf_3 : decode cX0_rankOf 3 = .ok (.if_icmp .ne 5, 3) := by decide +kernel
theorem dX0_rankOf_6 : decode cX0_rankOf 6 = .ok (.iconst 1, 1) := by decide +kernel
theorem dX0_rankOf_7 : decode cX0_rankOf 7 = .ok (.ireturn, 1) := by decide +kernel
theorem dX0_rankOf_8 : decode cX0_rankOf 8 = .ok (.iload_n 0, 1) := by decide +kernel
theorem dX0_rankOf_9 : decode cX0_rankOf 9 = .ok (.bipush 12, 2) := by decide +kernel
theorem dX0_rankOf_11 : decode cX0_rankOf 11 = .ok (.if_icmp .ne 5, 3) := by decide +kernel
theorem dX0_rankOf_14 : decode cX0_rankOf 14 = .ok (.iconst 2, 1) := by decide +kernel
theorem dX0_rankOf_15 : decode cX0_rankOf 15 = .ok (.ireturn, 1) := by decide +kernel
theorem dX0_rankOf_16 : decode cX0_rankOf 16 = .ok (.iload_n 0, 1) := by decide +kernel
theorem dX0_rankOf_17 : decode cX0_rankOf 17 = .ok (.bipush 13, 2) := by decide +kernel
theorem dX0_rankOf_19 : decode cX0_rankOf 19 = .ok (.if_icmp .ne 5, 3) := by decide +kernel
theorem dX0_rankOf_22 : decode cX0_rankOf 22 = .ok (.iconst 3, 1) := by decide +kernel
theorem dX0_rankOf_23 : decode cX0_rankOf 23 = .ok (.ireturn, 1) := by decide +kernel
theorem dX0_rankOf_24 : decode cX0_rankOf 24 = .ok (.iload_n 0, 1) := by decide +kernel
theorem dX0_rankOf_25 : decode cX0_rankOf 25 = .ok (.bipush 30, 2) := by decide +kernel
theorem dX0_rankOf_27 : decode cX0_rankOf 27 = .ok (.if_icmp .lt 11, 3) := by decide +kernel
theorem dX0_rankOf_30 : decode cX0_rankOf 30 = .ok (.iload_n 0, 1) := by decide +kernel
theorem dX0_rankOf_31 : decode cX0_rankOf 31 = .ok (.bipush 35, 2) := by decide +kernel
theorem dX0_rankOf_33 : decode cX0_rankOf 33 = .ok (.if_icmp .gt 5, 3) := by decide +kernel
theorem dX0_rankOf_36 : decode cX0_rankOf 36 = .ok (.iconst 4, 1) := by decide +kernel
theorem dX0_rankOf_37 : decode cX0_rankOf 37 = .ok (.ireturn, 1) := by decide +kernel
theorem dX0_rankOf_38 : decode cX0_rankOf 38 = .ok (.iload_n 0, 1) := by decide +kernel
theorem dX0_rankOf_39 : decode cX0_rankOf 39 = .ok (.bipush 26, 2) := by decide +kernel
theorem dX0_rankOf_41 : decode cX0_rankOf 41 = .ok (.if_icmp .eq 9, 3) := by decide +kernel
theorem dX0_rankOf_44 : decode cX0_rankOf 44 = .ok (.iload_n 0, 1) := by decide +kernel
theorem dX0_rankOf_45 : decode cX0_rankOf 45 = .ok (.bipush 27, 2) := by decide +kernel
theorem dX0_rankOf_47 : decode cX0_rankOf 47 = .ok (.if_icmp .ne 5, 3) := by decide +kernel
theorem dX0_rankOf_50 : decode cX0_rankOf 50 = .ok (.iconst 5, 1) := by decide +kernel
theorem dX0_rankOf_51 : decode cX0_rankOf 51 = .ok (.ireturn, 1) := by decide +kernel
theorem dX0_rankOf_52 : decode cX0_rankOf 52 = .ok (.iload_n 0, 1) := by decide +kernel
theorem dX0_rankOf_53 : decode cX0_rankOf 53 = .ok (.bipush 28, 2) := by decide +kernel
theorem dX0_rankOf_55 : decode cX0_rankOf 55 = .ok (.if_icmp .eq 9, 3) := by decide +kernel
theorem dX0_rankOf_58 : decode cX0_rankOf 58 = .ok (.iload_n 0, 1) := by decide +kernel
theorem dX0_rankOf_59 : decode cX0_rankOf 59 = .ok (.bipush 29, 2) := by decide +kernel
theorem dX0_rankOf_61 : decode cX0_rankOf 61 = .ok (.if_icmp .ne 8, 3) := by decide +kernel
theorem dX0_rankOf_64 : decode cX0_rankOf 64 = .ok (.bipush 6, 2) := by decide +kernel
theorem dX0_rankOf_66 : decode cX0_rankOf 66 = .ok (.goto 4, 3) := by decide +kernel
theorem dX0_rankOf_69 : decode cX0_rankOf 69 = .ok (.iconst 0, 1) := by decide +kernel
theorem dX0_rankOf_70 : decode cX0_rankOf 70 = .ok (.ireturn, 1) := by decide +kernel
theorem hd_X0_rankOf : yX0_rankOf.cls ≠ "java/lang/invoke/MethodHandle" ∧ yX0_rankOf.cls ≠ "java/lang/invoke/VarHandle" ∧ (parseMethodDescriptor yX0_rankOf.desc).map (fun d => d.parameters.length) = some 1 := by decide +kernel
def k_X0_rankOf_50 (sh : List xSh) (d : xD) : Option (Int32 × xD) :=
  some ((5 : Int32), d)
def k_X0_rankOf_70 (sh : List xSh) (y0 : Int32) (d : xD) : Option (Int32 × xD) :=
  some (y0, d)
def k_X0_rankOf_64 (sh : List xSh) (d : xD) : Option (Int32 × xD) :=
  k_X0_rankOf_70 sh (6 : Int32) d
def k_X0_rankOf_38 (sh : List xSh) (x0 : Int32) (d : xD) : Option (Int32 × xD) :=
  if x0 = (26 : Int32) then (k_X0_rankOf_50 sh d) else (if x0 = (27 : Int32) then (k_X0_rankOf_50 sh d) else (if x0 = (28 : Int32) then (k_X0_rankOf_64 sh d) else (if x0 = (29 : Int32) then (k_X0_rankOf_64 sh d) else (k_X0_rankOf_70 sh (0 : Int32) d))))
def f_X0_rankOf (sh : List xSh) (x0 : Int32) (d : xD) : Option (Int32 × xD) :=
  if x0 = (11 : Int32) then (some ((1 : Int32), d)) else (if x0 = (12 : Int32) then (some ((2 : Int32), d)) else (if x0 = (13 : Int32) then (some ((3 : Int32), d)) else (if x0 < (30 : Int32) then (k_X0_rankOf_38 sh x0 d) else (if (35 : Int32) < x0 then (k_X0_rankOf_38 sh x0 d) else (some ((4 : Int32), d))))))
set_option maxHeartbeats 4000000 in
set_option maxRecDepth 100000 in
theorem mt_X0_rankOf (l : Launch) (D : va_G) (cid : FieldType → ClassId) (b : Nat) (ex : Bool) (sa sv B0 : Nat) (sh : List xSh) (x0 : Int32) (d : xD) (r : Int32) (dz : xD) (hf : f_X0_rankOf sh x0 d = some (r, dz)) : xMet l yX0_rankOf cX0_rankOf 1 (some .int) 0 0 0 D cid b ex sa sv B0 [.int x0] sh d (some (.int r)) sh dz := by
  refine xMet.of (by decide) (Nat.le_of_ble_eq_true rfl) ?_
  intro p e s m below meth c ls A S hr hin G hl
  have hl : lv_has ls 1 [(0, .int x0)] := hl
  generalize ([.int x0] : List Value).toArray = av at S ⊢
  have hx := S.1
  have hb := S.2.1
  have hml := S.2.2.1
  have hown := S.2.2.2.1
  have hts := S.2.2.2.2.1
  have K50 : ∀ (d : xD), k_X0_rankOf_50 sh d = some (r, dz) → ∀ (H : Heap) (locs : List Loc) (ls : Array Slot), lv_has ls 1 [] → xG D cid b A sh d s H locs → W p l e (xRm 0 0 0) s m av below meth c H locs 0 0 (MQ below (xQ D cid b ex A (some (.int r)) sh dz) av s 0 0 A) (F0 m 50 ls []) := by
    intro d hf H locs ls hl G
    unfold k_X0_rankOf_50 at hf
    refine lv_iconst (v := (5 : Int32)) hx hb dX0_rankOf_50 (by decide) ?_
    cases hf
    exact xr_iret S G (fun _ => rfl) hr dX0_rankOf_51
  have K70 : ∀ (y0 : Int32) (d : xD), k_X0_rankOf_70 sh y0 d = some (r, dz) → ∀ (H : Heap) (locs : List Loc) (ls : Array Slot), lv_has ls 1 [] → xG D cid b A sh d s H locs → W p l e (xRm 0 0 0) s m av below meth c H locs 0 0 (MQ below (xQ D cid b ex A (some (.int r)) sh dz) av s 0 0 A) (F0 m 70 ls [.int y0]) := by
    intro y0 d hf H locs ls hl G
    unfold k_X0_rankOf_70 at hf
    cases hf
    exact xr_iret S G (fun _ => rfl) hr dX0_rankOf_70
  have K64 : ∀ (d : xD), k_X0_rankOf_64 sh d = some (r, dz) → ∀ (H : Heap) (locs : List Loc) (ls : Array Slot), lv_has ls 1 [] → xG D cid b A sh d s H locs → W p l e (xRm 0 0 0) s m av below meth c H locs 0 0 (MQ below (xQ D cid b ex A (some (.int r)) sh dz) av s 0 0 A) (F0 m 64 ls []) := by
    intro d hf H locs ls hl G
    unfold k_X0_rankOf_64 at hf
    refine lv_bipush (v := (6 : Int32)) hx hb dX0_rankOf_64 (by decide) ?_
    refine lv_goto (tgt := 70) hx hb dX0_rankOf_66 (by decide) ?_
    exact K70 (6 : Int32) d hf _ _ ls (lv_sub hl [] rfl) G
  have K38 : ∀ (x0 : Int32) (d : xD), k_X0_rankOf_38 sh x0 d = some (r, dz) → ∀ (H : Heap) (locs : List Loc) (ls : Array Slot), lv_has ls 1 [(0, .int x0)] → xG D cid b A sh d s H locs → W p l e (xRm 0 0 0) s m av below meth c H locs 0 0 (MQ below (xQ D cid b ex A (some (.int r)) sh dz) av s 0 0 A) (F0 m 38 ls []) := by
    intro x0 d hf H locs ls hl G
    unfold k_X0_rankOf_38 at hf
    refine lv_iload_n hx hb dX0_rankOf_38 rfl (lv_at hl 0 rfl) ?_
    refine lv_bipush (v := (26 : Int32)) hx hb dX0_rankOf_39 (by decide) ?_
    refine lv_icmp_eq (tgt := 50) hx hb dX0_rankOf_41 (by decide) (fun c => ?_) (fun c => ?_)
    · have hf := x_pos c hf
      exact K50 d hf _ _ ls (lv_sub hl [] rfl) G
    · have hf := x_neg c hf
      refine lv_iload_n hx hb dX0_rankOf_44 rfl (lv_at hl 0 rfl) ?_
      refine lv_bipush (v := (27 : Int32)) hx hb dX0_rankOf_45 (by decide) ?_
      refine lv_icmp_ne (tgt := 52) hx hb dX0_rankOf_47 (by decide) (fun c => ?_) (fun c => ?_)
      · have hf := x_neg c hf
        refine lv_iload_n hx hb dX0_rankOf_52 rfl (lv_at hl 0 rfl) ?_
        refine lv_bipush (v := (28 : Int32)) hx hb dX0_rankOf_53 (by decide) ?_
        refine lv_icmp_eq (tgt := 64) hx hb dX0_rankOf_55 (by decide) (fun c => ?_) (fun c => ?_)
        · have hf := x_pos c hf
          exact K64 d hf _ _ ls (lv_sub hl [] rfl) G
        · have hf := x_neg c hf
          refine lv_iload_n hx hb dX0_rankOf_58 rfl (lv_at hl 0 rfl) ?_
          refine lv_bipush (v := (29 : Int32)) hx hb dX0_rankOf_59 (by decide) ?_
          refine lv_icmp_ne (tgt := 69) hx hb dX0_rankOf_61 (by decide) (fun c => ?_) (fun c => ?_)
          · have hf := x_neg c hf
            refine lv_iconst (v := (0 : Int32)) hx hb dX0_rankOf_69 (by decide) ?_
            exact K70 (0 : Int32) d hf _ _ ls (lv_sub hl [] rfl) G
          · have hf := x_pos c hf
            exact K64 d hf _ _ ls (lv_sub hl [] rfl) G
      · have hf := x_pos c hf
        exact K50 d hf _ _ ls (lv_sub hl [] rfl) G
  unfold f_X0_rankOf at hf
  refine lv_iload_n hx hb dX0_rankOf_0 rfl (lv_at hl 0 rfl) ?_
  refine lv_bipush (v := (11 : Int32)) hx hb dX0_rankOf_1 (by decide) ?_
  refine lv_icmp_ne (tgt := 8) hx hb dX0_rankOf_3 (by decide) (fun c => ?_) (fun c => ?_)
  · have hf := x_neg c hf
    refine lv_iload_n hx hb dX0_rankOf_8 rfl (lv_at hl 0 rfl) ?_
    refine lv_bipush (v := (12 : Int32)) hx hb dX0_rankOf_9 (by decide) ?_
    refine lv_icmp_ne (tgt := 16) hx hb dX0_rankOf_11 (by decide) (fun c => ?_) (fun c => ?_)
    · have hf := x_neg c hf
      refine lv_iload_n hx hb dX0_rankOf_16 rfl (lv_at hl 0 rfl) ?_
      refine lv_bipush (v := (13 : Int32)) hx hb dX0_rankOf_17 (by decide) ?_
      refine lv_icmp_ne (tgt := 24) hx hb dX0_rankOf_19 (by decide) (fun c => ?_) (fun c => ?_)
      · have hf := x_neg c hf
        refine lv_iload_n hx hb dX0_rankOf_24 rfl (lv_at hl 0 rfl) ?_
        refine lv_bipush (v := (30 : Int32)) hx hb dX0_rankOf_25 (by decide) ?_
        refine lv_icmp_lt (tgt := 38) hx hb dX0_rankOf_27 (by decide) (fun c => ?_) (fun c => ?_)
        · have hf := x_pos c hf
          exact K38 x0 d hf _ _ ls (lv_sub hl [0] rfl) G
        · have hf := x_neg c hf
          refine lv_iload_n hx hb dX0_rankOf_30 rfl (lv_at hl 0 rfl) ?_
          refine lv_bipush (v := (35 : Int32)) hx hb dX0_rankOf_31 (by decide) ?_
          refine lv_icmp_gt (tgt := 38) hx hb dX0_rankOf_33 (by decide) (fun c => ?_) (fun c => ?_)
          · have hf := x_pos c hf
            exact K38 x0 d hf _ _ ls (lv_sub hl [0] rfl) G
          · have hf := x_neg c hf
            refine lv_iconst (v := (4 : Int32)) hx hb dX0_rankOf_36 (by decide) ?_
            cases hf
            exact xr_iret S G (fun _ => rfl) hr dX0_rankOf_37
      · have hf := x_pos c hf
        refine lv_iconst (v := (3 : Int32)) hx hb dX0_rankOf_22 (by decide) ?_
        cases hf
        exact xr_iret S G (fun _ => rfl) hr dX0_rankOf_23
    · have hf := x_pos c hf
      refine lv_iconst (v := (2 : Int32)) hx hb dX0_rankOf_14 (by decide) ?_
      cases hf
      exact xr_iret S G (fun _ => rfl) hr dX0_rankOf_15
  · have hf := x_pos c hf
    refine lv_iconst (v := (1 : Int32)) hx hb dX0_rankOf_6 (by decide) ?_
    cases hf
    exact xr_iret S G (fun _ => rfl) hr dX0_rankOf_7
-- HalfLandings$Laws.add(II)V
theorem dX1_add_0 : decode cX1_add 0 = .ok (.aload_n 0, 1) := by decide +kernel
theorem dX1_add_1 : decode cX1_add 1 = .ok (.getfield 15, 3) := by decide +kernel
theorem dX1_add_4 : decode cX1_add 4 = .ok (.bipush 64, 2) := by decide +kernel
theorem dX1_add_6 : decode cX1_add 6 = .ok (.if_icmp .ge 33, 3) := by decide +kernel
theorem dX1_add_9 : decode cX1_add 9 = .ok (.aload_n 0, 1) := by decide +kernel
theorem dX1_add_10 : decode cX1_add 10 = .ok (.getfield 18, 3) := by decide +kernel
theorem dX1_add_13 : decode cX1_add 13 = .ok (.aload_n 0, 1) := by decide +kernel
theorem dX1_add_14 : decode cX1_add 14 = .ok (.getfield 15, 3) := by decide +kernel
theorem dX1_add_17 : decode cX1_add 17 = .ok (.iload_n 1, 1) := by decide +kernel
theorem dX1_add_18 : decode cX1_add 18 = .ok (.iastore, 1) := by decide +kernel
theorem dX1_add_19 : decode cX1_add 19 = .ok (.aload_n 0, 1) := by decide +kernel
theorem dX1_add_20 : decode cX1_add 20 = .ok (.getfield 22, 3) := by decide +kernel
theorem dX1_add_23 : decode cX1_add 23 = .ok (.aload_n 0, 1) := by decide +kernel
theorem dX1_add_24 : decode cX1_add 24 = .ok (.getfield 15, 3) := by decide +kernel
theorem dX1_add_27 : decode cX1_add 27 = .ok (.iload_n 2, 1) := by decide +kernel
theorem dX1_add_28 : decode cX1_add 28 = .ok (.iastore, 1) := by decide +kernel
theorem dX1_add_29 : decode cX1_add 29 = .ok (.aload_n 0, 1) := by decide +kernel
theorem dX1_add_30 : decode cX1_add 30 = .ok (.dup, 1) := by decide +kernel
theorem dX1_add_31 : decode cX1_add 31 = .ok (.getfield 15, 3) := by decide +kernel
theorem dX1_add_34 : decode cX1_add 34 = .ok (.iconst 1, 1) := by decide +kernel
theorem dX1_add_35 : decode cX1_add 35 = .ok (.iadd, 1) := by decide +kernel
theorem dX1_add_36 : decode cX1_add 36 = .ok (.putfield 15, 3) := by decide +kernel
theorem dX1_add_39 : decode cX1_add 39 = .ok (.return_, 1) := by decide +kernel
theorem hd_X1_add : yX1_add.cls = xCn 1 ∧ yX1_add.cls ≠ "java/lang/invoke/MethodHandle" ∧ yX1_add.cls ≠ "java/lang/invoke/VarHandle" ∧ (parseMethodDescriptor yX1_add.desc).map (fun d => d.parameters.length) = some 2 := by decide +kernel
def k_X1_add_39 (sh : List xSh) (d : xD) : Option xD :=
  some d
def f_X1_add (sh : List xSh) (q0 : Nat) (x1 : Int32) (x2 : Int32) (d : xD) : Option xD :=
  (xgI 1 sh d q0 1).bind fun v1 => if (64 : Int32) ≤ v1 then (k_X1_add_39 sh d) else ((xgR 1 sh d q0 2).bind fun v2 => (xgI 1 sh d q0 1).bind fun v3 => (xsI .int sh d v2 v3 x1).bind fun d4 => (xgR 1 sh d4 q0 3).bind fun v5 => (xgI 1 sh d4 q0 1).bind fun v6 => (xsI .int sh d4 v5 v6 x2).bind fun d7 => (xgI 1 sh d7 q0 1).bind fun v8 => (xpI 1 sh d7 q0 1 (v8 + (1 : Int32))).bind fun d9 => k_X1_add_39 sh d9)
set_option maxHeartbeats 4000000 in
set_option maxRecDepth 100000 in
theorem mt_X1_add (l : Launch) (D : va_G) (cid : FieldType → ClassId) (b : Nat) (ex : Bool) (sa sv B0 : Nat) (sh : List xSh) (q0 : Nat) (x1 : Int32) (x2 : Int32) (d : xD) (dz : xD) (hf : f_X1_add sh q0 x1 x2 d = some dz) : xMet l yX1_add cX1_add 3 none 0 0 0 D cid b ex sa sv B0 [.ref (b + q0), .int x1, .int x2] sh d none sh dz := by
  refine xMet.of (by decide) (Nat.le_of_ble_eq_true rfl) ?_
  intro p e s m below meth c ls A S hr hin G hl
  have hl : lv_has ls 3 [(0, .ref (b + q0)), (1, .int x1), (2, .int x2)] := hl
  generalize ([.ref (b + q0), .int x1, .int x2] : List Value).toArray = av at S ⊢
  have hx := S.1
  have hb := S.2.1
  have hml := S.2.2.1
  have hown := S.2.2.2.1
  have hts := S.2.2.2.2.1
  have K39 : ∀ (d : xD), k_X1_add_39 sh d = some dz → ∀ (H : Heap) (locs : List Loc) (ls : Array Slot), lv_has ls 3 [] → xG D cid b A sh d s H locs → W p l e (xRm 0 0 0) s m av below meth c H locs 0 0 (MQ below (xQ D cid b ex A none sh dz) av s 0 0 A) (F0 m 39 ls []) := by
    intro d hf H locs ls hl G
    unfold k_X1_add_39 at hf
    cases hf
    exact xr_vret S G (fun _ => rfl) hr dX1_add_39
  unfold f_X1_add at hf
  refine lv_aload_n hx hb dX1_add_0 rfl (lv_at hl 0 rfl) ?_
  obtain ⟨v1, hv1, hf⟩ := x_ob hf
  refine xr_getI (ci := 1) (k := 1) S G hv1 rfl kw_48 dX1_add_1 ?_
  refine lv_bipush (v := (64 : Int32)) hx hb dX1_add_4 (by decide) ?_
  refine lv_icmp_ge (tgt := 39) hx hb dX1_add_6 (by decide) (fun c => ?_) (fun c => ?_)
  · have hf := x_pos c hf
    exact K39 d hf _ _ ls (lv_sub hl [] rfl) G
  · have hf := x_neg c hf
    refine lv_aload_n hx hb dX1_add_9 rfl (lv_at hl 0 rfl) ?_
    obtain ⟨v2, hv2, hf⟩ := x_ob hf
    refine xr_getR (ci := 1) (k := 2) S G hv2 rfl kw_49 dX1_add_10 ?_
    refine lv_aload_n hx hb dX1_add_13 rfl (lv_at hl 0 rfl) ?_
    obtain ⟨v3, hv3, hf⟩ := x_ob hf
    refine xr_getI (ci := 1) (k := 1) S G hv3 rfl kw_48 dX1_add_14 ?_
    refine lv_iload_n hx hb dX1_add_17 rfl (lv_at hl 1 rfl) ?_
    obtain ⟨d4, hd4, hf⟩ := x_ob hf
    refine xr_iast S G hd4 dX1_add_18 (fun H locs G => ?_)
    refine lv_aload_n hx hb dX1_add_19 rfl (lv_at hl 0 rfl) ?_
    obtain ⟨v5, hv5, hf⟩ := x_ob hf
    refine xr_getR (ci := 1) (k := 3) S G hv5 rfl kw_50 dX1_add_20 ?_
    refine lv_aload_n hx hb dX1_add_23 rfl (lv_at hl 0 rfl) ?_
    obtain ⟨v6, hv6, hf⟩ := x_ob hf
    refine xr_getI (ci := 1) (k := 1) S G hv6 rfl kw_48 dX1_add_24 ?_
    refine lv_iload_n hx hb dX1_add_27 rfl (lv_at hl 2 rfl) ?_
    obtain ⟨d7, hd7, hf⟩ := x_ob hf
    refine xr_iast S G hd7 dX1_add_28 (fun H locs G => ?_)
    refine lv_aload_n hx hb dX1_add_29 rfl (lv_at hl 0 rfl) ?_
    refine lv_dup hx hb dX1_add_30 rfl ?_
    obtain ⟨v8, hv8, hf⟩ := x_ob hf
    refine xr_getI (ci := 1) (k := 1) S G hv8 rfl kw_48 dX1_add_31 ?_
    refine lv_iconst (v := (1 : Int32)) hx hb dX1_add_34 (by decide) ?_
    refine lv_iadd hx hb dX1_add_35 ?_
    obtain ⟨d9, hd9, hf⟩ := x_ob hf
    refine xr_putI (ci := 1) (k := 1) S G hd9 rfl kw_48 dX1_add_36 (fun H locs G => ?_)
    exact K39 d9 hf _ _ ls (lv_sub hl [] rfl) G
-- HalfLandings$LawReader.release(LHalfLandings$Laws;I)V
theorem dX0_release_0 : decode cX0_release 0 = .ok (.aload_n 0, 1) := by decide +kernel
theorem dX0_release_1 : decode cX0_release 1 = .ok (.getfield 15, 3) := by decide +kernel
theorem dX0_release_4 : decode cX0_release 4 = .ok (.ifCond .le 48, 3) := by decide +kernel
theorem dX0_release_7 : decode cX0_release 7 = .ok (.aload_n 0, 1) := by decide +kernel
theorem dX0_release_8 : decode cX0_release 8 = .ok (.getfield 9, 3) := by decide +kernel
theorem dX0_release_11 : decode cX0_release 11 = .ok (.aload_n 0, 1) := by decide +kernel
theorem dX0_release_12 : decode cX0_release 12 = .ok (.getfield 15, 3) := by decide +kernel
theorem dX0_release_15 : decode cX0_release 15 = .ok (.iconst 1, 1) := by decide +kernel
theorem dX0_release_16 : decode cX0_release 16 = .ok (.isub, 1) := by decide +kernel
theorem dX0_release_17 : decode cX0_release 17 = .ok (.iaload, 1) := by decide +kernel
theorem dX0_release_18 : decode cX0_release 18 = .ok (.invokestatic 71, 3) := by decide +kernel
theorem dX0_release_21 : decode cX0_release 21 = .ok (.iload_n 2, 1) := by decide +kernel
theorem dX0_release_22 : decode cX0_release 22 = .ok (.if_icmp .lt 30, 3) := by decide +kernel
theorem dX0_release_25 : decode cX0_release 25 = .ok (.aload_n 0, 1) := by decide +kernel
theorem dX0_release_26 : decode cX0_release 26 = .ok (.dup, 1) := by decide +kernel
theorem dX0_release_27 : decode cX0_release 27 = .ok (.getfield 15, 3) := by decide +kernel
theorem dX0_release_30 : decode cX0_release 30 = .ok (.iconst 1, 1) := by decide +kernel
theorem dX0_release_31 : decode cX0_release 31 = .ok (.isub, 1) := by decide +kernel
theorem dX0_release_32 : decode cX0_release 32 = .ok (.putfield 15, 3) := by decide +kernel
theorem dX0_release_35 : decode cX0_release 35 = .ok (.aload_n 1, 1) := by decide +kernel
theorem dX0_release_36 : decode cX0_release 36 = .ok (.aload_n 0, 1) := by decide +kernel
theorem dX0_release_37 : decode cX0_release 37 = .ok (.getfield 9, 3) := by decide +kernel
theorem dX0_release_40 : decode cX0_release 40 = .ok (.aload_n 0, 1) := by decide +kernel
theorem dX0_release_41 : decode cX0_release 41 = .ok (.getfield 15, 3) := by decide +kernel
theorem dX0_release_44 : decode cX0_release 44 = .ok (.iaload, 1) := by decide +kernel
theorem dX0_release_45 : decode cX0_release 45 = .ok (.iconst 0, 1) := by decide +kernel
theorem dX0_release_46 : decode cX0_release 46 = .ok (.invokevirtual 65, 3) := by decide +kernel
theorem dX0_release_49 : decode cX0_release 49 = .ok (.goto (-49), 3) := by decide +kernel
theorem dX0_release_52 : decode cX0_release 52 = .ok (.return_, 1) := by decide +kernel
theorem hd_X0_release : yX0_release.cls = xCn 0 ∧ yX0_release.cls ≠ "java/lang/invoke/MethodHandle" ∧ yX0_release.cls ≠ "java/lang/invoke/VarHandle" ∧ (parseMethodDescriptor yX0_release.desc).map (fun d => d.parameters.length) = some 2 := by decide +kernel
def k_X0_release_52 (sh : List xSh) (d : xD) : Option xD :=
  some d
def b_X0_release_0 (sh : List xSh) (rec0 : Nat → Nat → Int32 → xD → Option xD) (q0 : Nat) (q1 : Nat) (x2 : Int32) (d : xD) : Option xD :=
  (xgI 0 sh d q0 2).bind fun v1 => if v1 ≤ 0 then (k_X0_release_52 sh d) else ((xgR 0 sh d q0 1).bind fun v2 => (xgI 0 sh d q0 2).bind fun v3 => (xaI .int sh d v2 (v3 - (1 : Int32))).bind fun v4 => (f_X0_rankOf sh v4 d).bind fun z5 => if z5.1 < x2 then (k_X0_release_52 sh z5.2) else ((xgI 0 sh z5.2 q0 2).bind fun v6 => (xpI 0 sh z5.2 q0 2 (v6 - (1 : Int32))).bind fun d7 => (xgR 0 sh d7 q0 1).bind fun v8 => (xgI 0 sh d7 q0 2).bind fun v9 => (xaI .int sh d7 v8 v9).bind fun v10 => (xon 1 sh q1 (f_X1_add sh q1 v10 (0 : Int32) d7)).bind fun d11 => rec0 q0 q1 x2 d11))
def f_X0_release (sh : List xSh) (q0 : Nat) (q1 : Nat) (x2 : Int32) (d : xD) : Option xD :=
  xloop (fun _ _ _ _ => none) (b_X0_release_0 sh) xF q0 q1 x2 d
set_option maxHeartbeats 4000000 in
set_option maxRecDepth 100000 in
theorem mt_X0_release (l : Launch) (D : va_G) (cid : FieldType → ClassId) (b : Nat) (ex : Bool) (sa sv B0 : Nat) (sh : List xSh) (q0 : Nat) (q1 : Nat) (x2 : Int32) (d : xD) (dz : xD) (hf : f_X0_release sh q0 q1 x2 d = some dz) : xMet l yX0_release cX0_release 3 none 1 0 0 D cid b ex sa sv B0 [.ref (b + q0), .ref (b + q1), .int x2] sh d none sh dz := by
  refine xMet.of (by decide) (Nat.le_of_ble_eq_true rfl) ?_
  intro p e s m below meth c ls A S hr hin G hl
  have hl : lv_has ls 3 [(0, .ref (b + q0)), (1, .ref (b + q1)), (2, .int x2)] := hl
  generalize ([.ref (b + q0), .ref (b + q1), .int x2] : List Value).toArray = av at S ⊢
  have hx := S.1
  have hb := S.2.1
  have hml := S.2.2.1
  have hown := S.2.2.2.1
  have hts := S.2.2.2.2.1
  have K52 : ∀ (d : xD), k_X0_release_52 sh d = some dz → ∀ (H : Heap) (locs : List Loc) (ls : Array Slot), lv_has ls 3 [] → xG D cid b A sh d s H locs → W p l e (xRm 1 0 0) s m av below meth c H locs 0 0 (MQ below (xQ D cid b ex A none sh dz) av s 0 0 A) (F0 m 52 ls []) := by
    intro d hf H locs ls hl G
    unfold k_X0_release_52 at hf
    cases hf
    exact xr_vret S G (fun _ => rfl) hr dX0_release_52
  have K0 : ∀ (n : Nat) (q0 : Nat) (q1 : Nat) (x2 : Int32) (d : xD), xloop (fun _ _ _ _ => none) (b_X0_release_0 sh) n q0 q1 x2 d = some dz → ∀ (H : Heap) (locs : List Loc) (ls : Array Slot), lv_has ls 3 [(0, .ref (b + q0)), (1, .ref (b + q1)), (2, .int x2)] → xG D cid b A sh d s H locs → W p l e (xRm 1 0 0) s m av below meth c H locs 0 0 (MQ below (xQ D cid b ex A none sh dz) av s 0 0 A) (F0 m 0 ls []) := by
    intro n
    induction n with
    | zero =>
      intro q0 q1 x2 d hf
      have hf : (none : Option xD) = some dz := hf
      cases hf
    | succ n hrec0 =>
      intro q0 q1 x2 d hf H locs ls hl G
      have hf : b_X0_release_0 sh (xloop (fun _ _ _ _ => none) (b_X0_release_0 sh) n) q0 q1 x2 d = some dz := hf
      unfold b_X0_release_0 at hf
      refine lv_aload_n hx hb dX0_release_0 rfl (lv_at hl 0 rfl) ?_
      obtain ⟨v1, hv1, hf⟩ := x_ob hf
      refine xr_getI (ci := 0) (k := 2) S G hv1 rfl kw_277 dX0_release_1 ?_
      refine lv_if_le (tgt := 52) hx hb dX0_release_4 (by decide) (fun c => ?_) (fun c => ?_)
      · have hf := x_pos c hf
        exact K52 d hf _ _ ls (lv_sub hl [] rfl) G
      · have hf := x_neg c hf
        refine lv_aload_n hx hb dX0_release_7 rfl (lv_at hl 0 rfl) ?_
        obtain ⟨v2, hv2, hf⟩ := x_ob hf
        refine xr_getR (ci := 0) (k := 1) S G hv2 rfl kw_276 dX0_release_8 ?_
        refine lv_aload_n hx hb dX0_release_11 rfl (lv_at hl 0 rfl) ?_
        obtain ⟨v3, hv3, hf⟩ := x_ob hf
        refine xr_getI (ci := 0) (k := 2) S G hv3 rfl kw_277 dX0_release_12 ?_
        refine lv_iconst (v := (1 : Int32)) hx hb dX0_release_15 (by decide) ?_
        refine lv_isub hx hb dX0_release_16 ?_
        obtain ⟨v4, hv4, hf⟩ := x_ob hf
        refine xr_iald S G hv4 dX0_release_17 ?_
        obtain ⟨z5, hz5, hf⟩ := x_ob hf
        refine xr_callS (As := [.int v4]) (rest := []) (st1 := [.int z5.1]) S G hl.1 (fun _ => rfl) (mt_X0_rankOf l D cid b ex sa sv B0 sh v4 d _ _ hz5) kw_681 kw_682 kw_11 kw_683 hd_X0_rankOf ⟨Nat.le_of_ble_eq_true rfl, Nat.le_of_ble_eq_true rfl⟩ rfl rfl rfl (Nat.le_of_ble_eq_true rfl) ⟨Nat.le_of_ble_eq_true rfl, Nat.le_of_ble_eq_true rfl⟩ dX0_release_18 (fun H locs G => ?_)
        refine lv_iload_n hx hb dX0_release_21 rfl (lv_at hl 2 rfl) ?_
        refine lv_icmp_lt (tgt := 52) hx hb dX0_release_22 (by decide) (fun c => ?_) (fun c => ?_)
        · have hf := x_pos c hf
          exact K52 z5.2 hf _ _ ls (lv_sub hl [] rfl) G
        · have hf := x_neg c hf
          refine lv_aload_n hx hb dX0_release_25 rfl (lv_at hl 0 rfl) ?_
          refine lv_dup hx hb dX0_release_26 rfl ?_
          obtain ⟨v6, hv6, hf⟩ := x_ob hf
          refine xr_getI (ci := 0) (k := 2) S G hv6 rfl kw_277 dX0_release_27 ?_
          refine lv_iconst (v := (1 : Int32)) hx hb dX0_release_30 (by decide) ?_
          refine lv_isub hx hb dX0_release_31 ?_
          obtain ⟨d7, hd7, hf⟩ := x_ob hf
          refine xr_putI (ci := 0) (k := 2) S G hd7 rfl kw_277 dX0_release_32 (fun H locs G => ?_)
          refine lv_aload_n hx hb dX0_release_35 rfl (lv_at hl 1 rfl) ?_
          refine lv_aload_n hx hb dX0_release_36 rfl (lv_at hl 0 rfl) ?_
          obtain ⟨v8, hv8, hf⟩ := x_ob hf
          refine xr_getR (ci := 0) (k := 1) S G hv8 rfl kw_276 dX0_release_37 ?_
          refine lv_aload_n hx hb dX0_release_40 rfl (lv_at hl 0 rfl) ?_
          obtain ⟨v9, hv9, hf⟩ := x_ob hf
          refine xr_getI (ci := 0) (k := 2) S G hv9 rfl kw_277 dX0_release_41 ?_
          obtain ⟨v10, hv10, hf⟩ := x_ob hf
          refine xr_iald S G hv10 dX0_release_44 ?_
          refine lv_iconst (v := (0 : Int32)) hx hb dX0_release_45 (by decide) ?_
          obtain ⟨d11, hd11, hf⟩ := x_ob hf
          obtain ⟨hqd11, hd11⟩ := xon_of hd11
          refine xr_callV (ci := 1) (As := [.int v10, .int (0 : Int32)]) (rest := []) (st1 := []) S G hl.1 (fun _ => rfl) (mt_X1_add l D cid b ex sa sv B0 sh q1 v10 (0 : Int32) d7 _ hd11) hqd11 (by decide) kw_684 kw_685 kw_686 kw_3 kw_687 hd_X1_add ⟨Nat.le_of_ble_eq_true rfl, Nat.le_of_ble_eq_true rfl⟩ rfl rfl rfl (Nat.le_of_ble_eq_true rfl) ⟨Nat.le_of_ble_eq_true rfl, Nat.le_of_ble_eq_true rfl⟩ dX0_release_46 (fun H locs G => ?_)
          refine lv_goto (tgt := 0) hx hb dX0_release_49 (by decide) ?_
          exact hrec0 q0 q1 x2 d11 hf _ _ ls (lv_sub hl [0, 1, 2] rfl) G
  unfold f_X0_release at hf
  exact K0 xF q0 q1 x2 d hf _ _ ls (lv_sub hl [0, 1, 2] rfl) G
-- HalfLandings$Tokens.refuse(I)Z
theorem dX7_refuse_0 : decode cX7_refuse 0 = .ok (.aload_n 0, 1) := by decide +kernel
theorem dX7_refuse_1 : decode cX7_refuse 1 = .ok (.iload_n 1, 1) := by decide +kernel
theorem dX7_refuse_2 : decode cX7_refuse 2 = .ok (.putfield 21, 3) := by decide +kernel
theorem dX7_refuse_5 : decode cX7_refuse 5 = .ok (.aload_n 0, 1) := by decide +kernel
theorem dX7_refuse_6 : decode cX7_refuse 6 = .ok (.aload_n 0, 1) := by decide +kernel
theorem dX7_refuse_7 : decode cX7_refuse 7 = .ok (.getfield 15, 3) := by decide +kernel
theorem dX7_refuse_10 : decode cX7_refuse 10 = .ok (.putfield 24, 3) := by decide +kernel
theorem dX7_refuse_13 : decode cX7_refuse 13 = .ok (.iconst 0, 1) := by decide +kernel
theorem dX7_refuse_14 : decode cX7_refuse 14 = .ok (.ireturn, 1) := by decide +kernel
theorem hd_X7_refuse : yX7_refuse.cls = xCn 7 ∧ yX7_refuse.cls ≠ "java/lang/invoke/MethodHandle" ∧ yX7_refuse.cls ≠ "java/lang/invoke/VarHandle" ∧ (parseMethodDescriptor yX7_refuse.desc).map (fun d => d.parameters.length) = some 1 := by decide +kernel
def f_X7_refuse (sh : List xSh) (q0 : Nat) (x1 : Int32) (d : xD) : Option (Int32 × xD) :=
  (xpI 7 sh d q0 3 x1).bind fun d1 => (xgI 7 sh d1 q0 1).bind fun v2 => (xpI 7 sh d1 q0 4 v2).bind fun d3 => some ((0 : Int32), d3)
set_option maxHeartbeats 4000000 in
set_option maxRecDepth 100000 in
theorem mt_X7_refuse (l : Launch) (D : va_G) (cid : FieldType → ClassId) (b : Nat) (ex : Bool) (sa sv B0 : Nat) (sh : List xSh) (q0 : Nat) (x1 : Int32) (d : xD) (r : Int32) (dz : xD) (hf : f_X7_refuse sh q0 x1 d = some (r, dz)) : xMet l yX7_refuse cX7_refuse 2 (some .boolean) 0 0 0 D cid b ex sa sv B0 [.ref (b + q0), .int x1] sh d (some (.int r)) sh dz := by
  refine xMet.of (by decide) (Nat.le_of_ble_eq_true rfl) ?_
  intro p e s m below meth c ls A S hr hin G hl
  have hl : lv_has ls 2 [(0, .ref (b + q0)), (1, .int x1)] := hl
  generalize ([.ref (b + q0), .int x1] : List Value).toArray = av at S ⊢
  have hx := S.1
  have hb := S.2.1
  have hml := S.2.2.1
  have hown := S.2.2.2.1
  have hts := S.2.2.2.2.1
  unfold f_X7_refuse at hf
  refine lv_aload_n hx hb dX7_refuse_0 rfl (lv_at hl 0 rfl) ?_
  refine lv_iload_n hx hb dX7_refuse_1 rfl (lv_at hl 1 rfl) ?_
  obtain ⟨d1, hd1, hf⟩ := x_ob hf
  refine xr_putI (ci := 7) (k := 3) S G hd1 rfl kw_236 dX7_refuse_2 (fun H locs G => ?_)
  refine lv_aload_n hx hb dX7_refuse_5 rfl (lv_at hl 0 rfl) ?_
  refine lv_aload_n hx hb dX7_refuse_6 rfl (lv_at hl 0 rfl) ?_
  obtain ⟨v2, hv2, hf⟩ := x_ob hf
  refine xr_getI (ci := 7) (k := 1) S G hv2 rfl kw_232 dX7_refuse_7 ?_
  obtain ⟨d3, hd3, hf⟩ := x_ob hf
  refine xr_putI (ci := 7) (k := 4) S G hd3 rfl kw_238 dX7_refuse_10 (fun H locs G => ?_)
  refine lv_iconst (v := (0 : Int32)) hx hb dX7_refuse_13 (by decide) ?_
  cases hf
  exact xr_zret S G (fun _ => rfl) hr (by decide) dX7_refuse_14
-- HalfLandings$LawReader.hold(I)Z
theorem dX0_hold_0 : decode cX0_hold 0 = .ok (.aload_n 0, 1) := by decide +kernel
theorem dX0_hold_1 : decode cX0_hold 1 = .ok (.getfield 15, 3) := by decide +kernel
theorem dX0_hold_4 : decode cX0_hold 4 = .ok (.aload_n 0, 1) := by decide +kernel
theorem dX0_hold_5 : decode cX0_hold 5 = .ok (.getfield 9, 3) := by decide +kernel
theorem dX0_hold_8 : decode cX0_hold 8 = .ok (.arraylength, 1) := by decide +kernel
theorem dX0_hold_9 : decode cX0_hold 9 = .ok (.if_icmp .lt 12, 3) := by decide +kernel
theorem dX0_hold_12 : decode cX0_hold 12 = .ok (.aload_n 0, 1) := by decide +kernel
theorem dX0_hold_13 : decode cX0_hold 13 = .ok (.getfield 29, 3) := by decide +kernel
theorem dX0_hold_16 : decode cX0_hold 16 = .ok (.iconst 2, 1) := by decide +kernel
theorem dX0_hold_17 : decode cX0_hold 17 = .ok (.invokevirtual 52, 3) := by decide +kernel
theorem dX0_hold_20 : decode cX0_hold 20 = .ok (.ireturn, 1) := by decide +kernel
theorem dX0_hold_21 : decode cX0_hold 21 = .ok (.aload_n 0, 1) := by decide +kernel
theorem dX0_hold_22 : decode cX0_hold 22 = .ok (.getfield 9, 3) := by decide +kernel
theorem dX0_hold_25 : decode cX0_hold 25 = .ok (.aload_n 0, 1) := by decide +kernel
theorem dX0_hold_26 : decode cX0_hold 26 = .ok (.getfield 15, 3) := by decide +kernel
theorem dX0_hold_29 : decode cX0_hold 29 = .ok (.iload_n 1, 1) := by decide +kernel
theorem dX0_hold_30 : decode cX0_hold 30 = .ok (.iastore, 1) := by decide +kernel
theorem dX0_hold_31 : decode cX0_hold 31 = .ok (.aload_n 0, 1) := by decide +kernel
theorem dX0_hold_32 : decode cX0_hold 32 = .ok (.dup, 1) := by decide +kernel
theorem dX0_hold_33 : decode cX0_hold 33 = .ok (.getfield 15, 3) := by decide +kernel
theorem dX0_hold_36 : decode cX0_hold 36 = .ok (.iconst 1, 1) := by decide +kernel
theorem dX0_hold_37 : decode cX0_hold 37 = .ok (.iadd, 1) := by decide +kernel
theorem dX0_hold_38 : decode cX0_hold 38 = .ok (.putfield 15, 3) := by decide +kernel
theorem dX0_hold_41 : decode cX0_hold 41 = .ok (.iconst 1, 1) := by decide +kernel
theorem dX0_hold_42 : decode cX0_hold 42 = .ok (.ireturn, 1) := by decide +kernel
theorem hd_X0_hold : yX0_hold.cls = xCn 0 ∧ yX0_hold.cls ≠ "java/lang/invoke/MethodHandle" ∧ yX0_hold.cls ≠ "java/lang/invoke/VarHandle" ∧ (parseMethodDescriptor yX0_hold.desc).map (fun d => d.parameters.length) = some 1 := by decide +kernel
def f_X0_hold (sh : List xSh) (q0 : Nat) (x1 : Int32) (d : xD) : Option (Int32 × xD) :=
  (xgI 0 sh d q0 2).bind fun v1 => (xgR 0 sh d q0 1).bind fun v2 => (xlen .int sh v2).bind fun v3 => if v1 < (nI v3) then ((xgR 0 sh d q0 1).bind fun v4 => (xgI 0 sh d q0 2).bind fun v5 => (xsI .int sh d v4 v5 x1).bind fun d6 => (xgI 0 sh d6 q0 2).bind fun v7 => (xpI 0 sh d6 q0 2 (v7 + (1 : Int32))).bind fun d8 => some ((1 : Int32), d8)) else ((xgR 0 sh d q0 0).bind fun v9 => (xon 7 sh v9 (f_X7_refuse sh v9 (2 : Int32) d)).bind fun z10 => (xz z10.1).bind fun v11 => some (v11, z10.2))
set_option maxHeartbeats 4000000 in
set_option maxRecDepth 100000 in
theorem mt_X0_hold (l : Launch) (D : va_G) (cid : FieldType → ClassId) (b : Nat) (ex : Bool) (sa sv B0 : Nat) (sh : List xSh) (q0 : Nat) (x1 : Int32) (d : xD) (r : Int32) (dz : xD) (hf : f_X0_hold sh q0 x1 d = some (r, dz)) : xMet l yX0_hold cX0_hold 2 (some .boolean) 1 0 0 D cid b ex sa sv B0 [.ref (b + q0), .int x1] sh d (some (.int r)) sh dz := by
  refine xMet.of (by decide) (Nat.le_of_ble_eq_true rfl) ?_
  intro p e s m below meth c ls A S hr hin G hl
  have hl : lv_has ls 2 [(0, .ref (b + q0)), (1, .int x1)] := hl
  generalize ([.ref (b + q0), .int x1] : List Value).toArray = av at S ⊢
  have hx := S.1
  have hb := S.2.1
  have hml := S.2.2.1
  have hown := S.2.2.2.1
  have hts := S.2.2.2.2.1
  unfold f_X0_hold at hf
  refine lv_aload_n hx hb dX0_hold_0 rfl (lv_at hl 0 rfl) ?_
  obtain ⟨v1, hv1, hf⟩ := x_ob hf
  refine xr_getI (ci := 0) (k := 2) S G hv1 rfl kw_277 dX0_hold_1 ?_
  refine lv_aload_n hx hb dX0_hold_4 rfl (lv_at hl 0 rfl) ?_
  obtain ⟨v2, hv2, hf⟩ := x_ob hf
  refine xr_getR (ci := 0) (k := 1) S G hv2 rfl kw_276 dX0_hold_5 ?_
  obtain ⟨v3, hv3, hf⟩ := x_ob hf
  refine xr_ilen S G hv3 dX0_hold_8 ?_
  refine lv_icmp_lt (tgt := 21) hx hb dX0_hold_9 (by decide) (fun c => ?_) (fun c => ?_)
  · have hf := x_pos c hf
    refine lv_aload_n hx hb dX0_hold_21 rfl (lv_at hl 0 rfl) ?_
    obtain ⟨v4, hv4, hf⟩ := x_ob hf
    refine xr_getR (ci := 0) (k := 1) S G hv4 rfl kw_276 dX0_hold_22 ?_
    refine lv_aload_n hx hb dX0_hold_25 rfl (lv_at hl 0 rfl) ?_
    obtain ⟨v5, hv5, hf⟩ := x_ob hf
    refine xr_getI (ci := 0) (k := 2) S G hv5 rfl kw_277 dX0_hold_26 ?_
    refine lv_iload_n hx hb dX0_hold_29 rfl (lv_at hl 1 rfl) ?_
    obtain ⟨d6, hd6, hf⟩ := x_ob hf
    refine xr_iast S G hd6 dX0_hold_30 (fun H locs G => ?_)
    refine lv_aload_n hx hb dX0_hold_31 rfl (lv_at hl 0 rfl) ?_
    refine lv_dup hx hb dX0_hold_32 rfl ?_
    obtain ⟨v7, hv7, hf⟩ := x_ob hf
    refine xr_getI (ci := 0) (k := 2) S G hv7 rfl kw_277 dX0_hold_33 ?_
    refine lv_iconst (v := (1 : Int32)) hx hb dX0_hold_36 (by decide) ?_
    refine lv_iadd hx hb dX0_hold_37 ?_
    obtain ⟨d8, hd8, hf⟩ := x_ob hf
    refine xr_putI (ci := 0) (k := 2) S G hd8 rfl kw_277 dX0_hold_38 (fun H locs G => ?_)
    refine lv_iconst (v := (1 : Int32)) hx hb dX0_hold_41 (by decide) ?_
    cases hf
    exact xr_zret S G (fun _ => rfl) hr (by decide) dX0_hold_42
  · have hf := x_neg c hf
    refine lv_aload_n hx hb dX0_hold_12 rfl (lv_at hl 0 rfl) ?_
    obtain ⟨v9, hv9, hf⟩ := x_ob hf
    refine xr_getR (ci := 0) (k := 0) S G hv9 rfl kw_275 dX0_hold_13 ?_
    refine lv_iconst (v := (2 : Int32)) hx hb dX0_hold_16 (by decide) ?_
    obtain ⟨z10, hz10, hf⟩ := x_ob hf
    obtain ⟨hqz10, hz10⟩ := xon_of hz10
    refine xr_callV (ci := 7) (As := [.int (2 : Int32)]) (rest := []) (st1 := [.int z10.1]) S G hl.1 (fun _ => rfl) (mt_X7_refuse l D cid b ex sa sv B0 sh v9 (2 : Int32) d _ _ hz10) hqz10 (by decide) kw_692 kw_606 kw_607 kw_5 kw_608 hd_X7_refuse ⟨Nat.le_of_ble_eq_true rfl, Nat.le_of_ble_eq_true rfl⟩ rfl rfl rfl (Nat.le_of_ble_eq_true rfl) ⟨Nat.le_of_ble_eq_true rfl, Nat.le_of_ble_eq_true rfl⟩ dX0_hold_17 (fun H locs G => ?_)
    obtain ⟨v11, hv11, hf⟩ := x_ob hf
    cases hf
    exact xr_zret S G (fun _ => rfl) hr hv11 dX0_hold_20
-- HalfLandings$LawReader.countKnot(LHalfLandings$Laws;)Z
theorem dX0_countKnot_0 : decode cX0_countKnot 0 = .ok (.aload_n 1, 1) := by decide +kernel
theorem dX0_countKnot_1 : decode cX0_countKnot 1 = .ok (.getfield 75, 3) := by decide +kernel
theorem dX0_countKnot_4 : decode cX0_countKnot 4 = .ok (.bipush 64, 2) := by decide +kernel
theorem dX0_countKnot_6 : decode cX0_countKnot 6 = .ok (.if_icmp .lt 12, 3) := by decide +kernel
theorem dX0_countKnot_9 : decode cX0_countKnot 9 = .ok (.aload_n 0, 1) := by decide +kernel
theorem dX0_countKnot_10 : decode cX0_countKnot 10 = .ok (.getfield 29, 3) := by decide +kernel
theorem dX0_countKnot_13 : decode cX0_countKnot 13 = .ok (.iconst 2, 1) := by decide +kernel
theorem dX0_countKnot_14 : decode cX0_countKnot 14 = .ok (.invokevirtual 52, 3) := by decide +kernel
theorem dX0_countKnot_17 : decode cX0_countKnot 17 = .ok (.ireturn, 1) := by decide +kernel
theorem dX0_countKnot_18 : decode cX0_countKnot 18 = .ok (.aload_n 1, 1) := by decide +kernel
theorem dX0_countKnot_19 : decode cX0_countKnot 19 = .ok (.dup, 1) := by decide +kernel
theorem dX0_countKnot_20 : decode cX0_countKnot 20 = .ok (.getfield 75, 3) := by decide +kernel
theorem dX0_countKnot_23 : decode cX0_countKnot 23 = .ok (.iconst 1, 1) := by decide +kernel
theorem dX0_countKnot_24 : decode cX0_countKnot 24 = .ok (.iadd, 1) := by decide +kernel
theorem dX0_countKnot_25 : decode cX0_countKnot 25 = .ok (.putfield 75, 3) := by decide +kernel
theorem dX0_countKnot_28 : decode cX0_countKnot 28 = .ok (.iconst 1, 1) := by decide +kernel
theorem dX0_countKnot_29 : decode cX0_countKnot 29 = .ok (.ireturn, 1) := by decide +kernel
theorem hd_X0_countKnot : yX0_countKnot.cls = xCn 0 ∧ yX0_countKnot.cls ≠ "java/lang/invoke/MethodHandle" ∧ yX0_countKnot.cls ≠ "java/lang/invoke/VarHandle" ∧ (parseMethodDescriptor yX0_countKnot.desc).map (fun d => d.parameters.length) = some 1 := by decide +kernel
def f_X0_countKnot (sh : List xSh) (q0 : Nat) (q1 : Nat) (d : xD) : Option (Int32 × xD) :=
  (xgI 1 sh d q1 0).bind fun v1 => if v1 < (64 : Int32) then ((xgI 1 sh d q1 0).bind fun v2 => (xpI 1 sh d q1 0 (v2 + (1 : Int32))).bind fun d3 => some ((1 : Int32), d3)) else ((xgR 0 sh d q0 0).bind fun v4 => (xon 7 sh v4 (f_X7_refuse sh v4 (2 : Int32) d)).bind fun z5 => (xz z5.1).bind fun v6 => some (v6, z5.2))
set_option maxHeartbeats 4000000 in
set_option maxRecDepth 100000 in
theorem mt_X0_countKnot (l : Launch) (D : va_G) (cid : FieldType → ClassId) (b : Nat) (ex : Bool) (sa sv B0 : Nat) (sh : List xSh) (q0 : Nat) (q1 : Nat) (d : xD) (r : Int32) (dz : xD) (hf : f_X0_countKnot sh q0 q1 d = some (r, dz)) : xMet l yX0_countKnot cX0_countKnot 2 (some .boolean) 1 0 0 D cid b ex sa sv B0 [.ref (b + q0), .ref (b + q1)] sh d (some (.int r)) sh dz := by
  refine xMet.of (by decide) (Nat.le_of_ble_eq_true rfl) ?_
  intro p e s m below meth c ls A S hr hin G hl
  have hl : lv_has ls 2 [(0, .ref (b + q0)), (1, .ref (b + q1))] := hl
  generalize ([.ref (b + q0), .ref (b + q1)] : List Value).toArray = av at S ⊢
  have hx := S.1
  have hb := S.2.1
  have hml := S.2.2.1
  have hown := S.2.2.2.1
  have hts := S.2.2.2.2.1
  unfold f_X0_countKnot at hf
  refine lv_aload_n hx hb dX0_countKnot_0 rfl (lv_at hl 1 rfl) ?_
  obtain ⟨v1, hv1, hf⟩ := x_ob hf
  refine xr_getI (ci := 1) (k := 0) S G hv1 rfl kw_46 dX0_countKnot_1 ?_
  refine lv_bipush (v := (64 : Int32)) hx hb dX0_countKnot_4 (by decide) ?_
  refine lv_icmp_lt (tgt := 18) hx hb dX0_countKnot_6 (by decide) (fun c => ?_) (fun c => ?_)
  · have hf := x_pos c hf
    refine lv_aload_n hx hb dX0_countKnot_18 rfl (lv_at hl 1 rfl) ?_
    refine lv_dup hx hb dX0_countKnot_19 rfl ?_
    obtain ⟨v2, hv2, hf⟩ := x_ob hf
    refine xr_getI (ci := 1) (k := 0) S G hv2 rfl kw_46 dX0_countKnot_20 ?_
    refine lv_iconst (v := (1 : Int32)) hx hb dX0_countKnot_23 (by decide) ?_
    refine lv_iadd hx hb dX0_countKnot_24 ?_
    obtain ⟨d3, hd3, hf⟩ := x_ob hf
    refine xr_putI (ci := 1) (k := 0) S G hd3 rfl kw_46 dX0_countKnot_25 (fun H locs G => ?_)
    refine lv_iconst (v := (1 : Int32)) hx hb dX0_countKnot_28 (by decide) ?_
    cases hf
    exact xr_zret S G (fun _ => rfl) hr (by decide) dX0_countKnot_29
  · have hf := x_neg c hf
    refine lv_aload_n hx hb dX0_countKnot_9 rfl (lv_at hl 0 rfl) ?_
    obtain ⟨v4, hv4, hf⟩ := x_ob hf
    refine xr_getR (ci := 0) (k := 0) S G hv4 rfl kw_275 dX0_countKnot_10 ?_
    refine lv_iconst (v := (2 : Int32)) hx hb dX0_countKnot_13 (by decide) ?_
    obtain ⟨z5, hz5, hf⟩ := x_ob hf
    obtain ⟨hqz5, hz5⟩ := xon_of hz5
    refine xr_callV (ci := 7) (As := [.int (2 : Int32)]) (rest := []) (st1 := [.int z5.1]) S G hl.1 (fun _ => rfl) (mt_X7_refuse l D cid b ex sa sv B0 sh v4 (2 : Int32) d _ _ hz5) hqz5 (by decide) kw_692 kw_606 kw_607 kw_5 kw_608 hd_X7_refuse ⟨Nat.le_of_ble_eq_true rfl, Nat.le_of_ble_eq_true rfl⟩ rfl rfl rfl (Nat.le_of_ble_eq_true rfl) ⟨Nat.le_of_ble_eq_true rfl, Nat.le_of_ble_eq_true rfl⟩ dX0_countKnot_14 (fun H locs G => ?_)
    obtain ⟨v6, hv6, hf⟩ := x_ob hf
    cases hf
    exact xr_zret S G (fun _ => rfl) hr hv6 dX0_countKnot_17
-- HalfLandings$LawReader.readValue(LHalfLandings$Laws;)Z
theorem dX0_readValue_0 : decode cX0_readValue 0 = .ok (.aload_n 0, 1) := by decide +kernel
theorem dX0_readValue_1 : decode cX0_readValue 1 = .ok (.getfield 29, 3) := by decide +kernel
theorem dX0_readValue_4 : decode cX0_readValue 4 = .ok (.getfield 33, 3) := by decide +kernel
theorem dX0_readValue_7 : decode cX0_readValue 7 = .ok (.istore_n 2, 1) := by decide +kernel
theorem dX0_readValue_8 : decode cX0_readValue 8 = .ok (.iload_n 2, 1) := by decide +kernel
theorem dX0_readValue_9 : decode cX0_readValue 9 = .ok (.bipush 24, 2) := by decide +kernel
theorem dX0_readValue_11 : decode cX0_readValue 11 = .ok (.if_icmp .ne 42, 3) := by decide +kernel
theorem dX0_readValue_14 : decode cX0_readValue 14 = .ok (.aload_n 0, 1) := by decide +kernel
theorem dX0_readValue_15 : decode cX0_readValue 15 = .ok (.getfield 19, 3) := by decide +kernel
theorem dX0_readValue_18 : decode cX0_readValue 18 = .ok (.bipush 8, 2) := by decide +kernel
theorem dX0_readValue_20 : decode cX0_readValue 20 = .ok (.if_icmp .lt 12, 3) := by decide +kernel
theorem dX0_readValue_23 : decode cX0_readValue 23 = .ok (.aload_n 0, 1) := by decide +kernel
theorem dX0_readValue_24 : decode cX0_readValue 24 = .ok (.getfield 29, 3) := by decide +kernel
theorem dX0_readValue_27 : decode cX0_readValue 27 = .ok (.iconst 2, 1) := by decide +kernel
theorem dX0_readValue_28 : decode cX0_readValue 28 = .ok (.invokevirtual 52, 3) := by decide +kernel
theorem dX0_readValue_31 : decode cX0_readValue 31 = .ok (.ireturn, 1) := by decide +kernel
theorem dX0_readValue_32 : decode cX0_readValue 32 = .ok (.aload_n 0, 1) := by decide +kernel
theorem dX0_readValue_33 : decode cX0_readValue 33 = .ok (.dup, 1) := by decide +kernel
theorem dX0_readValue_34 : decode cX0_readValue 34 = .ok (.getfield 19, 3) := by decide +kernel
theorem dX0_readValue_37 : decode cX0_readValue 37 = .ok (.iconst 1, 1) := by decide +kernel
theorem dX0_readValue_38 : decode cX0_readValue 38 = .ok (.iadd, 1) := by decide +kernel
theorem dX0_readValue_39 : decode cX0_readValue 39 = .ok (.putfield 19, 3) := by decide +kernel
theorem dX0_readValue_42 : decode cX0_readValue 42 = .ok (.aload_n 0, 1) := by decide +kernel
theorem dX0_readValue_43 : decode cX0_readValue 43 = .ok (.iconst 1, 1) := by decide +kernel
theorem dX0_readValue_44 : decode cX0_readValue 44 = .ok (.putfield 26, 3) := by decide +kernel
theorem dX0_readValue_47 : decode cX0_readValue 47 = .ok (.aload_n 0, 1) := by decide +kernel
theorem dX0_readValue_48 : decode cX0_readValue 48 = .ok (.iload_n 2, 1) := by decide +kernel
theorem dX0_readValue_49 : decode cX0_readValue 49 = .ok (.invokevirtual 56, 3) := by decide +kernel
theorem dX0_readValue_52 : decode cX0_readValue 52 = .ok (.ireturn, 1) := by decide +kernel
theorem dX0_readValue_53 : decode cX0_readValue 53 = .ok (.iload_n 2, 1) := by decide +kernel
theorem dX0_readValue_54 : decode cX0_readValue 54 = .ok (.bipush 13, 2) := by decide +kernel
theorem dX0_readValue_56 : decode cX0_readValue 56 = .ok (.if_icmp .ne 43, 3) := by decide +kernel
theorem dX0_readValue_59 : decode cX0_readValue 59 = .ok (.aload_n 0, 1) := by decide +kernel
theorem dX0_readValue_60 : decode cX0_readValue 60 = .ok (.getfield 26, 3) := by decide +kernel
theorem dX0_readValue_63 : decode cX0_readValue 63 = .ok (.ifCond .eq 27, 3) := by decide +kernel
theorem dX0_readValue_66 : decode cX0_readValue 66 = .ok (.aload_n 0, 1) := by decide +kernel
theorem dX0_readValue_67 : decode cX0_readValue 67 = .ok (.aload_n 1, 1) := by decide +kernel
theorem dX0_readValue_68 : decode cX0_readValue 68 = .ok (.invokevirtual 59, 3) := by decide +kernel
theorem dX0_readValue_71 : decode cX0_readValue 71 = .ok (.ifCond .eq 15, 3) := by decide +kernel
theorem dX0_readValue_74 : decode cX0_readValue 74 = .ok (.aload_n 0, 1) := by decide +kernel
theorem dX0_readValue_75 : decode cX0_readValue 75 = .ok (.iload_n 2, 1) := by decide +kernel
theorem dX0_readValue_76 : decode cX0_readValue 76 = .ok (.invokevirtual 56, 3) := by decide +kernel
theorem dX0_readValue_79 : decode cX0_readValue 79 = .ok (.ifCond .eq 7, 3) := by decide +kernel
theorem dX0_readValue_82 : decode cX0_readValue 82 = .ok (.iconst 1, 1) := by decide +kernel
theorem dX0_readValue_83 : decode cX0_readValue 83 = .ok (.goto 15, 3) := by decide +kernel
theorem dX0_readValue_86 : decode cX0_readValue 86 = .ok (.iconst 0, 1) := by decide +kernel
theorem dX0_readValue_87 : decode cX0_readValue 87 = .ok (.goto 11, 3) := by decide +kernel
theorem dX0_readValue_90 : decode cX0_readValue 90 = .ok (.aload_n 0, 1) := by decide +kernel
theorem dX0_readValue_91 : decode cX0_readValue 91 = .ok (.getfield 29, 3) := by decide +kernel
theorem dX0_readValue_94 : decode cX0_readValue 94 = .ok (.iconst 1, 1) := by decide +kernel
theorem dX0_readValue_95 : decode cX0_readValue 95 = .ok (.invokevirtual 52, 3) := by decide +kernel
theorem dX0_readValue_98 : decode cX0_readValue 98 = .ok (.ireturn, 1) := by decide +kernel
theorem dX0_readValue_99 : decode cX0_readValue 99 = .ok (.iload_n 2, 1) := by decide +kernel
theorem dX0_readValue_100 : decode cX0_readValue 100 = .ok (.bipush 22, 2) := by decide +kernel
theorem dX0_readValue_102 : decode cX0_readValue 102 = .ok (.if_icmp .ne 7, 3) := by decide +kernel
theorem dX0_readValue_105 : decode cX0_readValue 105 = .ok (.iconst 1, 1) := by decide +kernel
theorem dX0_readValue_106 : decode cX0_readValue 106 = .ok (.goto 4, 3) := by decide +kernel
theorem dX0_readValue_109 : decode cX0_readValue 109 = .ok (.iconst 0, 1) := by decide +kernel
theorem dX0_readValue_110 : decode cX0_readValue 110 = .ok (.istore_n 3, 1) := by decide +kernel
theorem dX0_readValue_111 : decode cX0_readValue 111 = .ok (.iload_n 3, 1) := by decide +kernel
theorem dX0_readValue_112 : decode cX0_readValue 112 = .ok (.ifCond .ne 24, 3) := by decide +kernel
theorem dX0_readValue_115 : decode cX0_readValue 115 = .ok (.iload_n 2, 1) := by decide +kernel
theorem dX0_readValue_116 : decode cX0_readValue 116 = .ok (.bipush 14, 2) := by decide +kernel
theorem dX0_readValue_118 : decode cX0_readValue 118 = .ok (.if_icmp .lt 9, 3) := by decide +kernel
theorem dX0_readValue_121 : decode cX0_readValue 121 = .ok (.iload_n 2, 1) := by decide +kernel
theorem dX0_readValue_122 : decode cX0_readValue 122 = .ok (.bipush 20, 2) := by decide +kernel
theorem dX0_readValue_124 : decode cX0_readValue 124 = .ok (.if_icmp .le 12, 3) := by decide +kernel
theorem dX0_readValue_127 : decode cX0_readValue 127 = .ok (.aload_n 0, 1) := by decide +kernel
theorem dX0_readValue_128 : decode cX0_readValue 128 = .ok (.getfield 29, 3) := by decide +kernel
theorem dX0_readValue_131 : decode cX0_readValue 131 = .ok (.iconst 1, 1) := by decide +kernel
theorem dX0_readValue_132 : decode cX0_readValue 132 = .ok (.invokevirtual 52, 3) := by decide +kernel
theorem dX0_readValue_135 : decode cX0_readValue 135 = .ok (.ireturn, 1) := by decide +kernel
theorem dX0_readValue_136 : decode cX0_readValue 136 = .ok (.iload_n 3, 1) := by decide +kernel
theorem dX0_readValue_137 : decode cX0_readValue 137 = .ok (.ifCond .eq 25, 3) := by decide +kernel
theorem dX0_readValue_140 : decode cX0_readValue 140 = .ok (.aload_n 0, 1) := by decide +kernel
theorem dX0_readValue_141 : decode cX0_readValue 141 = .ok (.getfield 29, 3) := by decide +kernel
theorem dX0_readValue_144 : decode cX0_readValue 144 = .ok (.getfield 62, 3) := by decide +kernel
theorem dX0_readValue_147 : decode cX0_readValue 147 = .ok (.sipush 9999, 3) := by decide +kernel
theorem dX0_readValue_150 : decode cX0_readValue 150 = .ok (.if_icmp .le 12, 3) := by decide +kernel
theorem dX0_readValue_153 : decode cX0_readValue 153 = .ok (.aload_n 0, 1) := by decide +kernel
theorem dX0_readValue_154 : decode cX0_readValue 154 = .ok (.getfield 29, 3) := by decide +kernel
theorem dX0_readValue_157 : decode cX0_readValue 157 = .ok (.iconst 2, 1) := by decide +kernel
theorem dX0_readValue_158 : decode cX0_readValue 158 = .ok (.invokevirtual 52, 3) := by decide +kernel
theorem dX0_readValue_161 : decode cX0_readValue 161 = .ok (.ireturn, 1) := by decide +kernel
theorem dX0_readValue_162 : decode cX0_readValue 162 = .ok (.aload_n 0, 1) := by decide +kernel
theorem dX0_readValue_163 : decode cX0_readValue 163 = .ok (.aload_n 1, 1) := by decide +kernel
theorem dX0_readValue_164 : decode cX0_readValue 164 = .ok (.invokevirtual 59, 3) := by decide +kernel
theorem dX0_readValue_167 : decode cX0_readValue 167 = .ok (.ifCond .ne 5, 3) := by decide +kernel
theorem dX0_readValue_170 : decode cX0_readValue 170 = .ok (.iconst 0, 1) := by decide +kernel
theorem dX0_readValue_171 : decode cX0_readValue 171 = .ok (.ireturn, 1) := by decide +kernel
theorem dX0_readValue_172 : decode cX0_readValue 172 = .ok (.aload_n 1, 1) := by decide +kernel
theorem dX0_readValue_173 : decode cX0_readValue 173 = .ok (.iload_n 2, 1) := by decide +kernel
theorem dX0_readValue_174 : decode cX0_readValue 174 = .ok (.aload_n 0, 1) := by decide +kernel
theorem dX0_readValue_175 : decode cX0_readValue 175 = .ok (.getfield 29, 3) := by decide +kernel
theorem dX0_readValue_178 : decode cX0_readValue 178 = .ok (.getfield 62, 3) := by decide +kernel
theorem dX0_readValue_181 : decode cX0_readValue 181 = .ok (.invokevirtual 65, 3) := by decide +kernel
theorem dX0_readValue_184 : decode cX0_readValue 184 = .ok (.aload_n 0, 1) := by decide +kernel
theorem dX0_readValue_185 : decode cX0_readValue 185 = .ok (.iconst 0, 1) := by decide +kernel
theorem dX0_readValue_186 : decode cX0_readValue 186 = .ok (.putfield 22, 3) := by decide +kernel
theorem dX0_readValue_189 : decode cX0_readValue 189 = .ok (.iconst 1, 1) := by decide +kernel
theorem dX0_readValue_190 : decode cX0_readValue 190 = .ok (.ireturn, 1) := by decide +kernel
theorem hd_X0_readValue : yX0_readValue.cls = xCn 0 ∧ yX0_readValue.cls ≠ "java/lang/invoke/MethodHandle" ∧ yX0_readValue.cls ≠ "java/lang/invoke/VarHandle" ∧ (parseMethodDescriptor yX0_readValue.desc).map (fun d => d.parameters.length) = some 1 := by decide +kernel
def k_X0_readValue_162 (sh : List xSh) (q0 : Nat) (q1 : Nat) (x2 : Int32) (d : xD) : Option (Int32 × xD) :=
  (xon 0 sh q0 (f_X0_countKnot sh q0 q1 d)).bind fun z1 => if z1.1 = 0 then (some ((0 : Int32), z1.2)) else ((xgR 0 sh z1.2 q0 0).bind fun v2 => (xgI 7 sh z1.2 v2 2).bind fun v3 => (xon 1 sh q1 (f_X1_add sh q1 x2 v3 z1.2)).bind fun d4 => (xpI 0 sh d4 q0 4 (0 : Int32)).bind fun d5 => some ((1 : Int32), d5))
def k_X0_readValue_136 (sh : List xSh) (q0 : Nat) (q1 : Nat) (x2 : Int32) (x3 : Int32) (d : xD) : Option (Int32 × xD) :=
  if x3 = 0 then (k_X0_readValue_162 sh q0 q1 x2 d) else ((xgR 0 sh d q0 0).bind fun v6 => (xgI 7 sh d v6 2).bind fun v7 => if v7 ≤ (9999 : Int32) then (k_X0_readValue_162 sh q0 q1 x2 d) else ((xgR 0 sh d q0 0).bind fun v8 => (xon 7 sh v8 (f_X7_refuse sh v8 (2 : Int32) d)).bind fun z9 => (xz z9.1).bind fun v10 => some (v10, z9.2)))
def k_X0_readValue_127 (sh : List xSh) (q0 : Nat) (d : xD) : Option (Int32 × xD) :=
  (xgR 0 sh d q0 0).bind fun v11 => (xon 7 sh v11 (f_X7_refuse sh v11 (1 : Int32) d)).bind fun z12 => (xz z12.1).bind fun v13 => some (v13, z12.2)
def k_X0_readValue_110 (sh : List xSh) (q0 : Nat) (q1 : Nat) (x2 : Int32) (y0 : Int32) (d : xD) : Option (Int32 × xD) :=
  if y0 = 0 then (if x2 < (14 : Int32) then (k_X0_readValue_127 sh q0 d) else (if x2 ≤ (20 : Int32) then (k_X0_readValue_136 sh q0 q1 x2 y0 d) else (k_X0_readValue_127 sh q0 d))) else (k_X0_readValue_136 sh q0 q1 x2 y0 d)
def k_X0_readValue_98 (sh : List xSh) (y0 : Int32) (d : xD) : Option (Int32 × xD) :=
  (xz y0).bind fun v14 => some (v14, d)
def k_X0_readValue_86 (sh : List xSh) (d : xD) : Option (Int32 × xD) :=
  k_X0_readValue_98 sh (0 : Int32) d
def f_X0_readValue (sh : List xSh) (q0 : Nat) (q1 : Nat) (d : xD) : Option (Int32 × xD) :=
  (xgR 0 sh d q0 0).bind fun v15 => (xgI 7 sh d v15 0).bind fun v16 => if v16 = (24 : Int32) then ((xgI 0 sh d q0 3).bind fun v22 => if v22 < (8 : Int32) then ((xgI 0 sh d q0 3).bind fun v23 => (xpI 0 sh d q0 3 (v23 + (1 : Int32))).bind fun d24 => (xpI 0 sh d24 q0 5 (1 : Int32)).bind fun d25 => (xon 0 sh q0 (f_X0_hold sh q0 v16 d25)).bind fun z26 => (xz z26.1).bind fun v27 => some (v27, z26.2)) else ((xgR 0 sh d q0 0).bind fun v28 => (xon 7 sh v28 (f_X7_refuse sh v28 (2 : Int32) d)).bind fun z29 => (xz z29.1).bind fun v30 => some (v30, z29.2))) else (if v16 = (13 : Int32) then ((xgI 0 sh d q0 5).bind fun v17 => if v17 = 0 then ((xgR 0 sh d q0 0).bind fun v18 => (xon 7 sh v18 (f_X7_refuse sh v18 (1 : Int32) d)).bind fun z19 => k_X0_readValue_98 sh z19.1 z19.2) else ((xon 0 sh q0 (f_X0_countKnot sh q0 q1 d)).bind fun z20 => if z20.1 = 0 then (k_X0_readValue_86 sh z20.2) else ((xon 0 sh q0 (f_X0_hold sh q0 v16 z20.2)).bind fun z21 => if z21.1 = 0 then (k_X0_readValue_86 sh z21.2) else (k_X0_readValue_98 sh (1 : Int32) z21.2)))) else (if v16 = (22 : Int32) then (k_X0_readValue_110 sh q0 q1 v16 (1 : Int32) d) else (k_X0_readValue_110 sh q0 q1 v16 (0 : Int32) d)))
set_option maxHeartbeats 4000000 in
set_option maxRecDepth 100000 in
theorem mt_X0_readValue (l : Launch) (D : va_G) (cid : FieldType → ClassId) (b : Nat) (ex : Bool) (sa sv B0 : Nat) (sh : List xSh) (q0 : Nat) (q1 : Nat) (d : xD) (r : Int32) (dz : xD) (hf : f_X0_readValue sh q0 q1 d = some (r, dz)) : xMet l yX0_readValue cX0_readValue 4 (some .boolean) 2 0 0 D cid b ex sa sv B0 [.ref (b + q0), .ref (b + q1)] sh d (some (.int r)) sh dz := by
  refine xMet.of (by decide) (Nat.le_of_ble_eq_true rfl) ?_
  intro p e s m below meth c ls A S hr hin G hl
  have hl : lv_has ls 4 [(0, .ref (b + q0)), (1, .ref (b + q1))] := hl
  generalize ([.ref (b + q0), .ref (b + q1)] : List Value).toArray = av at S ⊢
  have hx := S.1
  have hb := S.2.1
  have hml := S.2.2.1
  have hown := S.2.2.2.1
  have hts := S.2.2.2.2.1
  have K162 : ∀ (q0 : Nat) (q1 : Nat) (x2 : Int32) (d : xD), k_X0_readValue_162 sh q0 q1 x2 d = some (r, dz) → ∀ (H : Heap) (locs : List Loc) (ls : Array Slot), lv_has ls 4 [(0, .ref (b + q0)), (1, .ref (b + q1)), (2, .int x2)] → xG D cid b A sh d s H locs → W p l e (xRm 2 0 0) s m av below meth c H locs 0 0 (MQ below (xQ D cid b ex A (some (.int r)) sh dz) av s 0 0 A) (F0 m 162 ls []) := by
    intro q0 q1 x2 d hf H locs ls hl G
    unfold k_X0_readValue_162 at hf
    refine lv_aload_n hx hb dX0_readValue_162 rfl (lv_at hl 0 rfl) ?_
    refine lv_aload_n hx hb dX0_readValue_163 rfl (lv_at hl 1 rfl) ?_
    obtain ⟨z1, hz1, hf⟩ := x_ob hf
    obtain ⟨hqz1, hz1⟩ := xon_of hz1
    refine xr_callV (ci := 0) (As := [.ref (b + q1)]) (rest := []) (st1 := [.int z1.1]) S G hl.1 (fun _ => rfl) (mt_X0_countKnot l D cid b ex sa sv B0 sh q0 q1 d _ _ hz1) hqz1 (by decide) kw_697 kw_699 ks_20 kw_11 kw_700 hd_X0_countKnot ⟨Nat.le_of_ble_eq_true rfl, Nat.le_of_ble_eq_true rfl⟩ rfl rfl rfl (Nat.le_of_ble_eq_true rfl) ⟨Nat.le_of_ble_eq_true rfl, Nat.le_of_ble_eq_true rfl⟩ dX0_readValue_164 (fun H locs G => ?_)
    refine lv_if_ne (tgt := 172) hx hb dX0_readValue_167 (by decide) (fun c => ?_) (fun c => ?_)
    · have hf := x_neg c hf
      refine lv_aload_n hx hb dX0_readValue_172 rfl (lv_at hl 1 rfl) ?_
      refine lv_iload_n hx hb dX0_readValue_173 rfl (lv_at hl 2 rfl) ?_
      refine lv_aload_n hx hb dX0_readValue_174 rfl (lv_at hl 0 rfl) ?_
      obtain ⟨v2, hv2, hf⟩ := x_ob hf
      refine xr_getR (ci := 0) (k := 0) S G hv2 rfl kw_275 dX0_readValue_175 ?_
      obtain ⟨v3, hv3, hf⟩ := x_ob hf
      refine xr_getI (ci := 7) (k := 2) S G hv3 rfl kw_234 dX0_readValue_178 ?_
      obtain ⟨d4, hd4, hf⟩ := x_ob hf
      obtain ⟨hqd4, hd4⟩ := xon_of hd4
      refine xr_callV (ci := 1) (As := [.int x2, .int v3]) (rest := []) (st1 := []) S G hl.1 (fun _ => rfl) (mt_X1_add l D cid b ex sa sv B0 sh q1 x2 v3 z1.2 _ hd4) hqd4 (by decide) kw_684 kw_685 kw_686 kw_3 kw_687 hd_X1_add ⟨Nat.le_of_ble_eq_true rfl, Nat.le_of_ble_eq_true rfl⟩ rfl rfl rfl (Nat.le_of_ble_eq_true rfl) ⟨Nat.le_of_ble_eq_true rfl, Nat.le_of_ble_eq_true rfl⟩ dX0_readValue_181 (fun H locs G => ?_)
      refine lv_aload_n hx hb dX0_readValue_184 rfl (lv_at hl 0 rfl) ?_
      refine lv_iconst (v := (0 : Int32)) hx hb dX0_readValue_185 (by decide) ?_
      obtain ⟨d5, hd5, hf⟩ := x_ob hf
      refine xr_putI (ci := 0) (k := 4) S G hd5 rfl kw_279 dX0_readValue_186 (fun H locs G => ?_)
      refine lv_iconst (v := (1 : Int32)) hx hb dX0_readValue_189 (by decide) ?_
      cases hf
      exact xr_zret S G (fun _ => rfl) hr (by decide) dX0_readValue_190
    · have hf := x_pos c hf
      refine lv_iconst (v := (0 : Int32)) hx hb dX0_readValue_170 (by decide) ?_
      cases hf
      exact xr_zret S G (fun _ => rfl) hr (by decide) dX0_readValue_171
  have K136 : ∀ (q0 : Nat) (q1 : Nat) (x2 : Int32) (x3 : Int32) (d : xD), k_X0_readValue_136 sh q0 q1 x2 x3 d = some (r, dz) → ∀ (H : Heap) (locs : List Loc) (ls : Array Slot), lv_has ls 4 [(0, .ref (b + q0)), (1, .ref (b + q1)), (2, .int x2), (3, .int x3)] → xG D cid b A sh d s H locs → W p l e (xRm 2 0 0) s m av below meth c H locs 0 0 (MQ below (xQ D cid b ex A (some (.int r)) sh dz) av s 0 0 A) (F0 m 136 ls []) := by
    intro q0 q1 x2 x3 d hf H locs ls hl G
    unfold k_X0_readValue_136 at hf
    refine lv_iload_n hx hb dX0_readValue_136 rfl (lv_at hl 3 rfl) ?_
    refine lv_if_eq (tgt := 162) hx hb dX0_readValue_137 (by decide) (fun c => ?_) (fun c => ?_)
    · have hf := x_pos c hf
      exact K162 q0 q1 x2 d hf _ _ ls (lv_sub hl [0, 1, 2] rfl) G
    · have hf := x_neg c hf
      refine lv_aload_n hx hb dX0_readValue_140 rfl (lv_at hl 0 rfl) ?_
      obtain ⟨v6, hv6, hf⟩ := x_ob hf
      refine xr_getR (ci := 0) (k := 0) S G hv6 rfl kw_275 dX0_readValue_141 ?_
      obtain ⟨v7, hv7, hf⟩ := x_ob hf
      refine xr_getI (ci := 7) (k := 2) S G hv7 rfl kw_234 dX0_readValue_144 ?_
      refine lv_sipush (v := (9999 : Int32)) hx hb dX0_readValue_147 (by decide) ?_
      refine lv_icmp_le (tgt := 162) hx hb dX0_readValue_150 (by decide) (fun c => ?_) (fun c => ?_)
      · have hf := x_pos c hf
        exact K162 q0 q1 x2 d hf _ _ ls (lv_sub hl [0, 1, 2] rfl) G
      · have hf := x_neg c hf
        refine lv_aload_n hx hb dX0_readValue_153 rfl (lv_at hl 0 rfl) ?_
        obtain ⟨v8, hv8, hf⟩ := x_ob hf
        refine xr_getR (ci := 0) (k := 0) S G hv8 rfl kw_275 dX0_readValue_154 ?_
        refine lv_iconst (v := (2 : Int32)) hx hb dX0_readValue_157 (by decide) ?_
        obtain ⟨z9, hz9, hf⟩ := x_ob hf
        obtain ⟨hqz9, hz9⟩ := xon_of hz9
        refine xr_callV (ci := 7) (As := [.int (2 : Int32)]) (rest := []) (st1 := [.int z9.1]) S G hl.1 (fun _ => rfl) (mt_X7_refuse l D cid b ex sa sv B0 sh v8 (2 : Int32) d _ _ hz9) hqz9 (by decide) kw_692 kw_606 kw_607 kw_5 kw_608 hd_X7_refuse ⟨Nat.le_of_ble_eq_true rfl, Nat.le_of_ble_eq_true rfl⟩ rfl rfl rfl (Nat.le_of_ble_eq_true rfl) ⟨Nat.le_of_ble_eq_true rfl, Nat.le_of_ble_eq_true rfl⟩ dX0_readValue_158 (fun H locs G => ?_)
        obtain ⟨v10, hv10, hf⟩ := x_ob hf
        cases hf
        exact xr_zret S G (fun _ => rfl) hr hv10 dX0_readValue_161
  have K127 : ∀ (q0 : Nat) (d : xD), k_X0_readValue_127 sh q0 d = some (r, dz) → ∀ (H : Heap) (locs : List Loc) (ls : Array Slot), lv_has ls 4 [(0, .ref (b + q0))] → xG D cid b A sh d s H locs → W p l e (xRm 2 0 0) s m av below meth c H locs 0 0 (MQ below (xQ D cid b ex A (some (.int r)) sh dz) av s 0 0 A) (F0 m 127 ls []) := by
    intro q0 d hf H locs ls hl G
    unfold k_X0_readValue_127 at hf
    refine lv_aload_n hx hb dX0_readValue_127 rfl (lv_at hl 0 rfl) ?_
    obtain ⟨v11, hv11, hf⟩ := x_ob hf
    refine xr_getR (ci := 0) (k := 0) S G hv11 rfl kw_275 dX0_readValue_128 ?_
    refine lv_iconst (v := (1 : Int32)) hx hb dX0_readValue_131 (by decide) ?_
    obtain ⟨z12, hz12, hf⟩ := x_ob hf
    obtain ⟨hqz12, hz12⟩ := xon_of hz12
    refine xr_callV (ci := 7) (As := [.int (1 : Int32)]) (rest := []) (st1 := [.int z12.1]) S G hl.1 (fun _ => rfl) (mt_X7_refuse l D cid b ex sa sv B0 sh v11 (1 : Int32) d _ _ hz12) hqz12 (by decide) kw_692 kw_606 kw_607 kw_5 kw_608 hd_X7_refuse ⟨Nat.le_of_ble_eq_true rfl, Nat.le_of_ble_eq_true rfl⟩ rfl rfl rfl (Nat.le_of_ble_eq_true rfl) ⟨Nat.le_of_ble_eq_true rfl, Nat.le_of_ble_eq_true rfl⟩ dX0_readValue_132 (fun H locs G => ?_)
    obtain ⟨v13, hv13, hf⟩ := x_ob hf
    cases hf
    exact xr_zret S G (fun _ => rfl) hr hv13 dX0_readValue_135
  have K110 : ∀ (q0 : Nat) (q1 : Nat) (x2 : Int32) (y0 : Int32) (d : xD), k_X0_readValue_110 sh q0 q1 x2 y0 d = some (r, dz) → ∀ (H : Heap) (locs : List Loc) (ls : Array Slot), lv_has ls 4 [(0, .ref (b + q0)), (1, .ref (b + q1)), (2, .int x2)] → xG D cid b A sh d s H locs → W p l e (xRm 2 0 0) s m av below meth c H locs 0 0 (MQ below (xQ D cid b ex A (some (.int r)) sh dz) av s 0 0 A) (F0 m 110 ls [.int y0]) := by
    intro q0 q1 x2 y0 d hf H locs ls hl G
    unfold k_X0_readValue_110 at hf
    refine lv_istore_n (lv' := [(3, .int y0), (0, .ref (b + q0)), (1, .ref (b + q1)), (2, .int x2)]) hx hb dX0_readValue_110 rfl hl (by decide) rfl (fun ls hl => ?_)
    refine lv_iload_n hx hb dX0_readValue_111 rfl (lv_at hl 0 rfl) ?_
    refine lv_if_ne (tgt := 136) hx hb dX0_readValue_112 (by decide) (fun c => ?_) (fun c => ?_)
    · have hf := x_neg c hf
      exact K136 q0 q1 x2 y0 d hf _ _ ls (lv_sub hl [1, 2, 3, 0] rfl) G
    · have hf := x_pos c hf
      refine lv_iload_n hx hb dX0_readValue_115 rfl (lv_at hl 3 rfl) ?_
      refine lv_bipush (v := (14 : Int32)) hx hb dX0_readValue_116 (by decide) ?_
      refine lv_icmp_lt (tgt := 127) hx hb dX0_readValue_118 (by decide) (fun c => ?_) (fun c => ?_)
      · have hf := x_pos c hf
        exact K127 q0 d hf _ _ ls (lv_sub hl [1] rfl) G
      · have hf := x_neg c hf
        refine lv_iload_n hx hb dX0_readValue_121 rfl (lv_at hl 3 rfl) ?_
        refine lv_bipush (v := (20 : Int32)) hx hb dX0_readValue_122 (by decide) ?_
        refine lv_icmp_le (tgt := 136) hx hb dX0_readValue_124 (by decide) (fun c => ?_) (fun c => ?_)
        · have hf := x_pos c hf
          exact K136 q0 q1 x2 y0 d hf _ _ ls (lv_sub hl [1, 2, 3, 0] rfl) G
        · have hf := x_neg c hf
          exact K127 q0 d hf _ _ ls (lv_sub hl [1] rfl) G
  have K98 : ∀ (y0 : Int32) (d : xD), k_X0_readValue_98 sh y0 d = some (r, dz) → ∀ (H : Heap) (locs : List Loc) (ls : Array Slot), lv_has ls 4 [] → xG D cid b A sh d s H locs → W p l e (xRm 2 0 0) s m av below meth c H locs 0 0 (MQ below (xQ D cid b ex A (some (.int r)) sh dz) av s 0 0 A) (F0 m 98 ls [.int y0]) := by
    intro y0 d hf H locs ls hl G
    unfold k_X0_readValue_98 at hf
    obtain ⟨v14, hv14, hf⟩ := x_ob hf
    cases hf
    exact xr_zret S G (fun _ => rfl) hr hv14 dX0_readValue_98
  have K86 : ∀ (d : xD), k_X0_readValue_86 sh d = some (r, dz) → ∀ (H : Heap) (locs : List Loc) (ls : Array Slot), lv_has ls 4 [] → xG D cid b A sh d s H locs → W p l e (xRm 2 0 0) s m av below meth c H locs 0 0 (MQ below (xQ D cid b ex A (some (.int r)) sh dz) av s 0 0 A) (F0 m 86 ls []) := by
    intro d hf H locs ls hl G
    unfold k_X0_readValue_86 at hf
    refine lv_iconst (v := (0 : Int32)) hx hb dX0_readValue_86 (by decide) ?_
    refine lv_goto (tgt := 98) hx hb dX0_readValue_87 (by decide) ?_
    exact K98 (0 : Int32) d hf _ _ ls (lv_sub hl [] rfl) G
  unfold f_X0_readValue at hf
  refine lv_aload_n hx hb dX0_readValue_0 rfl (lv_at hl 0 rfl) ?_
  obtain ⟨v15, hv15, hf⟩ := x_ob hf
  refine xr_getR (ci := 0) (k := 0) S G hv15 rfl kw_275 dX0_readValue_1 ?_
  obtain ⟨v16, hv16, hf⟩ := x_ob hf
  refine xr_getI (ci := 7) (k := 0) S G hv16 rfl kw_231 dX0_readValue_4 ?_
  refine lv_istore_n (lv' := [(2, .int v16), (0, .ref (b + q0)), (1, .ref (b + q1))]) hx hb dX0_readValue_7 rfl hl (by decide) rfl (fun ls hl => ?_)
  refine lv_iload_n hx hb dX0_readValue_8 rfl (lv_at hl 0 rfl) ?_
  refine lv_bipush (v := (24 : Int32)) hx hb dX0_readValue_9 (by decide) ?_
  refine lv_icmp_ne (tgt := 53) hx hb dX0_readValue_11 (by decide) (fun c => ?_) (fun c => ?_)
  · have hf := x_neg c hf
    refine lv_iload_n hx hb dX0_readValue_53 rfl (lv_at hl 0 rfl) ?_
    refine lv_bipush (v := (13 : Int32)) hx hb dX0_readValue_54 (by decide) ?_
    refine lv_icmp_ne (tgt := 99) hx hb dX0_readValue_56 (by decide) (fun c => ?_) (fun c => ?_)
    · have hf := x_neg c hf
      refine lv_iload_n hx hb dX0_readValue_99 rfl (lv_at hl 0 rfl) ?_
      refine lv_bipush (v := (22 : Int32)) hx hb dX0_readValue_100 (by decide) ?_
      refine lv_icmp_ne (tgt := 109) hx hb dX0_readValue_102 (by decide) (fun c => ?_) (fun c => ?_)
      · have hf := x_neg c hf
        refine lv_iconst (v := (0 : Int32)) hx hb dX0_readValue_109 (by decide) ?_
        exact K110 q0 q1 v16 (0 : Int32) d hf _ _ ls (lv_sub hl [1, 2, 0] rfl) G
      · have hf := x_pos c hf
        refine lv_iconst (v := (1 : Int32)) hx hb dX0_readValue_105 (by decide) ?_
        refine lv_goto (tgt := 110) hx hb dX0_readValue_106 (by decide) ?_
        exact K110 q0 q1 v16 (1 : Int32) d hf _ _ ls (lv_sub hl [1, 2, 0] rfl) G
    · have hf := x_pos c hf
      refine lv_aload_n hx hb dX0_readValue_59 rfl (lv_at hl 1 rfl) ?_
      obtain ⟨v17, hv17, hf⟩ := x_ob hf
      refine xr_getI (ci := 0) (k := 5) S G hv17 rfl kw_280 dX0_readValue_60 ?_
      refine lv_if_eq (tgt := 90) hx hb dX0_readValue_63 (by decide) (fun c => ?_) (fun c => ?_)
      · have hf := x_pos c hf
        refine lv_aload_n hx hb dX0_readValue_90 rfl (lv_at hl 1 rfl) ?_
        obtain ⟨v18, hv18, hf⟩ := x_ob hf
        refine xr_getR (ci := 0) (k := 0) S G hv18 rfl kw_275 dX0_readValue_91 ?_
        refine lv_iconst (v := (1 : Int32)) hx hb dX0_readValue_94 (by decide) ?_
        obtain ⟨z19, hz19, hf⟩ := x_ob hf
        obtain ⟨hqz19, hz19⟩ := xon_of hz19
        refine xr_callV (ci := 7) (As := [.int (1 : Int32)]) (rest := []) (st1 := [.int z19.1]) S G hl.1 (fun _ => rfl) (mt_X7_refuse l D cid b ex sa sv B0 sh v18 (1 : Int32) d _ _ hz19) hqz19 (by decide) kw_692 kw_606 kw_607 kw_5 kw_608 hd_X7_refuse ⟨Nat.le_of_ble_eq_true rfl, Nat.le_of_ble_eq_true rfl⟩ rfl rfl rfl (Nat.le_of_ble_eq_true rfl) ⟨Nat.le_of_ble_eq_true rfl, Nat.le_of_ble_eq_true rfl⟩ dX0_readValue_95 (fun H locs G => ?_)
        exact K98 z19.1 z19.2 hf _ _ ls (lv_sub hl [] rfl) G
      · have hf := x_neg c hf
        refine lv_aload_n hx hb dX0_readValue_66 rfl (lv_at hl 1 rfl) ?_
        refine lv_aload_n hx hb dX0_readValue_67 rfl (lv_at hl 2 rfl) ?_
        obtain ⟨z20, hz20, hf⟩ := x_ob hf
        obtain ⟨hqz20, hz20⟩ := xon_of hz20
        refine xr_callV (ci := 0) (As := [.ref (b + q1)]) (rest := []) (st1 := [.int z20.1]) S G hl.1 (fun _ => rfl) (mt_X0_countKnot l D cid b ex sa sv B0 sh q0 q1 d _ _ hz20) hqz20 (by decide) kw_697 kw_699 ks_20 kw_11 kw_700 hd_X0_countKnot ⟨Nat.le_of_ble_eq_true rfl, Nat.le_of_ble_eq_true rfl⟩ rfl rfl rfl (Nat.le_of_ble_eq_true rfl) ⟨Nat.le_of_ble_eq_true rfl, Nat.le_of_ble_eq_true rfl⟩ dX0_readValue_68 (fun H locs G => ?_)
        refine lv_if_eq (tgt := 86) hx hb dX0_readValue_71 (by decide) (fun c => ?_) (fun c => ?_)
        · have hf := x_pos c hf
          exact K86 z20.2 hf _ _ ls (lv_sub hl [] rfl) G
        · have hf := x_neg c hf
          refine lv_aload_n hx hb dX0_readValue_74 rfl (lv_at hl 1 rfl) ?_
          refine lv_iload_n hx hb dX0_readValue_75 rfl (lv_at hl 0 rfl) ?_
          obtain ⟨z21, hz21, hf⟩ := x_ob hf
          obtain ⟨hqz21, hz21⟩ := xon_of hz21
          refine xr_callV (ci := 0) (As := [.int v16]) (rest := []) (st1 := [.int z21.1]) S G hl.1 (fun _ => rfl) (mt_X0_hold l D cid b ex sa sv B0 sh q0 v16 z20.2 _ _ hz21) hqz21 (by decide) kw_693 kw_695 ks_19 kw_11 kw_696 hd_X0_hold ⟨Nat.le_of_ble_eq_true rfl, Nat.le_of_ble_eq_true rfl⟩ rfl rfl rfl (Nat.le_of_ble_eq_true rfl) ⟨Nat.le_of_ble_eq_true rfl, Nat.le_of_ble_eq_true rfl⟩ dX0_readValue_76 (fun H locs G => ?_)
          refine lv_if_eq (tgt := 86) hx hb dX0_readValue_79 (by decide) (fun c => ?_) (fun c => ?_)
          · have hf := x_pos c hf
            exact K86 z21.2 hf _ _ ls (lv_sub hl [] rfl) G
          · have hf := x_neg c hf
            refine lv_iconst (v := (1 : Int32)) hx hb dX0_readValue_82 (by decide) ?_
            refine lv_goto (tgt := 98) hx hb dX0_readValue_83 (by decide) ?_
            exact K98 (1 : Int32) z21.2 hf _ _ ls (lv_sub hl [] rfl) G
  · have hf := x_pos c hf
    refine lv_aload_n hx hb dX0_readValue_14 rfl (lv_at hl 1 rfl) ?_
    obtain ⟨v22, hv22, hf⟩ := x_ob hf
    refine xr_getI (ci := 0) (k := 3) S G hv22 rfl kw_278 dX0_readValue_15 ?_
    refine lv_bipush (v := (8 : Int32)) hx hb dX0_readValue_18 (by decide) ?_
    refine lv_icmp_lt (tgt := 32) hx hb dX0_readValue_20 (by decide) (fun c => ?_) (fun c => ?_)
    · have hf := x_pos c hf
      refine lv_aload_n hx hb dX0_readValue_32 rfl (lv_at hl 1 rfl) ?_
      refine lv_dup hx hb dX0_readValue_33 rfl ?_
      obtain ⟨v23, hv23, hf⟩ := x_ob hf
      refine xr_getI (ci := 0) (k := 3) S G hv23 rfl kw_278 dX0_readValue_34 ?_
      refine lv_iconst (v := (1 : Int32)) hx hb dX0_readValue_37 (by decide) ?_
      refine lv_iadd hx hb dX0_readValue_38 ?_
      obtain ⟨d24, hd24, hf⟩ := x_ob hf
      refine xr_putI (ci := 0) (k := 3) S G hd24 rfl kw_278 dX0_readValue_39 (fun H locs G => ?_)
      refine lv_aload_n hx hb dX0_readValue_42 rfl (lv_at hl 1 rfl) ?_
      refine lv_iconst (v := (1 : Int32)) hx hb dX0_readValue_43 (by decide) ?_
      obtain ⟨d25, hd25, hf⟩ := x_ob hf
      refine xr_putI (ci := 0) (k := 5) S G hd25 rfl kw_280 dX0_readValue_44 (fun H locs G => ?_)
      refine lv_aload_n hx hb dX0_readValue_47 rfl (lv_at hl 1 rfl) ?_
      refine lv_iload_n hx hb dX0_readValue_48 rfl (lv_at hl 0 rfl) ?_
      obtain ⟨z26, hz26, hf⟩ := x_ob hf
      obtain ⟨hqz26, hz26⟩ := xon_of hz26
      refine xr_callV (ci := 0) (As := [.int v16]) (rest := []) (st1 := [.int z26.1]) S G hl.1 (fun _ => rfl) (mt_X0_hold l D cid b ex sa sv B0 sh q0 v16 d25 _ _ hz26) hqz26 (by decide) kw_693 kw_695 ks_19 kw_11 kw_696 hd_X0_hold ⟨Nat.le_of_ble_eq_true rfl, Nat.le_of_ble_eq_true rfl⟩ rfl rfl rfl (Nat.le_of_ble_eq_true rfl) ⟨Nat.le_of_ble_eq_true rfl, Nat.le_of_ble_eq_true rfl⟩ dX0_readValue_49 (fun H locs G => ?_)
      obtain ⟨v27, hv27, hf⟩ := x_ob hf
      cases hf
      exact xr_zret S G (fun _ => rfl) hr hv27 dX0_readValue_52
    · have hf := x_neg c hf
      refine lv_aload_n hx hb dX0_readValue_23 rfl (lv_at hl 1 rfl) ?_
      obtain ⟨v28, hv28, hf⟩ := x_ob hf
      refine xr_getR (ci := 0) (k := 0) S G hv28 rfl kw_275 dX0_readValue_24 ?_
      refine lv_iconst (v := (2 : Int32)) hx hb dX0_readValue_27 (by decide) ?_
      obtain ⟨z29, hz29, hf⟩ := x_ob hf
      obtain ⟨hqz29, hz29⟩ := xon_of hz29
      refine xr_callV (ci := 7) (As := [.int (2 : Int32)]) (rest := []) (st1 := [.int z29.1]) S G hl.1 (fun _ => rfl) (mt_X7_refuse l D cid b ex sa sv B0 sh v28 (2 : Int32) d _ _ hz29) hqz29 (by decide) kw_692 kw_606 kw_607 kw_5 kw_608 hd_X7_refuse ⟨Nat.le_of_ble_eq_true rfl, Nat.le_of_ble_eq_true rfl⟩ rfl rfl rfl (Nat.le_of_ble_eq_true rfl) ⟨Nat.le_of_ble_eq_true rfl, Nat.le_of_ble_eq_true rfl⟩ dX0_readValue_28 (fun H locs G => ?_)
      obtain ⟨v30, hv30, hf⟩ := x_ob hf
      cases hf
      exact xr_zret S G (fun _ => rfl) hr hv30 dX0_readValue_31
-- HalfLandings$LawReader.readSign(LHalfLandings$Laws;)Z
theorem dX0_readSign_0 : decode cX0_readSign 0 = .ok (.aload_n 0, 1) := by decide +kernel
theorem dX0_readSign_1 : decode cX0_readSign 1 = .ok (.getfield 29, 3) := by decide +kernel
theorem dX0_readSign_4 : decode cX0_readSign 4 = .ok (.getfield 33, 3) := by decide +kernel
theorem dX0_readSign_7 : decode cX0_readSign 7 = .ok (.istore_n 2, 1) := by decide +kernel
theorem dX0_readSign_8 : decode cX0_readSign 8 = .ok (.iload_n 2, 1) := by decide +kernel
theorem dX0_readSign_9 : decode cX0_readSign 9 = .ok (.bipush 25, 2) := by decide +kernel
theorem dX0_readSign_11 : decode cX0_readSign 11 = .ok (.if_icmp .ne 38, 3) := by decide +kernel
theorem dX0_readSign_14 : decode cX0_readSign 14 = .ok (.aload_n 0, 1) := by decide +kernel
theorem dX0_readSign_15 : decode cX0_readSign 15 = .ok (.getfield 19, 3) := by decide +kernel
theorem dX0_readSign_18 : decode cX0_readSign 18 = .ok (.ifCond .le 31, 3) := by decide +kernel
theorem dX0_readSign_21 : decode cX0_readSign 21 = .ok (.aload_n 0, 1) := by decide +kernel
theorem dX0_readSign_22 : decode cX0_readSign 22 = .ok (.aload_n 1, 1) := by decide +kernel
theorem dX0_readSign_23 : decode cX0_readSign 23 = .ok (.iconst 1, 1) := by decide +kernel
theorem dX0_readSign_24 : decode cX0_readSign 24 = .ok (.invokevirtual 38, 3) := by decide +kernel
theorem dX0_readSign_27 : decode cX0_readSign 27 = .ok (.aload_n 0, 1) := by decide +kernel
theorem dX0_readSign_28 : decode cX0_readSign 28 = .ok (.dup, 1) := by decide +kernel
theorem dX0_readSign_29 : decode cX0_readSign 29 = .ok (.getfield 19, 3) := by decide +kernel
theorem dX0_readSign_32 : decode cX0_readSign 32 = .ok (.iconst 1, 1) := by decide +kernel
theorem dX0_readSign_33 : decode cX0_readSign 33 = .ok (.isub, 1) := by decide +kernel
theorem dX0_readSign_34 : decode cX0_readSign 34 = .ok (.putfield 19, 3) := by decide +kernel
theorem dX0_readSign_37 : decode cX0_readSign 37 = .ok (.aload_n 0, 1) := by decide +kernel
theorem dX0_readSign_38 : decode cX0_readSign 38 = .ok (.dup, 1) := by decide +kernel
theorem dX0_readSign_39 : decode cX0_readSign 39 = .ok (.getfield 15, 3) := by decide +kernel
theorem dX0_readSign_42 : decode cX0_readSign 42 = .ok (.iconst 1, 1) := by decide +kernel
theorem dX0_readSign_43 : decode cX0_readSign 43 = .ok (.isub, 1) := by decide +kernel
theorem dX0_readSign_44 : decode cX0_readSign 44 = .ok (.putfield 15, 3) := by decide +kernel
theorem dX0_readSign_47 : decode cX0_readSign 47 = .ok (.iconst 1, 1) := by decide +kernel
theorem dX0_readSign_48 : decode cX0_readSign 48 = .ok (.ireturn, 1) := by decide +kernel
theorem dX0_readSign_49 : decode cX0_readSign 49 = .ok (.iload_n 2, 1) := by decide +kernel
theorem dX0_readSign_50 : decode cX0_readSign 50 = .ok (.invokestatic 71, 3) := by decide +kernel
theorem dX0_readSign_53 : decode cX0_readSign 53 = .ok (.istore_n 3, 1) := by decide +kernel
theorem dX0_readSign_54 : decode cX0_readSign 54 = .ok (.iload_n 3, 1) := by decide +kernel
theorem dX0_readSign_55 : decode cX0_readSign 55 = .ok (.ifCond .eq 8, 3) := by decide +kernel
theorem dX0_readSign_58 : decode cX0_readSign 58 = .ok (.iload_n 3, 1) := by decide +kernel
theorem dX0_readSign_59 : decode cX0_readSign 59 = .ok (.iconst 3, 1) := by decide +kernel
theorem dX0_readSign_60 : decode cX0_readSign 60 = .ok (.if_icmp .ne 12, 3) := by decide +kernel
theorem dX0_readSign_63 : decode cX0_readSign 63 = .ok (.aload_n 0, 1) := by decide +kernel
theorem dX0_readSign_64 : decode cX0_readSign 64 = .ok (.getfield 29, 3) := by decide +kernel
theorem dX0_readSign_67 : decode cX0_readSign 67 = .ok (.iconst 1, 1) := by decide +kernel
theorem dX0_readSign_68 : decode cX0_readSign 68 = .ok (.invokevirtual 52, 3) := by decide +kernel
theorem dX0_readSign_71 : decode cX0_readSign 71 = .ok (.ireturn, 1) := by decide +kernel
theorem dX0_readSign_72 : decode cX0_readSign 72 = .ok (.iload_n 3, 1) := by decide +kernel
theorem dX0_readSign_73 : decode cX0_readSign 73 = .ok (.iconst 4, 1) := by decide +kernel
theorem dX0_readSign_74 : decode cX0_readSign 74 = .ok (.if_icmp .ne 45, 3) := by decide +kernel
theorem dX0_readSign_77 : decode cX0_readSign 77 = .ok (.aload_n 0, 1) := by decide +kernel
theorem dX0_readSign_78 : decode cX0_readSign 78 = .ok (.aload_n 1, 1) := by decide +kernel
theorem dX0_readSign_79 : decode cX0_readSign 79 = .ok (.iload_n 3, 1) := by decide +kernel
theorem dX0_readSign_80 : decode cX0_readSign 80 = .ok (.iconst 1, 1) := by decide +kernel
theorem dX0_readSign_81 : decode cX0_readSign 81 = .ok (.iadd, 1) := by decide +kernel
theorem dX0_readSign_82 : decode cX0_readSign 82 = .ok (.invokevirtual 38, 3) := by decide +kernel
theorem dX0_readSign_85 : decode cX0_readSign 85 = .ok (.aload_n 0, 1) := by decide +kernel
theorem dX0_readSign_86 : decode cX0_readSign 86 = .ok (.getfield 15, 3) := by decide +kernel
theorem dX0_readSign_89 : decode cX0_readSign 89 = .ok (.ifCond .le 30, 3) := by decide +kernel
theorem dX0_readSign_92 : decode cX0_readSign 92 = .ok (.aload_n 0, 1) := by decide +kernel
theorem dX0_readSign_93 : decode cX0_readSign 93 = .ok (.getfield 9, 3) := by decide +kernel
theorem dX0_readSign_96 : decode cX0_readSign 96 = .ok (.aload_n 0, 1) := by decide +kernel
theorem dX0_readSign_97 : decode cX0_readSign 97 = .ok (.getfield 15, 3) := by decide +kernel
theorem dX0_readSign_100 : decode cX0_readSign 100 = .ok (.iconst 1, 1) := by decide +kernel
theorem dX0_readSign_101 : decode cX0_readSign 101 = .ok (.isub, 1) := by decide +kernel
theorem dX0_readSign_102 : decode cX0_readSign 102 = .ok (.iaload, 1) := by decide +kernel
theorem dX0_readSign_103 : decode cX0_readSign 103 = .ok (.invokestatic 71, 3) := by decide +kernel
theorem dX0_readSign_106 : decode cX0_readSign 106 = .ok (.iload_n 3, 1) := by decide +kernel
theorem dX0_readSign_107 : decode cX0_readSign 107 = .ok (.if_icmp .ne 12, 3) := by decide +kernel
theorem dX0_readSign_110 : decode cX0_readSign 110 = .ok (.aload_n 0, 1) := by decide +kernel
theorem dX0_readSign_111 : decode cX0_readSign 111 = .ok (.getfield 29, 3) := by decide +kernel
theorem dX0_readSign_114 : decode cX0_readSign 114 = .ok (.iconst 1, 1) := by decide +kernel
theorem dX0_readSign_115 : decode cX0_readSign 115 = .ok (.invokevirtual 52, 3) := by decide +kernel
theorem dX0_readSign_118 : decode cX0_readSign 118 = .ok (.ireturn, 1) := by decide +kernel
theorem dX0_readSign_119 : decode cX0_readSign 119 = .ok (.aload_n 0, 1) := by decide +kernel
theorem dX0_readSign_120 : decode cX0_readSign 120 = .ok (.aload_n 1, 1) := by decide +kernel
theorem dX0_readSign_121 : decode cX0_readSign 121 = .ok (.invokevirtual 59, 3) := by decide +kernel
theorem dX0_readSign_124 : decode cX0_readSign 124 = .ok (.ifCond .ne 5, 3) := by decide +kernel
theorem dX0_readSign_127 : decode cX0_readSign 127 = .ok (.iconst 0, 1) := by decide +kernel
theorem dX0_readSign_128 : decode cX0_readSign 128 = .ok (.ireturn, 1) := by decide +kernel
theorem dX0_readSign_129 : decode cX0_readSign 129 = .ok (.aload_n 0, 1) := by decide +kernel
theorem dX0_readSign_130 : decode cX0_readSign 130 = .ok (.aload_n 1, 1) := by decide +kernel
theorem dX0_readSign_131 : decode cX0_readSign 131 = .ok (.iload_n 3, 1) := by decide +kernel
theorem dX0_readSign_132 : decode cX0_readSign 132 = .ok (.invokevirtual 38, 3) := by decide +kernel
theorem dX0_readSign_135 : decode cX0_readSign 135 = .ok (.aload_n 0, 1) := by decide +kernel
theorem dX0_readSign_136 : decode cX0_readSign 136 = .ok (.iconst 1, 1) := by decide +kernel
theorem dX0_readSign_137 : decode cX0_readSign 137 = .ok (.putfield 22, 3) := by decide +kernel
theorem dX0_readSign_140 : decode cX0_readSign 140 = .ok (.aload_n 0, 1) := by decide +kernel
theorem dX0_readSign_141 : decode cX0_readSign 141 = .ok (.iload_n 3, 1) := by decide +kernel
theorem dX0_readSign_142 : decode cX0_readSign 142 = .ok (.iconst 3, 1) := by decide +kernel
theorem dX0_readSign_143 : decode cX0_readSign 143 = .ok (.if_icmp .ge 7, 3) := by decide +kernel
theorem dX0_readSign_146 : decode cX0_readSign 146 = .ok (.iconst 1, 1) := by decide +kernel
theorem dX0_readSign_147 : decode cX0_readSign 147 = .ok (.goto 4, 3) := by decide +kernel
theorem dX0_readSign_150 : decode cX0_readSign 150 = .ok (.iconst 0, 1) := by decide +kernel
theorem dX0_readSign_151 : decode cX0_readSign 151 = .ok (.putfield 26, 3) := by decide +kernel
theorem dX0_readSign_154 : decode cX0_readSign 154 = .ok (.aload_n 0, 1) := by decide +kernel
theorem dX0_readSign_155 : decode cX0_readSign 155 = .ok (.iload_n 2, 1) := by decide +kernel
theorem dX0_readSign_156 : decode cX0_readSign 156 = .ok (.invokevirtual 56, 3) := by decide +kernel
theorem dX0_readSign_159 : decode cX0_readSign 159 = .ok (.ireturn, 1) := by decide +kernel
theorem hd_X0_readSign : yX0_readSign.cls = xCn 0 ∧ yX0_readSign.cls ≠ "java/lang/invoke/MethodHandle" ∧ yX0_readSign.cls ≠ "java/lang/invoke/VarHandle" ∧ (parseMethodDescriptor yX0_readSign.desc).map (fun d => d.parameters.length) = some 1 := by decide +kernel
def k_X0_readSign_63 (sh : List xSh) (q0 : Nat) (d : xD) : Option (Int32 × xD) :=
  (xgR 0 sh d q0 0).bind fun v1 => (xon 7 sh v1 (f_X7_refuse sh v1 (1 : Int32) d)).bind fun z2 => (xz z2.1).bind fun v3 => some (v3, z2.2)
def k_X0_readSign_151 (sh : List xSh) (q0 : Nat) (x2 : Int32) (p0 : Nat) (y1 : Int32) (d : xD) : Option (Int32 × xD) :=
  (xpI 0 sh d p0 5 y1).bind fun d4 => (xon 0 sh q0 (f_X0_hold sh q0 x2 d4)).bind fun z5 => (xz z5.1).bind fun v6 => some (v6, z5.2)
def k_X0_readSign_119 (sh : List xSh) (q0 : Nat) (q1 : Nat) (x2 : Int32) (x3 : Int32) (d : xD) : Option (Int32 × xD) :=
  (xon 0 sh q0 (f_X0_countKnot sh q0 q1 d)).bind fun z7 => if z7.1 = 0 then (some ((0 : Int32), z7.2)) else ((xon 0 sh q0 (f_X0_release sh q0 q1 x3 z7.2)).bind fun d8 => (xpI 0 sh d8 q0 4 (1 : Int32)).bind fun d9 => if (3 : Int32) ≤ x3 then (k_X0_readSign_151 sh q0 x2 q0 (0 : Int32) d9) else (k_X0_readSign_151 sh q0 x2 q0 (1 : Int32) d9))
def k_X0_readSign_49 (sh : List xSh) (q0 : Nat) (q1 : Nat) (x2 : Int32) (d : xD) : Option (Int32 × xD) :=
  (f_X0_rankOf sh x2 d).bind fun z10 => if z10.1 = 0 then (k_X0_readSign_63 sh q0 z10.2) else (if z10.1 = (3 : Int32) then (k_X0_readSign_63 sh q0 z10.2) else (if z10.1 = (4 : Int32) then ((xon 0 sh q0 (f_X0_release sh q0 q1 (z10.1 + (1 : Int32)) z10.2)).bind fun d11 => (xgI 0 sh d11 q0 2).bind fun v12 => if v12 ≤ 0 then (k_X0_readSign_119 sh q0 q1 x2 z10.1 d11) else ((xgR 0 sh d11 q0 1).bind fun v13 => (xgI 0 sh d11 q0 2).bind fun v14 => (xaI .int sh d11 v13 (v14 - (1 : Int32))).bind fun v15 => (f_X0_rankOf sh v15 d11).bind fun z16 => if z16.1 = z10.1 then ((xgR 0 sh z16.2 q0 0).bind fun v17 => (xon 7 sh v17 (f_X7_refuse sh v17 (1 : Int32) z16.2)).bind fun z18 => (xz z18.1).bind fun v19 => some (v19, z18.2)) else (k_X0_readSign_119 sh q0 q1 x2 z10.1 z16.2))) else (k_X0_readSign_119 sh q0 q1 x2 z10.1 z10.2)))
def f_X0_readSign (sh : List xSh) (q0 : Nat) (q1 : Nat) (d : xD) : Option (Int32 × xD) :=
  (xgR 0 sh d q0 0).bind fun v20 => (xgI 7 sh d v20 0).bind fun v21 => if v21 = (25 : Int32) then ((xgI 0 sh d q0 3).bind fun v22 => if v22 ≤ 0 then (k_X0_readSign_49 sh q0 q1 v21 d) else ((xon 0 sh q0 (f_X0_release sh q0 q1 (1 : Int32) d)).bind fun d23 => (xgI 0 sh d23 q0 3).bind fun v24 => (xpI 0 sh d23 q0 3 (v24 - (1 : Int32))).bind fun d25 => (xgI 0 sh d25 q0 2).bind fun v26 => (xpI 0 sh d25 q0 2 (v26 - (1 : Int32))).bind fun d27 => some ((1 : Int32), d27))) else (k_X0_readSign_49 sh q0 q1 v21 d)
set_option maxHeartbeats 4000000 in
set_option maxRecDepth 100000 in
theorem mt_X0_readSign (l : Launch) (D : va_G) (cid : FieldType → ClassId) (b : Nat) (ex : Bool) (sa sv B0 : Nat) (sh : List xSh) (q0 : Nat) (q1 : Nat) (d : xD) (r : Int32) (dz : xD) (hf : f_X0_readSign sh q0 q1 d = some (r, dz)) : xMet l yX0_readSign cX0_readSign 4 (some .boolean) 2 0 0 D cid b ex sa sv B0 [.ref (b + q0), .ref (b + q1)] sh d (some (.int r)) sh dz := by
  refine xMet.of (by decide) (Nat.le_of_ble_eq_true rfl) ?_
  intro p e s m below meth c ls A S hr hin G hl
  have hl : lv_has ls 4 [(0, .ref (b + q0)), (1, .ref (b + q1))] := hl
  generalize ([.ref (b + q0), .ref (b + q1)] : List Value).toArray = av at S ⊢
  have hx := S.1
  have hb := S.2.1
  have hml := S.2.2.1
  have hown := S.2.2.2.1
  have hts := S.2.2.2.2.1
  have K63 : ∀ (q0 : Nat) (d : xD), k_X0_readSign_63 sh q0 d = some (r, dz) → ∀ (H : Heap) (locs : List Loc) (ls : Array Slot), lv_has ls 4 [(0, .ref (b + q0))] → xG D cid b A sh d s H locs → W p l e (xRm 2 0 0) s m av below meth c H locs 0 0 (MQ below (xQ D cid b ex A (some (.int r)) sh dz) av s 0 0 A) (F0 m 63 ls []) := by
    intro q0 d hf H locs ls hl G
    unfold k_X0_readSign_63 at hf
    refine lv_aload_n hx hb dX0_readSign_63 rfl (lv_at hl 0 rfl) ?_
    obtain ⟨v1, hv1, hf⟩ := x_ob hf
    refine xr_getR (ci := 0) (k := 0) S G hv1 rfl kw_275 dX0_readSign_64 ?_
    refine lv_iconst (v := (1 : Int32)) hx hb dX0_readSign_67 (by decide) ?_
    obtain ⟨z2, hz2, hf⟩ := x_ob hf
    obtain ⟨hqz2, hz2⟩ := xon_of hz2
    refine xr_callV (ci := 7) (As := [.int (1 : Int32)]) (rest := []) (st1 := [.int z2.1]) S G hl.1 (fun _ => rfl) (mt_X7_refuse l D cid b ex sa sv B0 sh v1 (1 : Int32) d _ _ hz2) hqz2 (by decide) kw_692 kw_606 kw_607 kw_5 kw_608 hd_X7_refuse ⟨Nat.le_of_ble_eq_true rfl, Nat.le_of_ble_eq_true rfl⟩ rfl rfl rfl (Nat.le_of_ble_eq_true rfl) ⟨Nat.le_of_ble_eq_true rfl, Nat.le_of_ble_eq_true rfl⟩ dX0_readSign_68 (fun H locs G => ?_)
    obtain ⟨v3, hv3, hf⟩ := x_ob hf
    cases hf
    exact xr_zret S G (fun _ => rfl) hr hv3 dX0_readSign_71
  have K151 : ∀ (q0 : Nat) (x2 : Int32) (p0 : Nat) (y1 : Int32) (d : xD), k_X0_readSign_151 sh q0 x2 p0 y1 d = some (r, dz) → ∀ (H : Heap) (locs : List Loc) (ls : Array Slot), lv_has ls 4 [(0, .ref (b + q0)), (2, .int x2)] → xG D cid b A sh d s H locs → W p l e (xRm 2 0 0) s m av below meth c H locs 0 0 (MQ below (xQ D cid b ex A (some (.int r)) sh dz) av s 0 0 A) (F0 m 151 ls [.int y1, .ref (b + p0)]) := by
    intro q0 x2 p0 y1 d hf H locs ls hl G
    unfold k_X0_readSign_151 at hf
    obtain ⟨d4, hd4, hf⟩ := x_ob hf
    refine xr_putI (ci := 0) (k := 5) S G hd4 rfl kw_280 dX0_readSign_151 (fun H locs G => ?_)
    refine lv_aload_n hx hb dX0_readSign_154 rfl (lv_at hl 0 rfl) ?_
    refine lv_iload_n hx hb dX0_readSign_155 rfl (lv_at hl 1 rfl) ?_
    obtain ⟨z5, hz5, hf⟩ := x_ob hf
    obtain ⟨hqz5, hz5⟩ := xon_of hz5
    refine xr_callV (ci := 0) (As := [.int x2]) (rest := []) (st1 := [.int z5.1]) S G hl.1 (fun _ => rfl) (mt_X0_hold l D cid b ex sa sv B0 sh q0 x2 d4 _ _ hz5) hqz5 (by decide) kw_693 kw_695 ks_19 kw_11 kw_696 hd_X0_hold ⟨Nat.le_of_ble_eq_true rfl, Nat.le_of_ble_eq_true rfl⟩ rfl rfl rfl (Nat.le_of_ble_eq_true rfl) ⟨Nat.le_of_ble_eq_true rfl, Nat.le_of_ble_eq_true rfl⟩ dX0_readSign_156 (fun H locs G => ?_)
    obtain ⟨v6, hv6, hf⟩ := x_ob hf
    cases hf
    exact xr_zret S G (fun _ => rfl) hr hv6 dX0_readSign_159
  have K119 : ∀ (q0 : Nat) (q1 : Nat) (x2 : Int32) (x3 : Int32) (d : xD), k_X0_readSign_119 sh q0 q1 x2 x3 d = some (r, dz) → ∀ (H : Heap) (locs : List Loc) (ls : Array Slot), lv_has ls 4 [(0, .ref (b + q0)), (1, .ref (b + q1)), (2, .int x2), (3, .int x3)] → xG D cid b A sh d s H locs → W p l e (xRm 2 0 0) s m av below meth c H locs 0 0 (MQ below (xQ D cid b ex A (some (.int r)) sh dz) av s 0 0 A) (F0 m 119 ls []) := by
    intro q0 q1 x2 x3 d hf H locs ls hl G
    unfold k_X0_readSign_119 at hf
    refine lv_aload_n hx hb dX0_readSign_119 rfl (lv_at hl 0 rfl) ?_
    refine lv_aload_n hx hb dX0_readSign_120 rfl (lv_at hl 1 rfl) ?_
    obtain ⟨z7, hz7, hf⟩ := x_ob hf
    obtain ⟨hqz7, hz7⟩ := xon_of hz7
    refine xr_callV (ci := 0) (As := [.ref (b + q1)]) (rest := []) (st1 := [.int z7.1]) S G hl.1 (fun _ => rfl) (mt_X0_countKnot l D cid b ex sa sv B0 sh q0 q1 d _ _ hz7) hqz7 (by decide) kw_697 kw_699 ks_20 kw_11 kw_700 hd_X0_countKnot ⟨Nat.le_of_ble_eq_true rfl, Nat.le_of_ble_eq_true rfl⟩ rfl rfl rfl (Nat.le_of_ble_eq_true rfl) ⟨Nat.le_of_ble_eq_true rfl, Nat.le_of_ble_eq_true rfl⟩ dX0_readSign_121 (fun H locs G => ?_)
    refine lv_if_ne (tgt := 129) hx hb dX0_readSign_124 (by decide) (fun c => ?_) (fun c => ?_)
    · have hf := x_neg c hf
      refine lv_aload_n hx hb dX0_readSign_129 rfl (lv_at hl 0 rfl) ?_
      refine lv_aload_n hx hb dX0_readSign_130 rfl (lv_at hl 1 rfl) ?_
      refine lv_iload_n hx hb dX0_readSign_131 rfl (lv_at hl 3 rfl) ?_
      obtain ⟨d8, hd8, hf⟩ := x_ob hf
      obtain ⟨hqd8, hd8⟩ := xon_of hd8
      refine xr_callV (ci := 0) (As := [.ref (b + q1), .int x3]) (rest := []) (st1 := []) S G hl.1 (fun _ => rfl) (mt_X0_release l D cid b ex sa sv B0 sh q0 q1 x3 z7.2 _ hd8) hqd8 (by decide) kw_677 kw_679 ks_17 kw_11 kw_680 hd_X0_release ⟨Nat.le_of_ble_eq_true rfl, Nat.le_of_ble_eq_true rfl⟩ rfl rfl rfl (Nat.le_of_ble_eq_true rfl) ⟨Nat.le_of_ble_eq_true rfl, Nat.le_of_ble_eq_true rfl⟩ dX0_readSign_132 (fun H locs G => ?_)
      refine lv_aload_n hx hb dX0_readSign_135 rfl (lv_at hl 0 rfl) ?_
      refine lv_iconst (v := (1 : Int32)) hx hb dX0_readSign_136 (by decide) ?_
      obtain ⟨d9, hd9, hf⟩ := x_ob hf
      refine xr_putI (ci := 0) (k := 4) S G hd9 rfl kw_279 dX0_readSign_137 (fun H locs G => ?_)
      refine lv_aload_n hx hb dX0_readSign_140 rfl (lv_at hl 0 rfl) ?_
      refine lv_iload_n hx hb dX0_readSign_141 rfl (lv_at hl 3 rfl) ?_
      refine lv_iconst (v := (3 : Int32)) hx hb dX0_readSign_142 (by decide) ?_
      refine lv_icmp_ge (tgt := 150) hx hb dX0_readSign_143 (by decide) (fun c => ?_) (fun c => ?_)
      · have hf := x_pos c hf
        refine lv_iconst (v := (0 : Int32)) hx hb dX0_readSign_150 (by decide) ?_
        exact K151 q0 x2 q0 (0 : Int32) d9 hf _ _ ls (lv_sub hl [0, 2] rfl) G
      · have hf := x_neg c hf
        refine lv_iconst (v := (1 : Int32)) hx hb dX0_readSign_146 (by decide) ?_
        refine lv_goto (tgt := 151) hx hb dX0_readSign_147 (by decide) ?_
        exact K151 q0 x2 q0 (1 : Int32) d9 hf _ _ ls (lv_sub hl [0, 2] rfl) G
    · have hf := x_pos c hf
      refine lv_iconst (v := (0 : Int32)) hx hb dX0_readSign_127 (by decide) ?_
      cases hf
      exact xr_zret S G (fun _ => rfl) hr (by decide) dX0_readSign_128
  have K49 : ∀ (q0 : Nat) (q1 : Nat) (x2 : Int32) (d : xD), k_X0_readSign_49 sh q0 q1 x2 d = some (r, dz) → ∀ (H : Heap) (locs : List Loc) (ls : Array Slot), lv_has ls 4 [(0, .ref (b + q0)), (1, .ref (b + q1)), (2, .int x2)] → xG D cid b A sh d s H locs → W p l e (xRm 2 0 0) s m av below meth c H locs 0 0 (MQ below (xQ D cid b ex A (some (.int r)) sh dz) av s 0 0 A) (F0 m 49 ls []) := by
    intro q0 q1 x2 d hf H locs ls hl G
    unfold k_X0_readSign_49 at hf
    refine lv_iload_n hx hb dX0_readSign_49 rfl (lv_at hl 2 rfl) ?_
    obtain ⟨z10, hz10, hf⟩ := x_ob hf
    refine xr_callS (As := [.int x2]) (rest := []) (st1 := [.int z10.1]) S G hl.1 (fun _ => rfl) (mt_X0_rankOf l D cid b ex sa sv B0 sh x2 d _ _ hz10) kw_681 kw_682 kw_11 kw_683 hd_X0_rankOf ⟨Nat.le_of_ble_eq_true rfl, Nat.le_of_ble_eq_true rfl⟩ rfl rfl rfl (Nat.le_of_ble_eq_true rfl) ⟨Nat.le_of_ble_eq_true rfl, Nat.le_of_ble_eq_true rfl⟩ dX0_readSign_50 (fun H locs G => ?_)
    refine lv_istore_n (lv' := [(3, .int z10.1), (0, .ref (b + q0)), (1, .ref (b + q1)), (2, .int x2)]) hx hb dX0_readSign_53 rfl hl (by decide) rfl (fun ls hl => ?_)
    refine lv_iload_n hx hb dX0_readSign_54 rfl (lv_at hl 0 rfl) ?_
    refine lv_if_eq (tgt := 63) hx hb dX0_readSign_55 (by decide) (fun c => ?_) (fun c => ?_)
    · have hf := x_pos c hf
      exact K63 q0 z10.2 hf _ _ ls (lv_sub hl [1] rfl) G
    · have hf := x_neg c hf
      refine lv_iload_n hx hb dX0_readSign_58 rfl (lv_at hl 0 rfl) ?_
      refine lv_iconst (v := (3 : Int32)) hx hb dX0_readSign_59 (by decide) ?_
      refine lv_icmp_ne (tgt := 72) hx hb dX0_readSign_60 (by decide) (fun c => ?_) (fun c => ?_)
      · have hf := x_neg c hf
        refine lv_iload_n hx hb dX0_readSign_72 rfl (lv_at hl 0 rfl) ?_
        refine lv_iconst (v := (4 : Int32)) hx hb dX0_readSign_73 (by decide) ?_
        refine lv_icmp_ne (tgt := 119) hx hb dX0_readSign_74 (by decide) (fun c => ?_) (fun c => ?_)
        · have hf := x_neg c hf
          exact K119 q0 q1 x2 z10.1 z10.2 hf _ _ ls (lv_sub hl [1, 2, 3, 0] rfl) G
        · have hf := x_pos c hf
          refine lv_aload_n hx hb dX0_readSign_77 rfl (lv_at hl 1 rfl) ?_
          refine lv_aload_n hx hb dX0_readSign_78 rfl (lv_at hl 2 rfl) ?_
          refine lv_iload_n hx hb dX0_readSign_79 rfl (lv_at hl 0 rfl) ?_
          refine lv_iconst (v := (1 : Int32)) hx hb dX0_readSign_80 (by decide) ?_
          refine lv_iadd hx hb dX0_readSign_81 ?_
          obtain ⟨d11, hd11, hf⟩ := x_ob hf
          obtain ⟨hqd11, hd11⟩ := xon_of hd11
          refine xr_callV (ci := 0) (As := [.ref (b + q1), .int (z10.1 + (1 : Int32))]) (rest := []) (st1 := []) S G hl.1 (fun _ => rfl) (mt_X0_release l D cid b ex sa sv B0 sh q0 q1 (z10.1 + (1 : Int32)) z10.2 _ hd11) hqd11 (by decide) kw_677 kw_679 ks_17 kw_11 kw_680 hd_X0_release ⟨Nat.le_of_ble_eq_true rfl, Nat.le_of_ble_eq_true rfl⟩ rfl rfl rfl (Nat.le_of_ble_eq_true rfl) ⟨Nat.le_of_ble_eq_true rfl, Nat.le_of_ble_eq_true rfl⟩ dX0_readSign_82 (fun H locs G => ?_)
          refine lv_aload_n hx hb dX0_readSign_85 rfl (lv_at hl 1 rfl) ?_
          obtain ⟨v12, hv12, hf⟩ := x_ob hf
          refine xr_getI (ci := 0) (k := 2) S G hv12 rfl kw_277 dX0_readSign_86 ?_
          refine lv_if_le (tgt := 119) hx hb dX0_readSign_89 (by decide) (fun c => ?_) (fun c => ?_)
          · have hf := x_pos c hf
            exact K119 q0 q1 x2 z10.1 d11 hf _ _ ls (lv_sub hl [1, 2, 3, 0] rfl) G
          · have hf := x_neg c hf
            refine lv_aload_n hx hb dX0_readSign_92 rfl (lv_at hl 1 rfl) ?_
            obtain ⟨v13, hv13, hf⟩ := x_ob hf
            refine xr_getR (ci := 0) (k := 1) S G hv13 rfl kw_276 dX0_readSign_93 ?_
            refine lv_aload_n hx hb dX0_readSign_96 rfl (lv_at hl 1 rfl) ?_
            obtain ⟨v14, hv14, hf⟩ := x_ob hf
            refine xr_getI (ci := 0) (k := 2) S G hv14 rfl kw_277 dX0_readSign_97 ?_
            refine lv_iconst (v := (1 : Int32)) hx hb dX0_readSign_100 (by decide) ?_
            refine lv_isub hx hb dX0_readSign_101 ?_
            obtain ⟨v15, hv15, hf⟩ := x_ob hf
            refine xr_iald S G hv15 dX0_readSign_102 ?_
            obtain ⟨z16, hz16, hf⟩ := x_ob hf
            refine xr_callS (As := [.int v15]) (rest := []) (st1 := [.int z16.1]) S G hl.1 (fun _ => rfl) (mt_X0_rankOf l D cid b ex sa sv B0 sh v15 d11 _ _ hz16) kw_681 kw_682 kw_11 kw_683 hd_X0_rankOf ⟨Nat.le_of_ble_eq_true rfl, Nat.le_of_ble_eq_true rfl⟩ rfl rfl rfl (Nat.le_of_ble_eq_true rfl) ⟨Nat.le_of_ble_eq_true rfl, Nat.le_of_ble_eq_true rfl⟩ dX0_readSign_103 (fun H locs G => ?_)
            refine lv_iload_n hx hb dX0_readSign_106 rfl (lv_at hl 0 rfl) ?_
            refine lv_icmp_ne (tgt := 119) hx hb dX0_readSign_107 (by decide) (fun c => ?_) (fun c => ?_)
            · have hf := x_neg c hf
              exact K119 q0 q1 x2 z10.1 z16.2 hf _ _ ls (lv_sub hl [1, 2, 3, 0] rfl) G
            · have hf := x_pos c hf
              refine lv_aload_n hx hb dX0_readSign_110 rfl (lv_at hl 1 rfl) ?_
              obtain ⟨v17, hv17, hf⟩ := x_ob hf
              refine xr_getR (ci := 0) (k := 0) S G hv17 rfl kw_275 dX0_readSign_111 ?_
              refine lv_iconst (v := (1 : Int32)) hx hb dX0_readSign_114 (by decide) ?_
              obtain ⟨z18, hz18, hf⟩ := x_ob hf
              obtain ⟨hqz18, hz18⟩ := xon_of hz18
              refine xr_callV (ci := 7) (As := [.int (1 : Int32)]) (rest := []) (st1 := [.int z18.1]) S G hl.1 (fun _ => rfl) (mt_X7_refuse l D cid b ex sa sv B0 sh v17 (1 : Int32) z16.2 _ _ hz18) hqz18 (by decide) kw_692 kw_606 kw_607 kw_5 kw_608 hd_X7_refuse ⟨Nat.le_of_ble_eq_true rfl, Nat.le_of_ble_eq_true rfl⟩ rfl rfl rfl (Nat.le_of_ble_eq_true rfl) ⟨Nat.le_of_ble_eq_true rfl, Nat.le_of_ble_eq_true rfl⟩ dX0_readSign_115 (fun H locs G => ?_)
              obtain ⟨v19, hv19, hf⟩ := x_ob hf
              cases hf
              exact xr_zret S G (fun _ => rfl) hr hv19 dX0_readSign_118
      · have hf := x_pos c hf
        exact K63 q0 z10.2 hf _ _ ls (lv_sub hl [1] rfl) G
  unfold f_X0_readSign at hf
  refine lv_aload_n hx hb dX0_readSign_0 rfl (lv_at hl 0 rfl) ?_
  obtain ⟨v20, hv20, hf⟩ := x_ob hf
  refine xr_getR (ci := 0) (k := 0) S G hv20 rfl kw_275 dX0_readSign_1 ?_
  obtain ⟨v21, hv21, hf⟩ := x_ob hf
  refine xr_getI (ci := 7) (k := 0) S G hv21 rfl kw_231 dX0_readSign_4 ?_
  refine lv_istore_n (lv' := [(2, .int v21), (0, .ref (b + q0)), (1, .ref (b + q1))]) hx hb dX0_readSign_7 rfl hl (by decide) rfl (fun ls hl => ?_)
  refine lv_iload_n hx hb dX0_readSign_8 rfl (lv_at hl 0 rfl) ?_
  refine lv_bipush (v := (25 : Int32)) hx hb dX0_readSign_9 (by decide) ?_
  refine lv_icmp_ne (tgt := 49) hx hb dX0_readSign_11 (by decide) (fun c => ?_) (fun c => ?_)
  · have hf := x_neg c hf
    exact K49 q0 q1 v21 d hf _ _ ls (lv_sub hl [1, 2, 0] rfl) G
  · have hf := x_pos c hf
    refine lv_aload_n hx hb dX0_readSign_14 rfl (lv_at hl 1 rfl) ?_
    obtain ⟨v22, hv22, hf⟩ := x_ob hf
    refine xr_getI (ci := 0) (k := 3) S G hv22 rfl kw_278 dX0_readSign_15 ?_
    refine lv_if_le (tgt := 49) hx hb dX0_readSign_18 (by decide) (fun c => ?_) (fun c => ?_)
    · have hf := x_pos c hf
      exact K49 q0 q1 v21 d hf _ _ ls (lv_sub hl [1, 2, 0] rfl) G
    · have hf := x_neg c hf
      refine lv_aload_n hx hb dX0_readSign_21 rfl (lv_at hl 1 rfl) ?_
      refine lv_aload_n hx hb dX0_readSign_22 rfl (lv_at hl 2 rfl) ?_
      refine lv_iconst (v := (1 : Int32)) hx hb dX0_readSign_23 (by decide) ?_
      obtain ⟨d23, hd23, hf⟩ := x_ob hf
      obtain ⟨hqd23, hd23⟩ := xon_of hd23
      refine xr_callV (ci := 0) (As := [.ref (b + q1), .int (1 : Int32)]) (rest := []) (st1 := []) S G hl.1 (fun _ => rfl) (mt_X0_release l D cid b ex sa sv B0 sh q0 q1 (1 : Int32) d _ hd23) hqd23 (by decide) kw_677 kw_679 ks_17 kw_11 kw_680 hd_X0_release ⟨Nat.le_of_ble_eq_true rfl, Nat.le_of_ble_eq_true rfl⟩ rfl rfl rfl (Nat.le_of_ble_eq_true rfl) ⟨Nat.le_of_ble_eq_true rfl, Nat.le_of_ble_eq_true rfl⟩ dX0_readSign_24 (fun H locs G => ?_)
      refine lv_aload_n hx hb dX0_readSign_27 rfl (lv_at hl 1 rfl) ?_
      refine lv_dup hx hb dX0_readSign_28 rfl ?_
      obtain ⟨v24, hv24, hf⟩ := x_ob hf
      refine xr_getI (ci := 0) (k := 3) S G hv24 rfl kw_278 dX0_readSign_29 ?_
      refine lv_iconst (v := (1 : Int32)) hx hb dX0_readSign_32 (by decide) ?_
      refine lv_isub hx hb dX0_readSign_33 ?_
      obtain ⟨d25, hd25, hf⟩ := x_ob hf
      refine xr_putI (ci := 0) (k := 3) S G hd25 rfl kw_278 dX0_readSign_34 (fun H locs G => ?_)
      refine lv_aload_n hx hb dX0_readSign_37 rfl (lv_at hl 1 rfl) ?_
      refine lv_dup hx hb dX0_readSign_38 rfl ?_
      obtain ⟨v26, hv26, hf⟩ := x_ob hf
      refine xr_getI (ci := 0) (k := 2) S G hv26 rfl kw_277 dX0_readSign_39 ?_
      refine lv_iconst (v := (1 : Int32)) hx hb dX0_readSign_42 (by decide) ?_
      refine lv_isub hx hb dX0_readSign_43 ?_
      obtain ⟨d27, hd27, hf⟩ := x_ob hf
      refine xr_putI (ci := 0) (k := 2) S G hd27 rfl kw_277 dX0_readSign_44 (fun H locs G => ?_)
      refine lv_iconst (v := (1 : Int32)) hx hb dX0_readSign_47 (by decide) ?_
      cases hf
      exact xr_zret S G (fun _ => rfl) hr (by decide) dX0_readSign_48
-- HalfLandings$Tokens.isLetter(I)Z
theorem dX7_isLetter_0 : decode cX7_isLetter 0 = .ok (.iload_n 0, 1) := by decide +kernel
theorem dX7_isLetter_1 : decode cX7_isLetter 1 = .ok (.bipush 97, 2) := by decide +kernel
theorem dX7_isLetter_3 : decode cX7_isLetter 3 = .ok (.if_icmp .lt 13, 3) := by decide +kernel
theorem dX7_isLetter_6 : decode cX7_isLetter 6 = .ok (.iload_n 0, 1) := by decide +kernel
theorem dX7_isLetter_7 : decode cX7_isLetter 7 = .ok (.bipush 122, 2) := by decide +kernel
theorem dX7_isLetter_9 : decode cX7_isLetter 9 = .ok (.if_icmp .gt 7, 3) := by decide +kernel
theorem dX7_isLetter_12 : decode cX7_isLetter 12 = .ok (.iconst 1, 1) := by decide +kernel
theorem dX7_isLetter_13 : decode cX7_isLetter 13 = .ok (.goto 4, 3) := by decide +kernel
theorem dX7_isLetter_16 : decode cX7_isLetter 16 = .ok (.iconst 0, 1) := by decide +kernel
theorem dX7_isLetter_17 : decode cX7_isLetter 17 = .ok (.ireturn, 1) := by decide +kernel
theorem hd_X7_isLetter : yX7_isLetter.cls ≠ "java/lang/invoke/MethodHandle" ∧ yX7_isLetter.cls ≠ "java/lang/invoke/VarHandle" ∧ (parseMethodDescriptor yX7_isLetter.desc).map (fun d => d.parameters.length) = some 1 := by decide +kernel
def k_X7_isLetter_17 (sh : List xSh) (y0 : Int32) (d : xD) : Option (Int32 × xD) :=
  (xz y0).bind fun v1 => some (v1, d)
def k_X7_isLetter_16 (sh : List xSh) (d : xD) : Option (Int32 × xD) :=
  k_X7_isLetter_17 sh (0 : Int32) d
def f_X7_isLetter (sh : List xSh) (x0 : Int32) (d : xD) : Option (Int32 × xD) :=
  if x0 < (97 : Int32) then (k_X7_isLetter_16 sh d) else (if (122 : Int32) < x0 then (k_X7_isLetter_16 sh d) else (k_X7_isLetter_17 sh (1 : Int32) d))
set_option maxHeartbeats 4000000 in
set_option maxRecDepth 100000 in
theorem mt_X7_isLetter (l : Launch) (D : va_G) (cid : FieldType → ClassId) (b : Nat) (ex : Bool) (sa sv B0 : Nat) (sh : List xSh) (x0 : Int32) (d : xD) (r : Int32) (dz : xD) (hf : f_X7_isLetter sh x0 d = some (r, dz)) : xMet l yX7_isLetter cX7_isLetter 1 (some .boolean) 0 0 0 D cid b ex sa sv B0 [.int x0] sh d (some (.int r)) sh dz := by
  refine xMet.of (by decide) (Nat.le_of_ble_eq_true rfl) ?_
  intro p e s m below meth c ls A S hr hin G hl
  have hl : lv_has ls 1 [(0, .int x0)] := hl
  generalize ([.int x0] : List Value).toArray = av at S ⊢
  have hx := S.1
  have hb := S.2.1
  have hml := S.2.2.1
  have hown := S.2.2.2.1
  have hts := S.2.2.2.2.1
  have K17 : ∀ (y0 : Int32) (d : xD), k_X7_isLetter_17 sh y0 d = some (r, dz) → ∀ (H : Heap) (locs : List Loc) (ls : Array Slot), lv_has ls 1 [] → xG D cid b A sh d s H locs → W p l e (xRm 0 0 0) s m av below meth c H locs 0 0 (MQ below (xQ D cid b ex A (some (.int r)) sh dz) av s 0 0 A) (F0 m 17 ls [.int y0]) := by
    intro y0 d hf H locs ls hl G
    unfold k_X7_isLetter_17 at hf
    obtain ⟨v1, hv1, hf⟩ := x_ob hf
    cases hf
    exact xr_zret S G (fun _ => rfl) hr hv1 dX7_isLetter_17
  have K16 : ∀ (d : xD), k_X7_isLetter_16 sh d = some (r, dz) → ∀ (H : Heap) (locs : List Loc) (ls : Array Slot), lv_has ls 1 [] → xG D cid b A sh d s H locs → W p l e (xRm 0 0 0) s m av below meth c H locs 0 0 (MQ below (xQ D cid b ex A (some (.int r)) sh dz) av s 0 0 A) (F0 m 16 ls []) := by
    intro d hf H locs ls hl G
    unfold k_X7_isLetter_16 at hf
    refine lv_iconst (v := (0 : Int32)) hx hb dX7_isLetter_16 (by decide) ?_
    exact K17 (0 : Int32) d hf _ _ ls (lv_sub hl [] rfl) G
  unfold f_X7_isLetter at hf
  refine lv_iload_n hx hb dX7_isLetter_0 rfl (lv_at hl 0 rfl) ?_
  refine lv_bipush (v := (97 : Int32)) hx hb dX7_isLetter_1 (by decide) ?_
  refine lv_icmp_lt (tgt := 16) hx hb dX7_isLetter_3 (by decide) (fun c => ?_) (fun c => ?_)
  · have hf := x_pos c hf
    exact K16 d hf _ _ ls (lv_sub hl [] rfl) G
  · have hf := x_neg c hf
    refine lv_iload_n hx hb dX7_isLetter_6 rfl (lv_at hl 0 rfl) ?_
    refine lv_bipush (v := (122 : Int32)) hx hb dX7_isLetter_7 (by decide) ?_
    refine lv_icmp_gt (tgt := 16) hx hb dX7_isLetter_9 (by decide) (fun c => ?_) (fun c => ?_)
    · have hf := x_pos c hf
      exact K16 d hf _ _ ls (lv_sub hl [] rfl) G
    · have hf := x_neg c hf
      refine lv_iconst (v := (1 : Int32)) hx hb dX7_isLetter_12 (by decide) ?_
      refine lv_goto (tgt := 17) hx hb dX7_isLetter_13 (by decide) ?_
      exact K17 (1 : Int32) d hf _ _ ls (lv_sub hl [] rfl) G
-- HalfLandings$Tokens.bitsOfLetter(II)I
theorem dX7_bitsOfLetter_0 : decode cX7_bitsOfLetter 0 = .ok (.iload_n 1, 1) := by decide +kernel
theorem dX7_bitsOfLetter_1 : decode cX7_bitsOfLetter 1 = .ok (.bipush 6, 2) := by decide +kernel
theorem dX7_bitsOfLetter_3 : decode cX7_bitsOfLetter 3 = .ok (.if_icmp .ge 19, 3) := by decide +kernel
theorem dX7_bitsOfLetter_6 : decode cX7_bitsOfLetter 6 = .ok (.iload_n 0, 1) := by decide +kernel
theorem dX7_bitsOfLetter_7 : decode cX7_bitsOfLetter 7 = .ok (.bipush 97, 2) := by decide +kernel
theorem dX7_bitsOfLetter_9 : decode cX7_bitsOfLetter 9 = .ok (.isub, 1) := by decide +kernel
theorem dX7_bitsOfLetter_10 : decode cX7_bitsOfLetter 10 = .ok (.iconst 1, 1) := by decide +kernel
theorem dX7_bitsOfLetter_11 : decode cX7_bitsOfLetter 11 = .ok (.iadd, 1) := by decide +kernel
theorem dX7_bitsOfLetter_12 : decode cX7_bitsOfLetter 12 = .ok (.bipush 25, 2) := by decide +kernel
theorem dX7_bitsOfLetter_14 : decode cX7_bitsOfLetter 14 = .ok (.iconst 5, 1) := by decide +kernel
theorem dX7_bitsOfLetter_15 : decode cX7_bitsOfLetter 15 = .ok (.iload_n 1, 1) := by decide +kernel
theorem dX7_bitsOfLetter_16 : decode cX7_bitsOfLetter 16 = .ok (.imul, 1) := by decide +kernel
theorem dX7_bitsOfLetter_17 : decode cX7_bitsOfLetter 17 = .ok (.isub, 1) := by decide +kernel
theorem dX7_bitsOfLetter_18 : decode cX7_bitsOfLetter 18 = .ok (.ishl, 1) := by decide +kernel
theorem dX7_bitsOfLetter_19 : decode cX7_bitsOfLetter 19 = .ok (.goto 4, 3) := by decide +kernel
theorem dX7_bitsOfLetter_22 : decode cX7_bitsOfLetter 22 = .ok (.iconst 0, 1) := by decide +kernel
theorem dX7_bitsOfLetter_23 : decode cX7_bitsOfLetter 23 = .ok (.ireturn, 1) := by decide +kernel
theorem hd_X7_bitsOfLetter : yX7_bitsOfLetter.cls ≠ "java/lang/invoke/MethodHandle" ∧ yX7_bitsOfLetter.cls ≠ "java/lang/invoke/VarHandle" ∧ (parseMethodDescriptor yX7_bitsOfLetter.desc).map (fun d => d.parameters.length) = some 2 := by decide +kernel
def k_X7_bitsOfLetter_23 (sh : List xSh) (y0 : Int32) (d : xD) : Option (Int32 × xD) :=
  some (y0, d)
def f_X7_bitsOfLetter (sh : List xSh) (x0 : Int32) (x1 : Int32) (d : xD) : Option (Int32 × xD) :=
  if (6 : Int32) ≤ x1 then (k_X7_bitsOfLetter_23 sh (0 : Int32) d) else (k_X7_bitsOfLetter_23 sh (((x0 - (97 : Int32)) + (1 : Int32)) <<< (((25 : Int32) - ((5 : Int32) * x1)) &&& 31)) d)
set_option maxHeartbeats 4000000 in
set_option maxRecDepth 100000 in
theorem mt_X7_bitsOfLetter (l : Launch) (D : va_G) (cid : FieldType → ClassId) (b : Nat) (ex : Bool) (sa sv B0 : Nat) (sh : List xSh) (x0 : Int32) (x1 : Int32) (d : xD) (r : Int32) (dz : xD) (hf : f_X7_bitsOfLetter sh x0 x1 d = some (r, dz)) : xMet l yX7_bitsOfLetter cX7_bitsOfLetter 2 (some .int) 0 0 0 D cid b ex sa sv B0 [.int x0, .int x1] sh d (some (.int r)) sh dz := by
  refine xMet.of (by decide) (Nat.le_of_ble_eq_true rfl) ?_
  intro p e s m below meth c ls A S hr hin G hl
  have hl : lv_has ls 2 [(0, .int x0), (1, .int x1)] := hl
  generalize ([.int x0, .int x1] : List Value).toArray = av at S ⊢
  have hx := S.1
  have hb := S.2.1
  have hml := S.2.2.1
  have hown := S.2.2.2.1
  have hts := S.2.2.2.2.1
  have K23 : ∀ (y0 : Int32) (d : xD), k_X7_bitsOfLetter_23 sh y0 d = some (r, dz) → ∀ (H : Heap) (locs : List Loc) (ls : Array Slot), lv_has ls 2 [] → xG D cid b A sh d s H locs → W p l e (xRm 0 0 0) s m av below meth c H locs 0 0 (MQ below (xQ D cid b ex A (some (.int r)) sh dz) av s 0 0 A) (F0 m 23 ls [.int y0]) := by
    intro y0 d hf H locs ls hl G
    unfold k_X7_bitsOfLetter_23 at hf
    cases hf
    exact xr_iret S G (fun _ => rfl) hr dX7_bitsOfLetter_23
  unfold f_X7_bitsOfLetter at hf
  refine lv_iload_n hx hb dX7_bitsOfLetter_0 rfl (lv_at hl 1 rfl) ?_
  refine lv_bipush (v := (6 : Int32)) hx hb dX7_bitsOfLetter_1 (by decide) ?_
  refine lv_icmp_ge (tgt := 22) hx hb dX7_bitsOfLetter_3 (by decide) (fun c => ?_) (fun c => ?_)
  · have hf := x_pos c hf
    refine lv_iconst (v := (0 : Int32)) hx hb dX7_bitsOfLetter_22 (by decide) ?_
    exact K23 (0 : Int32) d hf _ _ ls (lv_sub hl [] rfl) G
  · have hf := x_neg c hf
    refine lv_iload_n hx hb dX7_bitsOfLetter_6 rfl (lv_at hl 0 rfl) ?_
    refine lv_bipush (v := (97 : Int32)) hx hb dX7_bitsOfLetter_7 (by decide) ?_
    refine lv_isub hx hb dX7_bitsOfLetter_9 ?_
    refine lv_iconst (v := (1 : Int32)) hx hb dX7_bitsOfLetter_10 (by decide) ?_
    refine lv_iadd hx hb dX7_bitsOfLetter_11 ?_
    refine lv_bipush (v := (25 : Int32)) hx hb dX7_bitsOfLetter_12 (by decide) ?_
    refine lv_iconst (v := (5 : Int32)) hx hb dX7_bitsOfLetter_14 (by decide) ?_
    refine lv_iload_n hx hb dX7_bitsOfLetter_15 rfl (lv_at hl 1 rfl) ?_
    refine lv_imul hx hb dX7_bitsOfLetter_16 ?_
    refine lv_isub hx hb dX7_bitsOfLetter_17 ?_
    refine lv_ishl hx hb dX7_bitsOfLetter_18 ?_
    refine lv_goto (tgt := 23) hx hb dX7_bitsOfLetter_19 (by decide) ?_
    exact K23 (((x0 - (97 : Int32)) + (1 : Int32)) <<< (((25 : Int32) - ((5 : Int32) * x1)) &&& 31)) d hf _ _ ls (lv_sub hl [] rfl) G
-- HalfLandings$Tokens.kindOfWord()I
theorem dX7_kindOfWord_0 : decode cX7_kindOfWord 0 = .ok (.iconst 0, 1) := by decide +kernel
theorem dX7_kindOfWord_1 : decode cX7_kindOfWord 1 = .ok (.istore_n 1, 1) := by decide +kernel
theorem dX7_kindOfWord_2 : decode cX7_kindOfWord 2 = .ok (.iload_n 1, 1) := by decide +kernel
theorem dX7_kindOfWord_3 : decode cX7_kindOfWord 3 = .ok (.bipush 21, 2) := by decide +kernel
theorem dX7_kindOfWord_5 : decode cX7_kindOfWord 5 = .ok (.if_icmp .ge 24, 3) := by decide +kernel
theorem dX7_kindOfWord_8 : decode cX7_kindOfWord 8 = .ok (.aload_n 0, 1) := by decide +kernel
theorem dX7_kindOfWord_9 : decode cX7_kindOfWord 9 = .ok (.getfield 27, 3) := by decide +kernel
theorem dX7_kindOfWord_12 : decode cX7_kindOfWord 12 = .ok (.iload_n 1, 1) := by decide +kernel
theorem dX7_kindOfWord_13 : decode cX7_kindOfWord 13 = .ok (.iaload, 1) := by decide +kernel
theorem dX7_kindOfWord_14 : decode cX7_kindOfWord 14 = .ok (.aload_n 0, 1) := by decide +kernel
theorem dX7_kindOfWord_15 : decode cX7_kindOfWord 15 = .ok (.getfield 18, 3) := by decide +kernel
theorem dX7_kindOfWord_18 : decode cX7_kindOfWord 18 = .ok (.if_icmp .ne 5, 3) := by decide +kernel
theorem dX7_kindOfWord_21 : decode cX7_kindOfWord 21 = .ok (.iload_n 1, 1) := by decide +kernel
theorem dX7_kindOfWord_22 : decode cX7_kindOfWord 22 = .ok (.ireturn, 1) := by decide +kernel
theorem dX7_kindOfWord_23 : decode cX7_kindOfWord 23 = .ok (.iinc 1 1, 3) := by decide +kernel
theorem dX7_kindOfWord_26 : decode cX7_kindOfWord 26 = .ok (.goto (-24), 3) := by decide +kernel
theorem dX7_kindOfWord_29 : decode cX7_kindOfWord 29 = .ok (.bipush 21, 2) := by decide +kernel
theorem dX7_kindOfWord_31 : decode cX7_kindOfWord 31 = .ok (.ireturn, 1) := by decide +kernel
theorem hd_X7_kindOfWord : yX7_kindOfWord.cls = xCn 7 ∧ yX7_kindOfWord.cls ≠ "java/lang/invoke/MethodHandle" ∧ yX7_kindOfWord.cls ≠ "java/lang/invoke/VarHandle" ∧ (parseMethodDescriptor yX7_kindOfWord.desc).map (fun d => d.parameters.length) = some 0 := by decide +kernel
def k_X7_kindOfWord_29 (sh : List xSh) (d : xD) : Option (Int32 × xD) :=
  some ((21 : Int32), d)
def k_X7_kindOfWord_21 (sh : List xSh) (x1 : Int32) (d : xD) : Option (Int32 × xD) :=
  some (x1, d)
def b_X7_kindOfWord_2 (sh : List xSh) (rec2 : Nat → Int32 → xD → Option (Int32 × xD)) (q0 : Nat) (x1 : Int32) (d : xD) : Option (Int32 × xD) :=
  if (21 : Int32) ≤ x1 then (k_X7_kindOfWord_29 sh d) else ((xgR 7 sh d q0 6).bind fun v1 => (xaI .int sh d v1 x1).bind fun v2 => (xgI 7 sh d q0 2).bind fun v3 => if v2 = v3 then (k_X7_kindOfWord_21 sh x1 d) else (rec2 q0 (x1 + 1) d))
def f_X7_kindOfWord (sh : List xSh) (q0 : Nat) (d : xD) : Option (Int32 × xD) :=
  xloop (fun _ _ _ => none) (b_X7_kindOfWord_2 sh) xF q0 (0 : Int32) d
set_option maxHeartbeats 4000000 in
set_option maxRecDepth 100000 in
theorem mt_X7_kindOfWord (l : Launch) (D : va_G) (cid : FieldType → ClassId) (b : Nat) (ex : Bool) (sa sv B0 : Nat) (sh : List xSh) (q0 : Nat) (d : xD) (r : Int32) (dz : xD) (hf : f_X7_kindOfWord sh q0 d = some (r, dz)) : xMet l yX7_kindOfWord cX7_kindOfWord 2 (some .int) 0 0 0 D cid b ex sa sv B0 [.ref (b + q0)] sh d (some (.int r)) sh dz := by
  refine xMet.of (by decide) (Nat.le_of_ble_eq_true rfl) ?_
  intro p e s m below meth c ls A S hr hin G hl
  have hl : lv_has ls 2 [(0, .ref (b + q0))] := hl
  generalize ([.ref (b + q0)] : List Value).toArray = av at S ⊢
  have hx := S.1
  have hb := S.2.1
  have hml := S.2.2.1
  have hown := S.2.2.2.1
  have hts := S.2.2.2.2.1
  have K29 : ∀ (d : xD), k_X7_kindOfWord_29 sh d = some (r, dz) → ∀ (H : Heap) (locs : List Loc) (ls : Array Slot), lv_has ls 2 [] → xG D cid b A sh d s H locs → W p l e (xRm 0 0 0) s m av below meth c H locs 0 0 (MQ below (xQ D cid b ex A (some (.int r)) sh dz) av s 0 0 A) (F0 m 29 ls []) := by
    intro d hf H locs ls hl G
    unfold k_X7_kindOfWord_29 at hf
    refine lv_bipush (v := (21 : Int32)) hx hb dX7_kindOfWord_29 (by decide) ?_
    cases hf
    exact xr_iret S G (fun _ => rfl) hr dX7_kindOfWord_31
  have K21 : ∀ (x1 : Int32) (d : xD), k_X7_kindOfWord_21 sh x1 d = some (r, dz) → ∀ (H : Heap) (locs : List Loc) (ls : Array Slot), lv_has ls 2 [(1, .int x1)] → xG D cid b A sh d s H locs → W p l e (xRm 0 0 0) s m av below meth c H locs 0 0 (MQ below (xQ D cid b ex A (some (.int r)) sh dz) av s 0 0 A) (F0 m 21 ls []) := by
    intro x1 d hf H locs ls hl G
    unfold k_X7_kindOfWord_21 at hf
    refine lv_iload_n hx hb dX7_kindOfWord_21 rfl (lv_at hl 0 rfl) ?_
    cases hf
    exact xr_iret S G (fun _ => rfl) hr dX7_kindOfWord_22
  have K2 : ∀ (n : Nat) (q0 : Nat) (x1 : Int32) (d : xD), xloop (fun _ _ _ => none) (b_X7_kindOfWord_2 sh) n q0 x1 d = some (r, dz) → ∀ (H : Heap) (locs : List Loc) (ls : Array Slot), lv_has ls 2 [(0, .ref (b + q0)), (1, .int x1)] → xG D cid b A sh d s H locs → W p l e (xRm 0 0 0) s m av below meth c H locs 0 0 (MQ below (xQ D cid b ex A (some (.int r)) sh dz) av s 0 0 A) (F0 m 2 ls []) := by
    intro n
    induction n with
    | zero =>
      intro q0 x1 d hf
      have hf : (none : Option (Int32 × xD)) = some (r, dz) := hf
      cases hf
    | succ n hrec2 =>
      intro q0 x1 d hf H locs ls hl G
      have hf : b_X7_kindOfWord_2 sh (xloop (fun _ _ _ => none) (b_X7_kindOfWord_2 sh) n) q0 x1 d = some (r, dz) := hf
      unfold b_X7_kindOfWord_2 at hf
      refine lv_iload_n hx hb dX7_kindOfWord_2 rfl (lv_at hl 1 rfl) ?_
      refine lv_bipush (v := (21 : Int32)) hx hb dX7_kindOfWord_3 (by decide) ?_
      refine lv_icmp_ge (tgt := 29) hx hb dX7_kindOfWord_5 (by decide) (fun c => ?_) (fun c => ?_)
      · have hf := x_pos c hf
        exact K29 d hf _ _ ls (lv_sub hl [] rfl) G
      · have hf := x_neg c hf
        refine lv_aload_n hx hb dX7_kindOfWord_8 rfl (lv_at hl 0 rfl) ?_
        obtain ⟨v1, hv1, hf⟩ := x_ob hf
        refine xr_getR (ci := 7) (k := 6) S G hv1 rfl kw_241 dX7_kindOfWord_9 ?_
        refine lv_iload_n hx hb dX7_kindOfWord_12 rfl (lv_at hl 1 rfl) ?_
        obtain ⟨v2, hv2, hf⟩ := x_ob hf
        refine xr_iald S G hv2 dX7_kindOfWord_13 ?_
        refine lv_aload_n hx hb dX7_kindOfWord_14 rfl (lv_at hl 0 rfl) ?_
        obtain ⟨v3, hv3, hf⟩ := x_ob hf
        refine xr_getI (ci := 7) (k := 2) S G hv3 rfl kw_233 dX7_kindOfWord_15 ?_
        refine lv_icmp_ne (tgt := 23) hx hb dX7_kindOfWord_18 (by decide) (fun c => ?_) (fun c => ?_)
        · have hf := x_neg c hf
          refine lv_iinc (v := (x1 + 1)) (lv' := [(1, .int (x1 + 1)), (0, .ref (b + q0))]) hx hb dX7_kindOfWord_23 hl (k := 1) rfl rfl (by decide) rfl (fun ls hl => ?_)
          refine lv_goto (tgt := 2) hx hb dX7_kindOfWord_26 (by decide) ?_
          exact hrec2 q0 (x1 + 1) d hf _ _ ls (lv_sub hl [1, 0] rfl) G
        · have hf := x_pos c hf
          exact K21 x1 d hf _ _ ls (lv_sub hl [1] rfl) G
  unfold f_X7_kindOfWord at hf
  refine lv_iconst (v := (0 : Int32)) hx hb dX7_kindOfWord_0 (by decide) ?_
  refine lv_istore_n (lv' := [(1, .int (0 : Int32)), (0, .ref (b + q0))]) hx hb dX7_kindOfWord_1 rfl hl (by decide) rfl (fun ls hl => ?_)
  exact K2 xF q0 (0 : Int32) d hf _ _ ls (lv_sub hl [1, 0] rfl) G
-- HalfLandings$Tokens.readWord()V
theorem dX7_readWord_0 : decode cX7_readWord 0 = .ok (.iconst 0, 1) := by decide +kernel
theorem dX7_readWord_1 : decode cX7_readWord 1 = .ok (.istore_n 1, 1) := by decide +kernel
theorem dX7_readWord_2 : decode cX7_readWord 2 = .ok (.aload_n 0, 1) := by decide +kernel
theorem dX7_readWord_3 : decode cX7_readWord 3 = .ok (.getfield 34, 3) := by decide +kernel
theorem dX7_readWord_6 : decode cX7_readWord 6 = .ok (.aload_n 0, 1) := by decide +kernel
theorem dX7_readWord_7 : decode cX7_readWord 7 = .ok (.getfield 31, 3) := by decide +kernel
theorem dX7_readWord_10 : decode cX7_readWord 10 = .ok (.if_icmp .ge 56, 3) := by decide +kernel
theorem dX7_readWord_13 : decode cX7_readWord 13 = .ok (.aload_n 0, 1) := by decide +kernel
theorem dX7_readWord_14 : decode cX7_readWord 14 = .ok (.getfield 37, 3) := by decide +kernel
theorem dX7_readWord_17 : decode cX7_readWord 17 = .ok (.aload_n 0, 1) := by decide +kernel
theorem dX7_readWord_18 : decode cX7_readWord 18 = .ok (.getfield 34, 3) := by decide +kernel
theorem dX7_readWord_21 : decode cX7_readWord 21 = .ok (.baload, 1) := by decide +kernel
theorem dX7_readWord_22 : decode cX7_readWord 22 = .ok (.invokestatic 64, 3) := by decide +kernel
theorem dX7_readWord_25 : decode cX7_readWord 25 = .ok (.ifCond .eq 41, 3) := by decide +kernel
theorem dX7_readWord_28 : decode cX7_readWord 28 = .ok (.aload_n 0, 1) := by decide +kernel
theorem dX7_readWord_29 : decode cX7_readWord 29 = .ok (.dup, 1) := by decide +kernel
theorem dX7_readWord_30 : decode cX7_readWord 30 = .ok (.getfield 18, 3) := by decide +kernel
theorem dX7_readWord_33 : decode cX7_readWord 33 = .ok (.aload_n 0, 1) := by decide +kernel
theorem dX7_readWord_34 : decode cX7_readWord 34 = .ok (.getfield 37, 3) := by decide +kernel
theorem dX7_readWord_37 : decode cX7_readWord 37 = .ok (.aload_n 0, 1) := by decide +kernel
theorem dX7_readWord_38 : decode cX7_readWord 38 = .ok (.getfield 34, 3) := by decide +kernel
theorem dX7_readWord_41 : decode cX7_readWord 41 = .ok (.baload, 1) := by decide +kernel
theorem dX7_readWord_42 : decode cX7_readWord 42 = .ok (.iload_n 1, 1) := by decide +kernel
theorem dX7_readWord_43 : decode cX7_readWord 43 = .ok (.invokestatic 52, 3) := by decide +kernel
theorem dX7_readWord_46 : decode cX7_readWord 46 = .ok (.ior, 1) := by decide +kernel
theorem dX7_readWord_47 : decode cX7_readWord 47 = .ok (.putfield 18, 3) := by decide +kernel
theorem dX7_readWord_50 : decode cX7_readWord 50 = .ok (.iinc 1 1, 3) := by decide +kernel
theorem dX7_readWord_53 : decode cX7_readWord 53 = .ok (.aload_n 0, 1) := by decide +kernel
theorem dX7_readWord_54 : decode cX7_readWord 54 = .ok (.dup, 1) := by decide +kernel
theorem dX7_readWord_55 : decode cX7_readWord 55 = .ok (.getfield 34, 3) := by decide +kernel
theorem dX7_readWord_58 : decode cX7_readWord 58 = .ok (.iconst 1, 1) := by decide +kernel
theorem dX7_readWord_59 : decode cX7_readWord 59 = .ok (.iadd, 1) := by decide +kernel
theorem dX7_readWord_60 : decode cX7_readWord 60 = .ok (.putfield 34, 3) := by decide +kernel
theorem dX7_readWord_63 : decode cX7_readWord 63 = .ok (.goto (-61), 3) := by decide +kernel
theorem dX7_readWord_66 : decode cX7_readWord 66 = .ok (.aload_n 0, 1) := by decide +kernel
theorem dX7_readWord_67 : decode cX7_readWord 67 = .ok (.iload_n 1, 1) := by decide +kernel
theorem dX7_readWord_68 : decode cX7_readWord 68 = .ok (.bipush 6, 2) := by decide +kernel
theorem dX7_readWord_70 : decode cX7_readWord 70 = .ok (.if_icmp .le 8, 3) := by decide +kernel
theorem dX7_readWord_73 : decode cX7_readWord 73 = .ok (.bipush 37, 2) := by decide +kernel
theorem dX7_readWord_75 : decode cX7_readWord 75 = .ok (.goto 7, 3) := by decide +kernel
theorem dX7_readWord_78 : decode cX7_readWord 78 = .ok (.aload_n 0, 1) := by decide +kernel
theorem dX7_readWord_79 : decode cX7_readWord 79 = .ok (.invokevirtual 80, 3) := by decide +kernel
theorem dX7_readWord_82 : decode cX7_readWord 82 = .ok (.putfield 11, 3) := by decide +kernel
theorem dX7_readWord_85 : decode cX7_readWord 85 = .ok (.return_, 1) := by decide +kernel
theorem hd_X7_readWord : yX7_readWord.cls = xCn 7 ∧ yX7_readWord.cls ≠ "java/lang/invoke/MethodHandle" ∧ yX7_readWord.cls ≠ "java/lang/invoke/VarHandle" ∧ (parseMethodDescriptor yX7_readWord.desc).map (fun d => d.parameters.length) = some 0 := by decide +kernel
def k_X7_readWord_82 (sh : List xSh) (p0 : Nat) (y1 : Int32) (d : xD) : Option xD :=
  (xpI 7 sh d p0 0 y1).bind fun d1 => some d1
def k_X7_readWord_66 (sh : List xSh) (q0 : Nat) (x1 : Int32) (d : xD) : Option xD :=
  if x1 ≤ (6 : Int32) then ((xon 7 sh q0 (f_X7_kindOfWord sh q0 d)).bind fun z2 => k_X7_readWord_82 sh q0 z2.1 z2.2) else (k_X7_readWord_82 sh q0 (37 : Int32) d)
def b_X7_readWord_2 (sh : List xSh) (rec2 : Nat → Int32 → xD → Option xD) (q0 : Nat) (x1 : Int32) (d : xD) : Option xD :=
  (xgI 7 sh d q0 8).bind fun v3 => (xgI 7 sh d q0 7).bind fun v4 => if v4 ≤ v3 then (k_X7_readWord_66 sh q0 x1 d) else ((xgR 7 sh d q0 5).bind fun v5 => (xgI 7 sh d q0 8).bind fun v6 => (xaI .byte sh d v5 v6).bind fun v7 => (f_X7_isLetter sh v7 d).bind fun z8 => if z8.1 = 0 then (k_X7_readWord_66 sh q0 x1 z8.2) else ((xgI 7 sh z8.2 q0 2).bind fun v9 => (xgR 7 sh z8.2 q0 5).bind fun v10 => (xgI 7 sh z8.2 q0 8).bind fun v11 => (xaI .byte sh z8.2 v10 v11).bind fun v12 => (f_X7_bitsOfLetter sh v12 x1 z8.2).bind fun z13 => (xpI 7 sh z13.2 q0 2 (v9 ||| z13.1)).bind fun d14 => (xgI 7 sh d14 q0 8).bind fun v15 => (xpI 7 sh d14 q0 8 (v15 + (1 : Int32))).bind fun d16 => rec2 q0 (x1 + 1) d16))
def f_X7_readWord (sh : List xSh) (q0 : Nat) (d : xD) : Option xD :=
  xloop (fun _ _ _ => none) (b_X7_readWord_2 sh) xF q0 (0 : Int32) d
set_option maxHeartbeats 4000000 in
set_option maxRecDepth 100000 in
theorem mt_X7_readWord (l : Launch) (D : va_G) (cid : FieldType → ClassId) (b : Nat) (ex : Bool) (sa sv B0 : Nat) (sh : List xSh) (q0 : Nat) (d : xD) (dz : xD) (hf : f_X7_readWord sh q0 d = some dz) : xMet l yX7_readWord cX7_readWord 2 none 1 0 0 D cid b ex sa sv B0 [.ref (b + q0)] sh d none sh dz := by
  refine xMet.of (by decide) (Nat.le_of_ble_eq_true rfl) ?_
  intro p e s m below meth c ls A S hr hin G hl
  have hl : lv_has ls 2 [(0, .ref (b + q0))] := hl
  generalize ([.ref (b + q0)] : List Value).toArray = av at S ⊢
  have hx := S.1
  have hb := S.2.1
  have hml := S.2.2.1
  have hown := S.2.2.2.1
  have hts := S.2.2.2.2.1
  have K82 : ∀ (p0 : Nat) (y1 : Int32) (d : xD), k_X7_readWord_82 sh p0 y1 d = some dz → ∀ (H : Heap) (locs : List Loc) (ls : Array Slot), lv_has ls 2 [] → xG D cid b A sh d s H locs → W p l e (xRm 1 0 0) s m av below meth c H locs 0 0 (MQ below (xQ D cid b ex A none sh dz) av s 0 0 A) (F0 m 82 ls [.int y1, .ref (b + p0)]) := by
    intro p0 y1 d hf H locs ls hl G
    unfold k_X7_readWord_82 at hf
    obtain ⟨d1, hd1, hf⟩ := x_ob hf
    refine xr_putI (ci := 7) (k := 0) S G hd1 rfl kw_229 dX7_readWord_82 (fun H locs G => ?_)
    cases hf
    exact xr_vret S G (fun _ => rfl) hr dX7_readWord_85
  have K66 : ∀ (q0 : Nat) (x1 : Int32) (d : xD), k_X7_readWord_66 sh q0 x1 d = some dz → ∀ (H : Heap) (locs : List Loc) (ls : Array Slot), lv_has ls 2 [(0, .ref (b + q0)), (1, .int x1)] → xG D cid b A sh d s H locs → W p l e (xRm 1 0 0) s m av below meth c H locs 0 0 (MQ below (xQ D cid b ex A none sh dz) av s 0 0 A) (F0 m 66 ls []) := by
    intro q0 x1 d hf H locs ls hl G
    unfold k_X7_readWord_66 at hf
    refine lv_aload_n hx hb dX7_readWord_66 rfl (lv_at hl 0 rfl) ?_
    refine lv_iload_n hx hb dX7_readWord_67 rfl (lv_at hl 1 rfl) ?_
    refine lv_bipush (v := (6 : Int32)) hx hb dX7_readWord_68 (by decide) ?_
    refine lv_icmp_le (tgt := 78) hx hb dX7_readWord_70 (by decide) (fun c => ?_) (fun c => ?_)
    · have hf := x_pos c hf
      refine lv_aload_n hx hb dX7_readWord_78 rfl (lv_at hl 0 rfl) ?_
      obtain ⟨z2, hz2, hf⟩ := x_ob hf
      obtain ⟨hqz2, hz2⟩ := xon_of hz2
      refine xr_callV (ci := 7) (As := []) (rest := [.ref (b + q0)]) (st1 := [.int z2.1, .ref (b + q0)]) S G hl.1 (fun _ => rfl) (mt_X7_kindOfWord l D cid b ex sa sv B0 sh q0 d _ _ hz2) hqz2 (by decide) kw_569 kw_571 ks_2 kw_5 kw_572 hd_X7_kindOfWord ⟨Nat.le_of_ble_eq_true rfl, Nat.le_of_ble_eq_true rfl⟩ rfl rfl rfl (Nat.le_of_ble_eq_true rfl) ⟨Nat.le_of_ble_eq_true rfl, Nat.le_of_ble_eq_true rfl⟩ dX7_readWord_79 (fun H locs G => ?_)
      exact K82 q0 z2.1 z2.2 hf _ _ ls (lv_sub hl [] rfl) G
    · have hf := x_neg c hf
      refine lv_bipush (v := (37 : Int32)) hx hb dX7_readWord_73 (by decide) ?_
      refine lv_goto (tgt := 82) hx hb dX7_readWord_75 (by decide) ?_
      exact K82 q0 (37 : Int32) d hf _ _ ls (lv_sub hl [] rfl) G
  have K2 : ∀ (n : Nat) (q0 : Nat) (x1 : Int32) (d : xD), xloop (fun _ _ _ => none) (b_X7_readWord_2 sh) n q0 x1 d = some dz → ∀ (H : Heap) (locs : List Loc) (ls : Array Slot), lv_has ls 2 [(0, .ref (b + q0)), (1, .int x1)] → xG D cid b A sh d s H locs → W p l e (xRm 1 0 0) s m av below meth c H locs 0 0 (MQ below (xQ D cid b ex A none sh dz) av s 0 0 A) (F0 m 2 ls []) := by
    intro n
    induction n with
    | zero =>
      intro q0 x1 d hf
      have hf : (none : Option xD) = some dz := hf
      cases hf
    | succ n hrec2 =>
      intro q0 x1 d hf H locs ls hl G
      have hf : b_X7_readWord_2 sh (xloop (fun _ _ _ => none) (b_X7_readWord_2 sh) n) q0 x1 d = some dz := hf
      unfold b_X7_readWord_2 at hf
      refine lv_aload_n hx hb dX7_readWord_2 rfl (lv_at hl 0 rfl) ?_
      obtain ⟨v3, hv3, hf⟩ := x_ob hf
      refine xr_getI (ci := 7) (k := 8) S G hv3 rfl kw_243 dX7_readWord_3 ?_
      refine lv_aload_n hx hb dX7_readWord_6 rfl (lv_at hl 0 rfl) ?_
      obtain ⟨v4, hv4, hf⟩ := x_ob hf
      refine xr_getI (ci := 7) (k := 7) S G hv4 rfl kw_242 dX7_readWord_7 ?_
      refine lv_icmp_ge (tgt := 66) hx hb dX7_readWord_10 (by decide) (fun c => ?_) (fun c => ?_)
      · have hf := x_pos c hf
        exact K66 q0 x1 d hf _ _ ls (lv_sub hl [0, 1] rfl) G
      · have hf := x_neg c hf
        refine lv_aload_n hx hb dX7_readWord_13 rfl (lv_at hl 0 rfl) ?_
        obtain ⟨v5, hv5, hf⟩ := x_ob hf
        refine xr_getR (ci := 7) (k := 5) S G hv5 rfl kw_240 dX7_readWord_14 ?_
        refine lv_aload_n hx hb dX7_readWord_17 rfl (lv_at hl 0 rfl) ?_
        obtain ⟨v6, hv6, hf⟩ := x_ob hf
        refine xr_getI (ci := 7) (k := 8) S G hv6 rfl kw_243 dX7_readWord_18 ?_
        obtain ⟨v7, hv7, hf⟩ := x_ob hf
        refine xr_bald S G hv7 dX7_readWord_21 ?_
        obtain ⟨z8, hz8, hf⟩ := x_ob hf
        refine xr_callS (As := [.int v7]) (rest := []) (st1 := [.int z8.1]) S G hl.1 (fun _ => rfl) (mt_X7_isLetter l D cid b ex sa sv B0 sh v7 d _ _ hz8) kw_562 kw_563 kw_5 kw_564 hd_X7_isLetter ⟨Nat.le_of_ble_eq_true rfl, Nat.le_of_ble_eq_true rfl⟩ rfl rfl rfl (Nat.le_of_ble_eq_true rfl) ⟨Nat.le_of_ble_eq_true rfl, Nat.le_of_ble_eq_true rfl⟩ dX7_readWord_22 (fun H locs G => ?_)
        refine lv_if_eq (tgt := 66) hx hb dX7_readWord_25 (by decide) (fun c => ?_) (fun c => ?_)
        · have hf := x_pos c hf
          exact K66 q0 x1 z8.2 hf _ _ ls (lv_sub hl [0, 1] rfl) G
        · have hf := x_neg c hf
          refine lv_aload_n hx hb dX7_readWord_28 rfl (lv_at hl 0 rfl) ?_
          refine lv_dup hx hb dX7_readWord_29 rfl ?_
          obtain ⟨v9, hv9, hf⟩ := x_ob hf
          refine xr_getI (ci := 7) (k := 2) S G hv9 rfl kw_233 dX7_readWord_30 ?_
          refine lv_aload_n hx hb dX7_readWord_33 rfl (lv_at hl 0 rfl) ?_
          obtain ⟨v10, hv10, hf⟩ := x_ob hf
          refine xr_getR (ci := 7) (k := 5) S G hv10 rfl kw_240 dX7_readWord_34 ?_
          refine lv_aload_n hx hb dX7_readWord_37 rfl (lv_at hl 0 rfl) ?_
          obtain ⟨v11, hv11, hf⟩ := x_ob hf
          refine xr_getI (ci := 7) (k := 8) S G hv11 rfl kw_243 dX7_readWord_38 ?_
          obtain ⟨v12, hv12, hf⟩ := x_ob hf
          refine xr_bald S G hv12 dX7_readWord_41 ?_
          refine lv_iload_n hx hb dX7_readWord_42 rfl (lv_at hl 1 rfl) ?_
          obtain ⟨z13, hz13, hf⟩ := x_ob hf
          refine xr_callS (As := [.int v12, .int x1]) (rest := [.int v9, .ref (b + q0)]) (st1 := [.int z13.1, .int v9, .ref (b + q0)]) S G hl.1 (fun _ => rfl) (mt_X7_bitsOfLetter l D cid b ex sa sv B0 sh v12 x1 z8.2 _ _ hz13) kw_226 kw_227 kw_5 kw_228 hd_X7_bitsOfLetter ⟨Nat.le_of_ble_eq_true rfl, Nat.le_of_ble_eq_true rfl⟩ rfl rfl rfl (Nat.le_of_ble_eq_true rfl) ⟨Nat.le_of_ble_eq_true rfl, Nat.le_of_ble_eq_true rfl⟩ dX7_readWord_43 (fun H locs G => ?_)
          refine lv_ior hx hb dX7_readWord_46 ?_
          obtain ⟨d14, hd14, hf⟩ := x_ob hf
          refine xr_putI (ci := 7) (k := 2) S G hd14 rfl kw_233 dX7_readWord_47 (fun H locs G => ?_)
          refine lv_iinc (v := (x1 + 1)) (lv' := [(1, .int (x1 + 1)), (0, .ref (b + q0))]) hx hb dX7_readWord_50 hl (k := 1) rfl rfl (by decide) rfl (fun ls hl => ?_)
          refine lv_aload_n hx hb dX7_readWord_53 rfl (lv_at hl 1 rfl) ?_
          refine lv_dup hx hb dX7_readWord_54 rfl ?_
          obtain ⟨v15, hv15, hf⟩ := x_ob hf
          refine xr_getI (ci := 7) (k := 8) S G hv15 rfl kw_243 dX7_readWord_55 ?_
          refine lv_iconst (v := (1 : Int32)) hx hb dX7_readWord_58 (by decide) ?_
          refine lv_iadd hx hb dX7_readWord_59 ?_
          obtain ⟨d16, hd16, hf⟩ := x_ob hf
          refine xr_putI (ci := 7) (k := 8) S G hd16 rfl kw_243 dX7_readWord_60 (fun H locs G => ?_)
          refine lv_goto (tgt := 2) hx hb dX7_readWord_63 (by decide) ?_
          exact hrec2 q0 (x1 + 1) d16 hf _ _ ls (lv_sub hl [1, 0] rfl) G
  unfold f_X7_readWord at hf
  refine lv_iconst (v := (0 : Int32)) hx hb dX7_readWord_0 (by decide) ?_
  refine lv_istore_n (lv' := [(1, .int (0 : Int32)), (0, .ref (b + q0))]) hx hb dX7_readWord_1 rfl hl (by decide) rfl (fun ls hl => ?_)
  exact K2 xF q0 (0 : Int32) d hf _ _ ls (lv_sub hl [1, 0] rfl) G

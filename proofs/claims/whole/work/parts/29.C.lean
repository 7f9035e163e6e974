-- HalfLandings.gain(IIII)I
theorem dX9_gain_0 : decode cX9_gain 0 = .ok (.iload_n 2, 1) := by decide +kernel
theorem dX9_gain_1 : decode cX9_gain 1 = .ok (.iconst 1, 1) := by decide +kernel
theorem dX9_gain_2 : decode cX9_gain 2 = .ok (.if_icmp .ne 14, 3) := by decide +kernel
theorem dX9_gain_5 : decode cX9_gain 5 = .ok (.iload_n 3, 1) := by decide +kernel
theorem dX9_gain_6 : decode cX9_gain 6 = .ok (.iconst 1, 1) := by decide +kernel
theorem dX9_gain_7 : decode cX9_gain 7 = .ok (.if_icmp .ne 7, 3) := by decide +kernel
theorem dX9_gain_10 : decode cX9_gain 10 = .ok (.iload_n 1, 1) := by decide +kernel
theorem dX9_gain_11 : decode cX9_gain 11 = .ok (.goto 4, 3) := by decide +kernel
theorem dX9_gain_14 : decode cX9_gain 14 = .ok (.iconst 0, 1) := by decide +kernel
theorem dX9_gain_15 : decode cX9_gain 15 = .ok (.ireturn, 1) := by decide +kernel
theorem dX9_gain_16 : decode cX9_gain 16 = .ok (.iload_n 3, 1) := by decide +kernel
theorem dX9_gain_17 : decode cX9_gain 17 = .ok (.iconst 1, 1) := by decide +kernel
theorem dX9_gain_18 : decode cX9_gain 18 = .ok (.if_icmp .ne 7, 3) := by decide +kernel
theorem dX9_gain_21 : decode cX9_gain 21 = .ok (.iload_n 0, 1) := by decide +kernel
theorem dX9_gain_22 : decode cX9_gain 22 = .ok (.goto 6, 3) := by decide +kernel
theorem dX9_gain_25 : decode cX9_gain 25 = .ok (.iload_n 0, 1) := by decide +kernel
theorem dX9_gain_26 : decode cX9_gain 26 = .ok (.iconst 2, 1) := by decide +kernel
theorem dX9_gain_27 : decode cX9_gain 27 = .ok (.idiv, 1) := by decide +kernel
theorem dX9_gain_28 : decode cX9_gain 28 = .ok (.ireturn, 1) := by decide +kernel
theorem hd_X9_gain : yX9_gain.cls ≠ "java/lang/invoke/MethodHandle" ∧ yX9_gain.cls ≠ "java/lang/invoke/VarHandle" ∧ (parseMethodDescriptor yX9_gain.desc).map (fun d => d.parameters.length) = some 4 := by decide +kernel
def k_X9_gain_28 (sh : List xSh) (y0 : Int32) (d : xD) : Option (Int32 × xD) :=
  some (y0, d)
def k_X9_gain_15 (sh : List xSh) (y0 : Int32) (d : xD) : Option (Int32 × xD) :=
  some (y0, d)
def f_X9_gain (sh : List xSh) (x0 : Int32) (x1 : Int32) (x2 : Int32) (x3 : Int32) (d : xD) : Option (Int32 × xD) :=
  if x2 = (1 : Int32) then (if x3 = (1 : Int32) then (k_X9_gain_15 sh x1 d) else (k_X9_gain_15 sh (0 : Int32) d)) else (if x3 = (1 : Int32) then (k_X9_gain_28 sh x0 d) else ((xdI x0 (2 : Int32)).bind fun v1 => k_X9_gain_28 sh v1 d))
set_option maxHeartbeats 4000000 in
set_option maxRecDepth 100000 in
theorem mt_X9_gain (l : Launch) (D : va_G) (cid : FieldType → ClassId) (b : Nat) (ex : Bool) (sa sv B0 : Nat) (sh : List xSh) (x0 : Int32) (x1 : Int32) (x2 : Int32) (x3 : Int32) (d : xD) (r : Int32) (dz : xD) (hf : f_X9_gain sh x0 x1 x2 x3 d = some (r, dz)) : xMet l yX9_gain cX9_gain 4 (some .int) 0 0 0 D cid b ex sa sv B0 [.int x0, .int x1, .int x2, .int x3] sh d (some (.int r)) sh dz := by
  refine xMet.of (by decide) (Nat.le_of_ble_eq_true rfl) ?_
  intro p e s m below meth c ls A S hr hin G hl
  have hl : lv_has ls 4 [(0, .int x0), (1, .int x1), (2, .int x2), (3, .int x3)] := hl
  generalize ([.int x0, .int x1, .int x2, .int x3] : List Value).toArray = av at S ⊢
  have hx := S.1
  have hb := S.2.1
  have hml := S.2.2.1
  have hown := S.2.2.2.1
  have hts := S.2.2.2.2.1
  have K28 : ∀ (y0 : Int32) (d : xD), k_X9_gain_28 sh y0 d = some (r, dz) → ∀ (H : Heap) (locs : List Loc) (ls : Array Slot), lv_has ls 4 [] → xG D cid b A sh d s H locs → W p l e (xRm 0 0 0) s m av below meth c H locs 0 0 (MQ below (xQ D cid b ex A (some (.int r)) sh dz) av s 0 0 A) (F0 m 28 ls [.int y0]) := by
    intro y0 d hf H locs ls hl G
    unfold k_X9_gain_28 at hf
    cases hf
    exact xr_iret S G (fun _ => rfl) hr dX9_gain_28
  have K15 : ∀ (y0 : Int32) (d : xD), k_X9_gain_15 sh y0 d = some (r, dz) → ∀ (H : Heap) (locs : List Loc) (ls : Array Slot), lv_has ls 4 [] → xG D cid b A sh d s H locs → W p l e (xRm 0 0 0) s m av below meth c H locs 0 0 (MQ below (xQ D cid b ex A (some (.int r)) sh dz) av s 0 0 A) (F0 m 15 ls [.int y0]) := by
    intro y0 d hf H locs ls hl G
    unfold k_X9_gain_15 at hf
    cases hf
    exact xr_iret S G (fun _ => rfl) hr dX9_gain_15
  unfold f_X9_gain at hf
  refine lv_iload_n hx hb dX9_gain_0 rfl (lv_at hl 2 rfl) ?_
  refine lv_iconst (v := (1 : Int32)) hx hb dX9_gain_1 (by decide) ?_
  refine lv_icmp_ne (tgt := 16) hx hb dX9_gain_2 (by decide) (fun c => ?_) (fun c => ?_)
  · have hf := x_neg c hf
    refine lv_iload_n hx hb dX9_gain_16 rfl (lv_at hl 3 rfl) ?_
    refine lv_iconst (v := (1 : Int32)) hx hb dX9_gain_17 (by decide) ?_
    refine lv_icmp_ne (tgt := 25) hx hb dX9_gain_18 (by decide) (fun c => ?_) (fun c => ?_)
    · have hf := x_neg c hf
      refine lv_iload_n hx hb dX9_gain_25 rfl (lv_at hl 0 rfl) ?_
      refine lv_iconst (v := (2 : Int32)) hx hb dX9_gain_26 (by decide) ?_
      obtain ⟨v1, hv1, hf⟩ := x_ob hf
      refine xr_idiv hx hb hv1 dX9_gain_27 ?_
      exact K28 v1 d hf _ _ ls (lv_sub hl [] rfl) G
    · have hf := x_pos c hf
      refine lv_iload_n hx hb dX9_gain_21 rfl (lv_at hl 0 rfl) ?_
      refine lv_goto (tgt := 28) hx hb dX9_gain_22 (by decide) ?_
      exact K28 x0 d hf _ _ ls (lv_sub hl [] rfl) G
  · have hf := x_pos c hf
    refine lv_iload_n hx hb dX9_gain_5 rfl (lv_at hl 3 rfl) ?_
    refine lv_iconst (v := (1 : Int32)) hx hb dX9_gain_6 (by decide) ?_
    refine lv_icmp_ne (tgt := 14) hx hb dX9_gain_7 (by decide) (fun c => ?_) (fun c => ?_)
    · have hf := x_neg c hf
      refine lv_iconst (v := (0 : Int32)) hx hb dX9_gain_14 (by decide) ?_
      exact K15 (0 : Int32) d hf _ _ ls (lv_sub hl [] rfl) G
    · have hf := x_pos c hf
      refine lv_iload_n hx hb dX9_gain_10 rfl (lv_at hl 1 rfl) ?_
      refine lv_goto (tgt := 15) hx hb dX9_gain_11 (by decide) ?_
      exact K15 x1 d hf _ _ ls (lv_sub hl [] rfl) G
-- HalfLandings.isRest(IIII)Z
theorem dX9_isRest_0 : decode cX9_isRest 0 = .ok (.iload_n 0, 1) := by decide +kernel
theorem dX9_isRest_1 : decode cX9_isRest 1 = .ok (.iload_n 1, 1) := by decide +kernel
theorem dX9_isRest_2 : decode cX9_isRest 2 = .ok (.iload_n 2, 1) := by decide +kernel
theorem dX9_isRest_3 : decode cX9_isRest 3 = .ok (.iload_n 3, 1) := by decide +kernel
theorem dX9_isRest_4 : decode cX9_isRest 4 = .ok (.invokestatic 265, 3) := by decide +kernel
theorem dX9_isRest_7 : decode cX9_isRest 7 = .ok (.iload_n 0, 1) := by decide +kernel
theorem dX9_isRest_8 : decode cX9_isRest 8 = .ok (.iload_n 1, 1) := by decide +kernel
theorem dX9_isRest_9 : decode cX9_isRest 9 = .ok (.iconst 1, 1) := by decide +kernel
theorem dX9_isRest_10 : decode cX9_isRest 10 = .ok (.iload_n 2, 1) := by decide +kernel
theorem dX9_isRest_11 : decode cX9_isRest 11 = .ok (.isub, 1) := by decide +kernel
theorem dX9_isRest_12 : decode cX9_isRest 12 = .ok (.iload_n 3, 1) := by decide +kernel
theorem dX9_isRest_13 : decode cX9_isRest 13 = .ok (.invokestatic 265, 3) := by decide +kernel
theorem dX9_isRest_16 : decode cX9_isRest 16 = .ok (.if_icmp .lt 26, 3) := by decide +kernel
theorem dX9_isRest_19 : decode cX9_isRest 19 = .ok (.iload_n 1, 1) := by decide +kernel
theorem dX9_isRest_20 : decode cX9_isRest 20 = .ok (.iload_n 0, 1) := by decide +kernel
theorem dX9_isRest_21 : decode cX9_isRest 21 = .ok (.iload_n 3, 1) := by decide +kernel
theorem dX9_isRest_22 : decode cX9_isRest 22 = .ok (.iload_n 2, 1) := by decide +kernel
theorem dX9_isRest_23 : decode cX9_isRest 23 = .ok (.invokestatic 265, 3) := by decide +kernel
theorem dX9_isRest_26 : decode cX9_isRest 26 = .ok (.iload_n 1, 1) := by decide +kernel
theorem dX9_isRest_27 : decode cX9_isRest 27 = .ok (.iload_n 0, 1) := by decide +kernel
theorem dX9_isRest_28 : decode cX9_isRest 28 = .ok (.iconst 1, 1) := by decide +kernel
theorem dX9_isRest_29 : decode cX9_isRest 29 = .ok (.iload_n 3, 1) := by decide +kernel
theorem dX9_isRest_30 : decode cX9_isRest 30 = .ok (.isub, 1) := by decide +kernel
theorem dX9_isRest_31 : decode cX9_isRest 31 = .ok (.iload_n 2, 1) := by decide +kernel
theorem dX9_isRest_32 : decode cX9_isRest 32 = .ok (.invokestatic 265, 3) := by decide +kernel
theorem dX9_isRest_35 : decode cX9_isRest 35 = .ok (.if_icmp .lt 7, 3) := by decide +kernel
theorem dX9_isRest_38 : decode cX9_isRest 38 = .ok (.iconst 1, 1) := by decide +kernel
theorem dX9_isRest_39 : decode cX9_isRest 39 = .ok (.goto 4, 3) := by decide +kernel
theorem dX9_isRest_42 : decode cX9_isRest 42 = .ok (.iconst 0, 1) := by decide +kernel
theorem dX9_isRest_43 : decode cX9_isRest 43 = .ok (.ireturn, 1) := by decide +kernel
theorem hd_X9_isRest : yX9_isRest.cls ≠ "java/lang/invoke/MethodHandle" ∧ yX9_isRest.cls ≠ "java/lang/invoke/VarHandle" ∧ (parseMethodDescriptor yX9_isRest.desc).map (fun d => d.parameters.length) = some 4 := by decide +kernel
def k_X9_isRest_43 (sh : List xSh) (y0 : Int32) (d : xD) : Option (Int32 × xD) :=
  (xz y0).bind fun v1 => some (v1, d)
def k_X9_isRest_42 (sh : List xSh) (d : xD) : Option (Int32 × xD) :=
  k_X9_isRest_43 sh (0 : Int32) d
def f_X9_isRest (sh : List xSh) (x0 : Int32) (x1 : Int32) (x2 : Int32) (x3 : Int32) (d : xD) : Option (Int32 × xD) :=
  (f_X9_gain sh x0 x1 x2 x3 d).bind fun z2 => (f_X9_gain sh x0 x1 ((1 : Int32) - x2) x3 z2.2).bind fun z3 => if z2.1 < z3.1 then (k_X9_isRest_42 sh z3.2) else ((f_X9_gain sh x1 x0 x3 x2 z3.2).bind fun z4 => (f_X9_gain sh x1 x0 ((1 : Int32) - x3) x2 z4.2).bind fun z5 => if z4.1 < z5.1 then (k_X9_isRest_42 sh z5.2) else (k_X9_isRest_43 sh (1 : Int32) z5.2))
set_option maxHeartbeats 4000000 in
set_option maxRecDepth 100000 in
theorem mt_X9_isRest (l : Launch) (D : va_G) (cid : FieldType → ClassId) (b : Nat) (ex : Bool) (sa sv B0 : Nat) (sh : List xSh) (x0 : Int32) (x1 : Int32) (x2 : Int32) (x3 : Int32) (d : xD) (r : Int32) (dz : xD) (hf : f_X9_isRest sh x0 x1 x2 x3 d = some (r, dz)) : xMet l yX9_isRest cX9_isRest 4 (some .boolean) 1 0 0 D cid b ex sa sv B0 [.int x0, .int x1, .int x2, .int x3] sh d (some (.int r)) sh dz := by
  refine xMet.of (by decide) (Nat.le_of_ble_eq_true rfl) ?_
  intro p e s m below meth c ls A S hr hin G hl
  have hl : lv_has ls 4 [(0, .int x0), (1, .int x1), (2, .int x2), (3, .int x3)] := hl
  generalize ([.int x0, .int x1, .int x2, .int x3] : List Value).toArray = av at S ⊢
  have hx := S.1
  have hb := S.2.1
  have hml := S.2.2.1
  have hown := S.2.2.2.1
  have hts := S.2.2.2.2.1
  have K43 : ∀ (y0 : Int32) (d : xD), k_X9_isRest_43 sh y0 d = some (r, dz) → ∀ (H : Heap) (locs : List Loc) (ls : Array Slot), lv_has ls 4 [] → xG D cid b A sh d s H locs → W p l e (xRm 1 0 0) s m av below meth c H locs 0 0 (MQ below (xQ D cid b ex A (some (.int r)) sh dz) av s 0 0 A) (F0 m 43 ls [.int y0]) := by
    intro y0 d hf H locs ls hl G
    unfold k_X9_isRest_43 at hf
    obtain ⟨v1, hv1, hf⟩ := x_ob hf
    cases hf
    exact xr_zret S G (fun _ => rfl) hr hv1 dX9_isRest_43
  have K42 : ∀ (d : xD), k_X9_isRest_42 sh d = some (r, dz) → ∀ (H : Heap) (locs : List Loc) (ls : Array Slot), lv_has ls 4 [] → xG D cid b A sh d s H locs → W p l e (xRm 1 0 0) s m av below meth c H locs 0 0 (MQ below (xQ D cid b ex A (some (.int r)) sh dz) av s 0 0 A) (F0 m 42 ls []) := by
    intro d hf H locs ls hl G
    unfold k_X9_isRest_42 at hf
    refine lv_iconst (v := (0 : Int32)) hx hb dX9_isRest_42 (by decide) ?_
    exact K43 (0 : Int32) d hf _ _ ls (lv_sub hl [] rfl) G
  unfold f_X9_isRest at hf
  refine lv_iload_n hx hb dX9_isRest_0 rfl (lv_at hl 0 rfl) ?_
  refine lv_iload_n hx hb dX9_isRest_1 rfl (lv_at hl 1 rfl) ?_
  refine lv_iload_n hx hb dX9_isRest_2 rfl (lv_at hl 2 rfl) ?_
  refine lv_iload_n hx hb dX9_isRest_3 rfl (lv_at hl 3 rfl) ?_
  obtain ⟨z2, hz2, hf⟩ := x_ob hf
  refine xr_callS (As := [.int x0, .int x1, .int x2, .int x3]) (rest := []) (st1 := [.int z2.1]) S G hl.1 (fun _ => rfl) (mt_X9_gain l D cid b ex sa sv B0 sh x0 x1 x2 x3 d _ _ hz2) kw_954 kw_955 kw_1 kw_956 hd_X9_gain ⟨Nat.le_of_ble_eq_true rfl, Nat.le_of_ble_eq_true rfl⟩ rfl rfl rfl (Nat.le_of_ble_eq_true rfl) ⟨Nat.le_of_ble_eq_true rfl, Nat.le_of_ble_eq_true rfl⟩ dX9_isRest_4 (fun H locs G => ?_)
  refine lv_iload_n hx hb dX9_isRest_7 rfl (lv_at hl 0 rfl) ?_
  refine lv_iload_n hx hb dX9_isRest_8 rfl (lv_at hl 1 rfl) ?_
  refine lv_iconst (v := (1 : Int32)) hx hb dX9_isRest_9 (by decide) ?_
  refine lv_iload_n hx hb dX9_isRest_10 rfl (lv_at hl 2 rfl) ?_
  refine lv_isub hx hb dX9_isRest_11 ?_
  refine lv_iload_n hx hb dX9_isRest_12 rfl (lv_at hl 3 rfl) ?_
  obtain ⟨z3, hz3, hf⟩ := x_ob hf
  refine xr_callS (As := [.int x0, .int x1, .int ((1 : Int32) - x2), .int x3]) (rest := [.int z2.1]) (st1 := [.int z3.1, .int z2.1]) S G hl.1 (fun _ => rfl) (mt_X9_gain l D cid b ex sa sv B0 sh x0 x1 ((1 : Int32) - x2) x3 z2.2 _ _ hz3) kw_954 kw_955 kw_1 kw_956 hd_X9_gain ⟨Nat.le_of_ble_eq_true rfl, Nat.le_of_ble_eq_true rfl⟩ rfl rfl rfl (Nat.le_of_ble_eq_true rfl) ⟨Nat.le_of_ble_eq_true rfl, Nat.le_of_ble_eq_true rfl⟩ dX9_isRest_13 (fun H locs G => ?_)
  refine lv_icmp_lt (tgt := 42) hx hb dX9_isRest_16 (by decide) (fun c => ?_) (fun c => ?_)
  · have hf := x_pos c hf
    exact K42 z3.2 hf _ _ ls (lv_sub hl [] rfl) G
  · have hf := x_neg c hf
    refine lv_iload_n hx hb dX9_isRest_19 rfl (lv_at hl 1 rfl) ?_
    refine lv_iload_n hx hb dX9_isRest_20 rfl (lv_at hl 0 rfl) ?_
    refine lv_iload_n hx hb dX9_isRest_21 rfl (lv_at hl 3 rfl) ?_
    refine lv_iload_n hx hb dX9_isRest_22 rfl (lv_at hl 2 rfl) ?_
    obtain ⟨z4, hz4, hf⟩ := x_ob hf
    refine xr_callS (As := [.int x1, .int x0, .int x3, .int x2]) (rest := []) (st1 := [.int z4.1]) S G hl.1 (fun _ => rfl) (mt_X9_gain l D cid b ex sa sv B0 sh x1 x0 x3 x2 z3.2 _ _ hz4) kw_954 kw_955 kw_1 kw_956 hd_X9_gain ⟨Nat.le_of_ble_eq_true rfl, Nat.le_of_ble_eq_true rfl⟩ rfl rfl rfl (Nat.le_of_ble_eq_true rfl) ⟨Nat.le_of_ble_eq_true rfl, Nat.le_of_ble_eq_true rfl⟩ dX9_isRest_23 (fun H locs G => ?_)
    refine lv_iload_n hx hb dX9_isRest_26 rfl (lv_at hl 1 rfl) ?_
    refine lv_iload_n hx hb dX9_isRest_27 rfl (lv_at hl 0 rfl) ?_
    refine lv_iconst (v := (1 : Int32)) hx hb dX9_isRest_28 (by decide) ?_
    refine lv_iload_n hx hb dX9_isRest_29 rfl (lv_at hl 3 rfl) ?_
    refine lv_isub hx hb dX9_isRest_30 ?_
    refine lv_iload_n hx hb dX9_isRest_31 rfl (lv_at hl 2 rfl) ?_
    obtain ⟨z5, hz5, hf⟩ := x_ob hf
    refine xr_callS (As := [.int x1, .int x0, .int ((1 : Int32) - x3), .int x2]) (rest := [.int z4.1]) (st1 := [.int z5.1, .int z4.1]) S G hl.1 (fun _ => rfl) (mt_X9_gain l D cid b ex sa sv B0 sh x1 x0 ((1 : Int32) - x3) x2 z4.2 _ _ hz5) kw_954 kw_955 kw_1 kw_956 hd_X9_gain ⟨Nat.le_of_ble_eq_true rfl, Nat.le_of_ble_eq_true rfl⟩ rfl rfl rfl (Nat.le_of_ble_eq_true rfl) ⟨Nat.le_of_ble_eq_true rfl, Nat.le_of_ble_eq_true rfl⟩ dX9_isRest_32 (fun H locs G => ?_)
    refine lv_icmp_lt (tgt := 42) hx hb dX9_isRest_35 (by decide) (fun c => ?_) (fun c => ?_)
    · have hf := x_pos c hf
      exact K42 z5.2 hf _ _ ls (lv_sub hl [] rfl) G
    · have hf := x_neg c hf
      refine lv_iconst (v := (1 : Int32)) hx hb dX9_isRest_38 (by decide) ?_
      refine lv_goto (tgt := 43) hx hb dX9_isRest_39 (by decide) ?_
      exact K43 (1 : Int32) z5.2 hf _ _ ls (lv_sub hl [] rfl) G
-- HalfLandings.rests(II)I
theorem dX9_rests_0 : decode cX9_rests 0 = .ok (.aload_n 0, 1) := by decide +kernel
theorem dX9_rests_1 : decode cX9_rests 1 = .ok (.iload_n 1, 1) := by decide +kernel
theorem dX9_rests_2 : decode cX9_rests 2 = .ok (.iload_n 2, 1) := by decide +kernel
theorem dX9_rests_3 : decode cX9_rests 3 = .ok (.invokevirtual 240, 3) := by decide +kernel
theorem dX9_rests_6 : decode cX9_rests 6 = .ok (.ifCond .ne 5, 3) := by decide +kernel
theorem dX9_rests_9 : decode cX9_rests 9 = .ok (.iconst (-1), 1) := by decide +kernel
theorem dX9_rests_10 : decode cX9_rests 10 = .ok (.ireturn, 1) := by decide +kernel
theorem dX9_rests_11 : decode cX9_rests 11 = .ok (.iconst 0, 1) := by decide +kernel
theorem dX9_rests_12 : decode cX9_rests 12 = .ok (.istore_n 3, 1) := by decide +kernel
theorem dX9_rests_13 : decode cX9_rests 13 = .ok (.iconst 0, 1) := by decide +kernel
theorem dX9_rests_14 : decode cX9_rests 14 = .ok (.istore 4, 2) := by decide +kernel
theorem dX9_rests_16 : decode cX9_rests 16 = .ok (.iload 4, 2) := by decide +kernel
theorem dX9_rests_18 : decode cX9_rests 18 = .ok (.iconst 4, 1) := by decide +kernel
theorem dX9_rests_19 : decode cX9_rests 19 = .ok (.if_icmp .ge 44, 3) := by decide +kernel
theorem dX9_rests_22 : decode cX9_rests 22 = .ok (.aload_n 0, 1) := by decide +kernel
theorem dX9_rests_23 : decode cX9_rests 23 = .ok (.getfield 56, 3) := by decide +kernel
theorem dX9_rests_26 : decode cX9_rests 26 = .ok (.getfield 142, 3) := by decide +kernel
theorem dX9_rests_29 : decode cX9_rests 29 = .ok (.iload_n 1, 1) := by decide +kernel
theorem dX9_rests_30 : decode cX9_rests 30 = .ok (.iaload, 1) := by decide +kernel
theorem dX9_rests_31 : decode cX9_rests 31 = .ok (.aload_n 0, 1) := by decide +kernel
theorem dX9_rests_32 : decode cX9_rests 32 = .ok (.getfield 56, 3) := by decide +kernel
theorem dX9_rests_35 : decode cX9_rests 35 = .ok (.getfield 142, 3) := by decide +kernel
theorem dX9_rests_38 : decode cX9_rests 38 = .ok (.iload_n 2, 1) := by decide +kernel
theorem dX9_rests_39 : decode cX9_rests 39 = .ok (.iaload, 1) := by decide +kernel
theorem dX9_rests_40 : decode cX9_rests 40 = .ok (.iload 4, 2) := by decide +kernel
theorem dX9_rests_42 : decode cX9_rests 42 = .ok (.iconst 1, 1) := by decide +kernel
theorem dX9_rests_43 : decode cX9_rests 43 = .ok (.ishr, 1) := by decide +kernel
theorem dX9_rests_44 : decode cX9_rests 44 = .ok (.iload 4, 2) := by decide +kernel
theorem dX9_rests_46 : decode cX9_rests 46 = .ok (.iconst 1, 1) := by decide +kernel
theorem dX9_rests_47 : decode cX9_rests 47 = .ok (.iand, 1) := by decide +kernel
theorem dX9_rests_48 : decode cX9_rests 48 = .ok (.invokestatic 261, 3) := by decide +kernel
theorem dX9_rests_51 : decode cX9_rests 51 = .ok (.ifCond .eq 6, 3) := by decide +kernel
theorem dX9_rests_54 : decode cX9_rests 54 = .ok (.iinc 3 1, 3) := by decide +kernel
theorem dX9_rests_57 : decode cX9_rests 57 = .ok (.iinc 4 1, 3) := by decide +kernel
theorem dX9_rests_60 : decode cX9_rests 60 = .ok (.goto (-44), 3) := by decide +kernel
theorem dX9_rests_63 : decode cX9_rests 63 = .ok (.iload_n 3, 1) := by decide +kernel
theorem dX9_rests_64 : decode cX9_rests 64 = .ok (.ireturn, 1) := by decide +kernel
theorem hd_X9_rests : yX9_rests.cls = xCn 9 ∧ yX9_rests.cls ≠ "java/lang/invoke/MethodHandle" ∧ yX9_rests.cls ≠ "java/lang/invoke/VarHandle" ∧ (parseMethodDescriptor yX9_rests.desc).map (fun d => d.parameters.length) = some 2 := by decide +kernel
def k_X9_rests_63 (sh : List xSh) (x3 : Int32) (d : xD) : Option (Int32 × xD) :=
  some (x3, d)
def k_X9_rests_57 (sh : List xSh) (rec16 : Nat → Int32 → Int32 → Int32 → Int32 → xD → Option (Int32 × xD)) (q0 : Nat) (x1 : Int32) (x2 : Int32) (x3 : Int32) (x4 : Int32) (d : xD) : Option (Int32 × xD) :=
  rec16 q0 x1 x2 x3 (x4 + 1) d
def b_X9_rests_16 (sh : List xSh) (rec16 : Nat → Int32 → Int32 → Int32 → Int32 → xD → Option (Int32 × xD)) (q0 : Nat) (x1 : Int32) (x2 : Int32) (x3 : Int32) (x4 : Int32) (d : xD) : Option (Int32 × xD) :=
  if (4 : Int32) ≤ x4 then (k_X9_rests_63 sh x3 d) else ((xgR 9 sh d q0 8).bind fun v1 => (xgR 4 sh d v1 8).bind fun v2 => (xaI .int sh d v2 x1).bind fun v3 => (xgR 9 sh d q0 8).bind fun v4 => (xgR 4 sh d v4 8).bind fun v5 => (xaI .int sh d v5 x2).bind fun v6 => (f_X9_isRest sh v3 v6 (x4 >>> ((1 : Int32) &&& 31)) (x4 &&& (1 : Int32)) d).bind fun z7 => if z7.1 = 0 then (k_X9_rests_57 sh rec16 q0 x1 x2 x3 x4 z7.2) else (k_X9_rests_57 sh rec16 q0 x1 x2 (x3 + 1) x4 z7.2))
def f_X9_rests (sh : List xSh) (q0 : Nat) (x1 : Int32) (x2 : Int32) (d : xD) : Option (Int32 × xD) :=
  (xon 9 sh q0 (f_X9_areTwo sh q0 x1 x2 d)).bind fun z8 => if z8.1 = 0 then (some ((-1 : Int32), z8.2)) else (xloop (fun _ _ _ _ _ _ => none) (b_X9_rests_16 sh) xF q0 x1 x2 (0 : Int32) (0 : Int32) z8.2)
set_option maxHeartbeats 4000000 in
set_option maxRecDepth 100000 in
theorem mt_X9_rests (l : Launch) (D : va_G) (cid : FieldType → ClassId) (b : Nat) (ex : Bool) (sa sv B0 : Nat) (sh : List xSh) (q0 : Nat) (x1 : Int32) (x2 : Int32) (d : xD) (r : Int32) (dz : xD) (hf : f_X9_rests sh q0 x1 x2 d = some (r, dz)) : xMet l yX9_rests cX9_rests 5 (some .int) 2 0 0 D cid b ex sa sv B0 [.ref (b + q0), .int x1, .int x2] sh d (some (.int r)) sh dz := by
  refine xMet.of (by decide) (Nat.le_of_ble_eq_true rfl) ?_
  intro p e s m below meth c ls A S hr hin G hl
  have hl : lv_has ls 5 [(0, .ref (b + q0)), (1, .int x1), (2, .int x2)] := hl
  generalize ([.ref (b + q0), .int x1, .int x2] : List Value).toArray = av at S ⊢
  have hx := S.1
  have hb := S.2.1
  have hml := S.2.2.1
  have hown := S.2.2.2.1
  have hts := S.2.2.2.2.1
  have K63 : ∀ (x3 : Int32) (d : xD), k_X9_rests_63 sh x3 d = some (r, dz) → ∀ (H : Heap) (locs : List Loc) (ls : Array Slot), lv_has ls 5 [(3, .int x3)] → xG D cid b A sh d s H locs → W p l e (xRm 2 0 0) s m av below meth c H locs 0 0 (MQ below (xQ D cid b ex A (some (.int r)) sh dz) av s 0 0 A) (F0 m 63 ls []) := by
    intro x3 d hf H locs ls hl G
    unfold k_X9_rests_63 at hf
    refine lv_iload_n hx hb dX9_rests_63 rfl (lv_at hl 0 rfl) ?_
    cases hf
    exact xr_iret S G (fun _ => rfl) hr dX9_rests_64
  have K57 : ∀ (rec16 : Nat → Int32 → Int32 → Int32 → Int32 → xD → Option (Int32 × xD)) (hrec16 : ∀ (q0 : Nat) (x1 : Int32) (x2 : Int32) (x3 : Int32) (x4 : Int32) (d : xD), rec16 q0 x1 x2 x3 x4 d = some (r, dz) → ∀ (H : Heap) (locs : List Loc) (ls : Array Slot), lv_has ls 5 [(0, .ref (b + q0)), (1, .int x1), (2, .int x2), (3, .int x3), (4, .int x4)] → xG D cid b A sh d s H locs → W p l e (xRm 2 0 0) s m av below meth c H locs 0 0 (MQ below (xQ D cid b ex A (some (.int r)) sh dz) av s 0 0 A) (F0 m 16 ls [])) (q0 : Nat) (x1 : Int32) (x2 : Int32) (x3 : Int32) (x4 : Int32) (d : xD), k_X9_rests_57 sh rec16 q0 x1 x2 x3 x4 d = some (r, dz) → ∀ (H : Heap) (locs : List Loc) (ls : Array Slot), lv_has ls 5 [(0, .ref (b + q0)), (1, .int x1), (2, .int x2), (3, .int x3), (4, .int x4)] → xG D cid b A sh d s H locs → W p l e (xRm 2 0 0) s m av below meth c H locs 0 0 (MQ below (xQ D cid b ex A (some (.int r)) sh dz) av s 0 0 A) (F0 m 57 ls []) := by
    intro rec16 hrec16 q0 x1 x2 x3 x4 d hf H locs ls hl G
    unfold k_X9_rests_57 at hf
    refine lv_iinc (v := (x4 + 1)) (lv' := [(4, .int (x4 + 1)), (0, .ref (b + q0)), (1, .int x1), (2, .int x2), (3, .int x3)]) hx hb dX9_rests_57 hl (k := 4) rfl rfl (by decide) rfl (fun ls hl => ?_)
    refine lv_goto (tgt := 16) hx hb dX9_rests_60 (by decide) ?_
    exact hrec16 q0 x1 x2 x3 (x4 + 1) d hf _ _ ls (lv_sub hl [1, 2, 3, 4, 0] rfl) G
  have K16 : ∀ (n : Nat) (q0 : Nat) (x1 : Int32) (x2 : Int32) (x3 : Int32) (x4 : Int32) (d : xD), xloop (fun _ _ _ _ _ _ => none) (b_X9_rests_16 sh) n q0 x1 x2 x3 x4 d = some (r, dz) → ∀ (H : Heap) (locs : List Loc) (ls : Array Slot), lv_has ls 5 [(0, .ref (b + q0)), (1, .int x1), (2, .int x2), (3, .int x3), (4, .int x4)] → xG D cid b A sh d s H locs → W p l e (xRm 2 0 0) s m av below meth c H locs 0 0 (MQ below (xQ D cid b ex A (some (.int r)) sh dz) av s 0 0 A) (F0 m 16 ls []) := by
    intro n
    induction n with
    | zero =>
      intro q0 x1 x2 x3 x4 d hf
      have hf : (none : Option (Int32 × xD)) = some (r, dz) := hf
      cases hf
    | succ n hrec16 =>
      intro q0 x1 x2 x3 x4 d hf H locs ls hl G
      have hf : b_X9_rests_16 sh (xloop (fun _ _ _ _ _ _ => none) (b_X9_rests_16 sh) n) q0 x1 x2 x3 x4 d = some (r, dz) := hf
      unfold b_X9_rests_16 at hf
      refine lv_iload hx hb dX9_rests_16 (lv_at hl 4 rfl) ?_
      refine lv_iconst (v := (4 : Int32)) hx hb dX9_rests_18 (by decide) ?_
      refine lv_icmp_ge (tgt := 63) hx hb dX9_rests_19 (by decide) (fun c => ?_) (fun c => ?_)
      · have hf := x_pos c hf
        exact K63 x3 d hf _ _ ls (lv_sub hl [3] rfl) G
      · have hf := x_neg c hf
        refine lv_aload_n hx hb dX9_rests_22 rfl (lv_at hl 0 rfl) ?_
        obtain ⟨v1, hv1, hf⟩ := x_ob hf
        refine xr_getR (ci := 9) (k := 8) S G hv1 rfl kw_489 dX9_rests_23 ?_
        obtain ⟨v2, hv2, hf⟩ := x_ob hf
        refine xr_getR (ci := 4) (k := 8) S G hv2 rfl kw_338 dX9_rests_26 ?_
        refine lv_iload_n hx hb dX9_rests_29 rfl (lv_at hl 1 rfl) ?_
        obtain ⟨v3, hv3, hf⟩ := x_ob hf
        refine xr_iald S G hv3 dX9_rests_30 ?_
        refine lv_aload_n hx hb dX9_rests_31 rfl (lv_at hl 0 rfl) ?_
        obtain ⟨v4, hv4, hf⟩ := x_ob hf
        refine xr_getR (ci := 9) (k := 8) S G hv4 rfl kw_489 dX9_rests_32 ?_
        obtain ⟨v5, hv5, hf⟩ := x_ob hf
        refine xr_getR (ci := 4) (k := 8) S G hv5 rfl kw_338 dX9_rests_35 ?_
        refine lv_iload_n hx hb dX9_rests_38 rfl (lv_at hl 2 rfl) ?_
        obtain ⟨v6, hv6, hf⟩ := x_ob hf
        refine xr_iald S G hv6 dX9_rests_39 ?_
        refine lv_iload hx hb dX9_rests_40 (lv_at hl 4 rfl) ?_
        refine lv_iconst (v := (1 : Int32)) hx hb dX9_rests_42 (by decide) ?_
        refine lv_ishr hx hb dX9_rests_43 ?_
        refine lv_iload hx hb dX9_rests_44 (lv_at hl 4 rfl) ?_
        refine lv_iconst (v := (1 : Int32)) hx hb dX9_rests_46 (by decide) ?_
        refine lv_iand hx hb dX9_rests_47 ?_
        obtain ⟨z7, hz7, hf⟩ := x_ob hf
        refine xr_callS (As := [.int v3, .int v6, .int (x4 >>> ((1 : Int32) &&& 31)), .int (x4 &&& (1 : Int32))]) (rest := []) (st1 := [.int z7.1]) S G hl.1 (fun _ => rfl) (mt_X9_isRest l D cid b ex sa sv B0 sh v3 v6 (x4 >>> ((1 : Int32) &&& 31)) (x4 &&& (1 : Int32)) d _ _ hz7) kw_951 kw_952 kw_1 kw_953 hd_X9_isRest ⟨Nat.le_of_ble_eq_true rfl, Nat.le_of_ble_eq_true rfl⟩ rfl rfl rfl (Nat.le_of_ble_eq_true rfl) ⟨Nat.le_of_ble_eq_true rfl, Nat.le_of_ble_eq_true rfl⟩ dX9_rests_48 (fun H locs G => ?_)
        refine lv_if_eq (tgt := 57) hx hb dX9_rests_51 (by decide) (fun c => ?_) (fun c => ?_)
        · have hf := x_pos c hf
          exact K57 _ hrec16 q0 x1 x2 x3 x4 z7.2 hf _ _ ls (lv_sub hl [0, 1, 2, 3, 4] rfl) G
        · have hf := x_neg c hf
          refine lv_iinc (v := (x3 + 1)) (lv' := [(3, .int (x3 + 1)), (0, .ref (b + q0)), (1, .int x1), (2, .int x2), (4, .int x4)]) hx hb dX9_rests_54 hl (k := 3) rfl rfl (by decide) rfl (fun ls hl => ?_)
          exact K57 _ hrec16 q0 x1 x2 (x3 + 1) x4 z7.2 hf _ _ ls (lv_sub hl [1, 2, 3, 0, 4] rfl) G
  unfold f_X9_rests at hf
  refine lv_aload_n hx hb dX9_rests_0 rfl (lv_at hl 0 rfl) ?_
  refine lv_iload_n hx hb dX9_rests_1 rfl (lv_at hl 1 rfl) ?_
  refine lv_iload_n hx hb dX9_rests_2 rfl (lv_at hl 2 rfl) ?_
  obtain ⟨z8, hz8, hf⟩ := x_ob hf
  obtain ⟨hqz8, hz8⟩ := xon_of hz8
  refine xr_callV (ci := 9) (As := [.int x1, .int x2]) (rest := []) (st1 := [.int z8.1]) S G hl.1 (fun _ => rfl) (mt_X9_areTwo l D cid b ex sa sv B0 sh q0 x1 x2 d _ _ hz8) hqz8 (by decide) kw_910 kw_912 ks_29 kw_1 kw_913 hd_X9_areTwo ⟨Nat.le_of_ble_eq_true rfl, Nat.le_of_ble_eq_true rfl⟩ rfl rfl rfl (Nat.le_of_ble_eq_true rfl) ⟨Nat.le_of_ble_eq_true rfl, Nat.le_of_ble_eq_true rfl⟩ dX9_rests_3 (fun H locs G => ?_)
  refine lv_if_ne (tgt := 11) hx hb dX9_rests_6 (by decide) (fun c => ?_) (fun c => ?_)
  · have hf := x_neg c hf
    refine lv_iconst (v := (0 : Int32)) hx hb dX9_rests_11 (by decide) ?_
    refine lv_istore_n (lv' := [(3, .int (0 : Int32)), (0, .ref (b + q0)), (1, .int x1), (2, .int x2)]) hx hb dX9_rests_12 rfl hl (by decide) rfl (fun ls hl => ?_)
    refine lv_iconst (v := (0 : Int32)) hx hb dX9_rests_13 (by decide) ?_
    refine lv_istore (lv' := [(4, .int (0 : Int32)), (3, .int (0 : Int32)), (0, .ref (b + q0)), (1, .int x1), (2, .int x2)]) hx hb dX9_rests_14 hl (by decide) rfl (fun ls hl => ?_)
    exact K16 xF q0 x1 x2 (0 : Int32) (0 : Int32) z8.2 hf _ _ ls (lv_sub hl [2, 3, 4, 1, 0] rfl) G
  · have hf := x_pos c hf
    refine lv_iconst (v := (-1 : Int32)) hx hb dX9_rests_9 (by decide) ?_
    cases hf
    exact xr_iret S G (fun _ => rfl) hr dX9_rests_10
-- HalfLandings.rest(III)I
theorem dX9_rest_0 : decode cX9_rest 0 = .ok (.aload_n 0, 1) := by decide +kernel
theorem dX9_rest_1 : decode cX9_rest 1 = .ok (.iload_n 1, 1) := by decide +kernel
theorem dX9_rest_2 : decode cX9_rest 2 = .ok (.iload_n 2, 1) := by decide +kernel
theorem dX9_rest_3 : decode cX9_rest 3 = .ok (.invokevirtual 240, 3) := by decide +kernel
theorem dX9_rest_6 : decode cX9_rest 6 = .ok (.ifCond .eq 7, 3) := by decide +kernel
theorem dX9_rest_9 : decode cX9_rest 9 = .ok (.iload_n 3, 1) := by decide +kernel
theorem dX9_rest_10 : decode cX9_rest 10 = .ok (.ifCond .ge 5, 3) := by decide +kernel
theorem dX9_rest_13 : decode cX9_rest 13 = .ok (.iconst (-1), 1) := by decide +kernel
theorem dX9_rest_14 : decode cX9_rest 14 = .ok (.ireturn, 1) := by decide +kernel
theorem dX9_rest_15 : decode cX9_rest 15 = .ok (.iconst 0, 1) := by decide +kernel
theorem dX9_rest_16 : decode cX9_rest 16 = .ok (.istore 4, 2) := by decide +kernel
theorem dX9_rest_18 : decode cX9_rest 18 = .ok (.iconst 0, 1) := by decide +kernel
theorem dX9_rest_19 : decode cX9_rest 19 = .ok (.istore 5, 2) := by decide +kernel
theorem dX9_rest_21 : decode cX9_rest 21 = .ok (.iload 5, 2) := by decide +kernel
theorem dX9_rest_23 : decode cX9_rest 23 = .ok (.iconst 4, 1) := by decide +kernel
theorem dX9_rest_24 : decode cX9_rest 24 = .ok (.if_icmp .ge 63, 3) := by decide +kernel
theorem dX9_rest_27 : decode cX9_rest 27 = .ok (.aload_n 0, 1) := by decide +kernel
theorem dX9_rest_28 : decode cX9_rest 28 = .ok (.getfield 56, 3) := by decide +kernel
theorem dX9_rest_31 : decode cX9_rest 31 = .ok (.getfield 142, 3) := by decide +kernel
theorem dX9_rest_34 : decode cX9_rest 34 = .ok (.iload_n 1, 1) := by decide +kernel
theorem dX9_rest_35 : decode cX9_rest 35 = .ok (.iaload, 1) := by decide +kernel
theorem dX9_rest_36 : decode cX9_rest 36 = .ok (.aload_n 0, 1) := by decide +kernel
theorem dX9_rest_37 : decode cX9_rest 37 = .ok (.getfield 56, 3) := by decide +kernel
theorem dX9_rest_40 : decode cX9_rest 40 = .ok (.getfield 142, 3) := by decide +kernel
theorem dX9_rest_43 : decode cX9_rest 43 = .ok (.iload_n 2, 1) := by decide +kernel
theorem dX9_rest_44 : decode cX9_rest 44 = .ok (.iaload, 1) := by decide +kernel
theorem dX9_rest_45 : decode cX9_rest 45 = .ok (.iload 5, 2) := by decide +kernel
theorem dX9_rest_47 : decode cX9_rest 47 = .ok (.iconst 1, 1) := by decide +kernel
theorem dX9_rest_48 : decode cX9_rest 48 = .ok (.ishr, 1) := by decide +kernel
theorem dX9_rest_49 : decode cX9_rest 49 = .ok (.iload 5, 2) := by decide +kernel
theorem dX9_rest_51 : decode cX9_rest 51 = .ok (.iconst 1, 1) := by decide +kernel
theorem dX9_rest_52 : decode cX9_rest 52 = .ok (.iand, 1) := by decide +kernel
theorem dX9_rest_53 : decode cX9_rest 53 = .ok (.invokestatic 261, 3) := by decide +kernel
theorem dX9_rest_56 : decode cX9_rest 56 = .ok (.ifCond .eq 25, 3) := by decide +kernel
theorem dX9_rest_59 : decode cX9_rest 59 = .ok (.iload 4, 2) := by decide +kernel
theorem dX9_rest_61 : decode cX9_rest 61 = .ok (.iload_n 3, 1) := by decide +kernel
theorem dX9_rest_62 : decode cX9_rest 62 = .ok (.if_icmp .ne 16, 3) := by decide +kernel
theorem dX9_rest_65 : decode cX9_rest 65 = .ok (.bipush 10, 2) := by decide +kernel
theorem dX9_rest_67 : decode cX9_rest 67 = .ok (.iload 5, 2) := by decide +kernel
theorem dX9_rest_69 : decode cX9_rest 69 = .ok (.iconst 1, 1) := by decide +kernel
theorem dX9_rest_70 : decode cX9_rest 70 = .ok (.ishr, 1) := by decide +kernel
theorem dX9_rest_71 : decode cX9_rest 71 = .ok (.imul, 1) := by decide +kernel
theorem dX9_rest_72 : decode cX9_rest 72 = .ok (.iload 5, 2) := by decide +kernel
theorem dX9_rest_74 : decode cX9_rest 74 = .ok (.iconst 1, 1) := by decide +kernel
theorem dX9_rest_75 : decode cX9_rest 75 = .ok (.iand, 1) := by decide +kernel
theorem dX9_rest_76 : decode cX9_rest 76 = .ok (.iadd, 1) := by decide +kernel
theorem dX9_rest_77 : decode cX9_rest 77 = .ok (.ireturn, 1) := by decide +kernel
theorem dX9_rest_78 : decode cX9_rest 78 = .ok (.iinc 4 1, 3) := by decide +kernel
theorem dX9_rest_81 : decode cX9_rest 81 = .ok (.iinc 5 1, 3) := by decide +kernel
theorem dX9_rest_84 : decode cX9_rest 84 = .ok (.goto (-63), 3) := by decide +kernel
theorem dX9_rest_87 : decode cX9_rest 87 = .ok (.bipush (-2), 2) := by decide +kernel
theorem dX9_rest_89 : decode cX9_rest 89 = .ok (.ireturn, 1) := by decide +kernel
theorem hd_X9_rest : yX9_rest.cls = xCn 9 ∧ yX9_rest.cls ≠ "java/lang/invoke/MethodHandle" ∧ yX9_rest.cls ≠ "java/lang/invoke/VarHandle" ∧ (parseMethodDescriptor yX9_rest.desc).map (fun d => d.parameters.length) = some 3 := by decide +kernel
def k_X9_rest_13 (sh : List xSh) (d : xD) : Option (Int32 × xD) :=
  some ((-1 : Int32), d)
def k_X9_rest_87 (sh : List xSh) (d : xD) : Option (Int32 × xD) :=
  some ((-2 : Int32), d)
def k_X9_rest_81 (sh : List xSh) (rec21 : Nat → Int32 → Int32 → Int32 → Int32 → Int32 → xD → Option (Int32 × xD)) (q0 : Nat) (x1 : Int32) (x2 : Int32) (x3 : Int32) (x4 : Int32) (x5 : Int32) (d : xD) : Option (Int32 × xD) :=
  rec21 q0 x1 x2 x3 x4 (x5 + 1) d
def k_X9_rest_65 (sh : List xSh) (x5 : Int32) (d : xD) : Option (Int32 × xD) :=
  some ((((10 : Int32) * (x5 >>> ((1 : Int32) &&& 31))) + (x5 &&& (1 : Int32))), d)
def b_X9_rest_21 (sh : List xSh) (rec21 : Nat → Int32 → Int32 → Int32 → Int32 → Int32 → xD → Option (Int32 × xD)) (q0 : Nat) (x1 : Int32) (x2 : Int32) (x3 : Int32) (x4 : Int32) (x5 : Int32) (d : xD) : Option (Int32 × xD) :=
  if (4 : Int32) ≤ x5 then (k_X9_rest_87 sh d) else ((xgR 9 sh d q0 8).bind fun v1 => (xgR 4 sh d v1 8).bind fun v2 => (xaI .int sh d v2 x1).bind fun v3 => (xgR 9 sh d q0 8).bind fun v4 => (xgR 4 sh d v4 8).bind fun v5 => (xaI .int sh d v5 x2).bind fun v6 => (f_X9_isRest sh v3 v6 (x5 >>> ((1 : Int32) &&& 31)) (x5 &&& (1 : Int32)) d).bind fun z7 => if z7.1 = 0 then (k_X9_rest_81 sh rec21 q0 x1 x2 x3 x4 x5 z7.2) else (if x4 = x3 then (k_X9_rest_65 sh x5 z7.2) else (k_X9_rest_81 sh rec21 q0 x1 x2 x3 (x4 + 1) x5 z7.2)))
def f_X9_rest (sh : List xSh) (q0 : Nat) (x1 : Int32) (x2 : Int32) (x3 : Int32) (d : xD) : Option (Int32 × xD) :=
  (xon 9 sh q0 (f_X9_areTwo sh q0 x1 x2 d)).bind fun z8 => if z8.1 = 0 then (k_X9_rest_13 sh z8.2) else (if 0 ≤ x3 then (xloop (fun _ _ _ _ _ _ _ => none) (b_X9_rest_21 sh) xF q0 x1 x2 x3 (0 : Int32) (0 : Int32) z8.2) else (k_X9_rest_13 sh z8.2))
set_option maxHeartbeats 4000000 in
set_option maxRecDepth 100000 in
theorem mt_X9_rest (l : Launch) (D : va_G) (cid : FieldType → ClassId) (b : Nat) (ex : Bool) (sa sv B0 : Nat) (sh : List xSh) (q0 : Nat) (x1 : Int32) (x2 : Int32) (x3 : Int32) (d : xD) (r : Int32) (dz : xD) (hf : f_X9_rest sh q0 x1 x2 x3 d = some (r, dz)) : xMet l yX9_rest cX9_rest 6 (some .int) 2 0 0 D cid b ex sa sv B0 [.ref (b + q0), .int x1, .int x2, .int x3] sh d (some (.int r)) sh dz := by
  refine xMet.of (by decide) (Nat.le_of_ble_eq_true rfl) ?_
  intro p e s m below meth c ls A S hr hin G hl
  have hl : lv_has ls 6 [(0, .ref (b + q0)), (1, .int x1), (2, .int x2), (3, .int x3)] := hl
  generalize ([.ref (b + q0), .int x1, .int x2, .int x3] : List Value).toArray = av at S ⊢
  have hx := S.1
  have hb := S.2.1
  have hml := S.2.2.1
  have hown := S.2.2.2.1
  have hts := S.2.2.2.2.1
  have K13 : ∀ (d : xD), k_X9_rest_13 sh d = some (r, dz) → ∀ (H : Heap) (locs : List Loc) (ls : Array Slot), lv_has ls 6 [] → xG D cid b A sh d s H locs → W p l e (xRm 2 0 0) s m av below meth c H locs 0 0 (MQ below (xQ D cid b ex A (some (.int r)) sh dz) av s 0 0 A) (F0 m 13 ls []) := by
    intro d hf H locs ls hl G
    unfold k_X9_rest_13 at hf
    refine lv_iconst (v := (-1 : Int32)) hx hb dX9_rest_13 (by decide) ?_
    cases hf
    exact xr_iret S G (fun _ => rfl) hr dX9_rest_14
  have K87 : ∀ (d : xD), k_X9_rest_87 sh d = some (r, dz) → ∀ (H : Heap) (locs : List Loc) (ls : Array Slot), lv_has ls 6 [] → xG D cid b A sh d s H locs → W p l e (xRm 2 0 0) s m av below meth c H locs 0 0 (MQ below (xQ D cid b ex A (some (.int r)) sh dz) av s 0 0 A) (F0 m 87 ls []) := by
    intro d hf H locs ls hl G
    unfold k_X9_rest_87 at hf
    refine lv_bipush (v := (-2 : Int32)) hx hb dX9_rest_87 (by decide) ?_
    cases hf
    exact xr_iret S G (fun _ => rfl) hr dX9_rest_89
  have K81 : ∀ (rec21 : Nat → Int32 → Int32 → Int32 → Int32 → Int32 → xD → Option (Int32 × xD)) (hrec21 : ∀ (q0 : Nat) (x1 : Int32) (x2 : Int32) (x3 : Int32) (x4 : Int32) (x5 : Int32) (d : xD), rec21 q0 x1 x2 x3 x4 x5 d = some (r, dz) → ∀ (H : Heap) (locs : List Loc) (ls : Array Slot), lv_has ls 6 [(0, .ref (b + q0)), (1, .int x1), (2, .int x2), (3, .int x3), (4, .int x4), (5, .int x5)] → xG D cid b A sh d s H locs → W p l e (xRm 2 0 0) s m av below meth c H locs 0 0 (MQ below (xQ D cid b ex A (some (.int r)) sh dz) av s 0 0 A) (F0 m 21 ls [])) (q0 : Nat) (x1 : Int32) (x2 : Int32) (x3 : Int32) (x4 : Int32) (x5 : Int32) (d : xD), k_X9_rest_81 sh rec21 q0 x1 x2 x3 x4 x5 d = some (r, dz) → ∀ (H : Heap) (locs : List Loc) (ls : Array Slot), lv_has ls 6 [(0, .ref (b + q0)), (1, .int x1), (2, .int x2), (3, .int x3), (4, .int x4), (5, .int x5)] → xG D cid b A sh d s H locs → W p l e (xRm 2 0 0) s m av below meth c H locs 0 0 (MQ below (xQ D cid b ex A (some (.int r)) sh dz) av s 0 0 A) (F0 m 81 ls []) := by
    intro rec21 hrec21 q0 x1 x2 x3 x4 x5 d hf H locs ls hl G
    unfold k_X9_rest_81 at hf
    refine lv_iinc (v := (x5 + 1)) (lv' := [(5, .int (x5 + 1)), (0, .ref (b + q0)), (1, .int x1), (2, .int x2), (3, .int x3), (4, .int x4)]) hx hb dX9_rest_81 hl (k := 5) rfl rfl (by decide) rfl (fun ls hl => ?_)
    refine lv_goto (tgt := 21) hx hb dX9_rest_84 (by decide) ?_
    exact hrec21 q0 x1 x2 x3 x4 (x5 + 1) d hf _ _ ls (lv_sub hl [1, 2, 3, 4, 5, 0] rfl) G
  have K65 : ∀ (x5 : Int32) (d : xD), k_X9_rest_65 sh x5 d = some (r, dz) → ∀ (H : Heap) (locs : List Loc) (ls : Array Slot), lv_has ls 6 [(5, .int x5)] → xG D cid b A sh d s H locs → W p l e (xRm 2 0 0) s m av below meth c H locs 0 0 (MQ below (xQ D cid b ex A (some (.int r)) sh dz) av s 0 0 A) (F0 m 65 ls []) := by
    intro x5 d hf H locs ls hl G
    unfold k_X9_rest_65 at hf
    refine lv_bipush (v := (10 : Int32)) hx hb dX9_rest_65 (by decide) ?_
    refine lv_iload hx hb dX9_rest_67 (lv_at hl 0 rfl) ?_
    refine lv_iconst (v := (1 : Int32)) hx hb dX9_rest_69 (by decide) ?_
    refine lv_ishr hx hb dX9_rest_70 ?_
    refine lv_imul hx hb dX9_rest_71 ?_
    refine lv_iload hx hb dX9_rest_72 (lv_at hl 0 rfl) ?_
    refine lv_iconst (v := (1 : Int32)) hx hb dX9_rest_74 (by decide) ?_
    refine lv_iand hx hb dX9_rest_75 ?_
    refine lv_iadd hx hb dX9_rest_76 ?_
    cases hf
    exact xr_iret S G (fun _ => rfl) hr dX9_rest_77
  have K21 : ∀ (n : Nat) (q0 : Nat) (x1 : Int32) (x2 : Int32) (x3 : Int32) (x4 : Int32) (x5 : Int32) (d : xD), xloop (fun _ _ _ _ _ _ _ => none) (b_X9_rest_21 sh) n q0 x1 x2 x3 x4 x5 d = some (r, dz) → ∀ (H : Heap) (locs : List Loc) (ls : Array Slot), lv_has ls 6 [(0, .ref (b + q0)), (1, .int x1), (2, .int x2), (3, .int x3), (4, .int x4), (5, .int x5)] → xG D cid b A sh d s H locs → W p l e (xRm 2 0 0) s m av below meth c H locs 0 0 (MQ below (xQ D cid b ex A (some (.int r)) sh dz) av s 0 0 A) (F0 m 21 ls []) := by
    intro n
    induction n with
    | zero =>
      intro q0 x1 x2 x3 x4 x5 d hf
      have hf : (none : Option (Int32 × xD)) = some (r, dz) := hf
      cases hf
    | succ n hrec21 =>
      intro q0 x1 x2 x3 x4 x5 d hf H locs ls hl G
      have hf : b_X9_rest_21 sh (xloop (fun _ _ _ _ _ _ _ => none) (b_X9_rest_21 sh) n) q0 x1 x2 x3 x4 x5 d = some (r, dz) := hf
      unfold b_X9_rest_21 at hf
      refine lv_iload hx hb dX9_rest_21 (lv_at hl 5 rfl) ?_
      refine lv_iconst (v := (4 : Int32)) hx hb dX9_rest_23 (by decide) ?_
      refine lv_icmp_ge (tgt := 87) hx hb dX9_rest_24 (by decide) (fun c => ?_) (fun c => ?_)
      · have hf := x_pos c hf
        exact K87 d hf _ _ ls (lv_sub hl [] rfl) G
      · have hf := x_neg c hf
        refine lv_aload_n hx hb dX9_rest_27 rfl (lv_at hl 0 rfl) ?_
        obtain ⟨v1, hv1, hf⟩ := x_ob hf
        refine xr_getR (ci := 9) (k := 8) S G hv1 rfl kw_489 dX9_rest_28 ?_
        obtain ⟨v2, hv2, hf⟩ := x_ob hf
        refine xr_getR (ci := 4) (k := 8) S G hv2 rfl kw_338 dX9_rest_31 ?_
        refine lv_iload_n hx hb dX9_rest_34 rfl (lv_at hl 1 rfl) ?_
        obtain ⟨v3, hv3, hf⟩ := x_ob hf
        refine xr_iald S G hv3 dX9_rest_35 ?_
        refine lv_aload_n hx hb dX9_rest_36 rfl (lv_at hl 0 rfl) ?_
        obtain ⟨v4, hv4, hf⟩ := x_ob hf
        refine xr_getR (ci := 9) (k := 8) S G hv4 rfl kw_489 dX9_rest_37 ?_
        obtain ⟨v5, hv5, hf⟩ := x_ob hf
        refine xr_getR (ci := 4) (k := 8) S G hv5 rfl kw_338 dX9_rest_40 ?_
        refine lv_iload_n hx hb dX9_rest_43 rfl (lv_at hl 2 rfl) ?_
        obtain ⟨v6, hv6, hf⟩ := x_ob hf
        refine xr_iald S G hv6 dX9_rest_44 ?_
        refine lv_iload hx hb dX9_rest_45 (lv_at hl 5 rfl) ?_
        refine lv_iconst (v := (1 : Int32)) hx hb dX9_rest_47 (by decide) ?_
        refine lv_ishr hx hb dX9_rest_48 ?_
        refine lv_iload hx hb dX9_rest_49 (lv_at hl 5 rfl) ?_
        refine lv_iconst (v := (1 : Int32)) hx hb dX9_rest_51 (by decide) ?_
        refine lv_iand hx hb dX9_rest_52 ?_
        obtain ⟨z7, hz7, hf⟩ := x_ob hf
        refine xr_callS (As := [.int v3, .int v6, .int (x5 >>> ((1 : Int32) &&& 31)), .int (x5 &&& (1 : Int32))]) (rest := []) (st1 := [.int z7.1]) S G hl.1 (fun _ => rfl) (mt_X9_isRest l D cid b ex sa sv B0 sh v3 v6 (x5 >>> ((1 : Int32) &&& 31)) (x5 &&& (1 : Int32)) d _ _ hz7) kw_951 kw_952 kw_1 kw_953 hd_X9_isRest ⟨Nat.le_of_ble_eq_true rfl, Nat.le_of_ble_eq_true rfl⟩ rfl rfl rfl (Nat.le_of_ble_eq_true rfl) ⟨Nat.le_of_ble_eq_true rfl, Nat.le_of_ble_eq_true rfl⟩ dX9_rest_53 (fun H locs G => ?_)
        refine lv_if_eq (tgt := 81) hx hb dX9_rest_56 (by decide) (fun c => ?_) (fun c => ?_)
        · have hf := x_pos c hf
          exact K81 _ hrec21 q0 x1 x2 x3 x4 x5 z7.2 hf _ _ ls (lv_sub hl [0, 1, 2, 3, 4, 5] rfl) G
        · have hf := x_neg c hf
          refine lv_iload hx hb dX9_rest_59 (lv_at hl 4 rfl) ?_
          refine lv_iload_n hx hb dX9_rest_61 rfl (lv_at hl 3 rfl) ?_
          refine lv_icmp_ne (tgt := 78) hx hb dX9_rest_62 (by decide) (fun c => ?_) (fun c => ?_)
          · have hf := x_neg c hf
            refine lv_iinc (v := (x4 + 1)) (lv' := [(4, .int (x4 + 1)), (0, .ref (b + q0)), (1, .int x1), (2, .int x2), (3, .int x3), (5, .int x5)]) hx hb dX9_rest_78 hl (k := 4) rfl rfl (by decide) rfl (fun ls hl => ?_)
            exact K81 _ hrec21 q0 x1 x2 x3 (x4 + 1) x5 z7.2 hf _ _ ls (lv_sub hl [1, 2, 3, 4, 0, 5] rfl) G
          · have hf := x_pos c hf
            exact K65 x5 z7.2 hf _ _ ls (lv_sub hl [5] rfl) G
  unfold f_X9_rest at hf
  refine lv_aload_n hx hb dX9_rest_0 rfl (lv_at hl 0 rfl) ?_
  refine lv_iload_n hx hb dX9_rest_1 rfl (lv_at hl 1 rfl) ?_
  refine lv_iload_n hx hb dX9_rest_2 rfl (lv_at hl 2 rfl) ?_
  obtain ⟨z8, hz8, hf⟩ := x_ob hf
  obtain ⟨hqz8, hz8⟩ := xon_of hz8
  refine xr_callV (ci := 9) (As := [.int x1, .int x2]) (rest := []) (st1 := [.int z8.1]) S G hl.1 (fun _ => rfl) (mt_X9_areTwo l D cid b ex sa sv B0 sh q0 x1 x2 d _ _ hz8) hqz8 (by decide) kw_910 kw_912 ks_29 kw_1 kw_913 hd_X9_areTwo ⟨Nat.le_of_ble_eq_true rfl, Nat.le_of_ble_eq_true rfl⟩ rfl rfl rfl (Nat.le_of_ble_eq_true rfl) ⟨Nat.le_of_ble_eq_true rfl, Nat.le_of_ble_eq_true rfl⟩ dX9_rest_3 (fun H locs G => ?_)
  refine lv_if_eq (tgt := 13) hx hb dX9_rest_6 (by decide) (fun c => ?_) (fun c => ?_)
  · have hf := x_pos c hf
    exact K13 z8.2 hf _ _ ls (lv_sub hl [] rfl) G
  · have hf := x_neg c hf
    refine lv_iload_n hx hb dX9_rest_9 rfl (lv_at hl 3 rfl) ?_
    refine lv_if_ge (tgt := 15) hx hb dX9_rest_10 (by decide) (fun c => ?_) (fun c => ?_)
    · have hf := x_pos c hf
      refine lv_iconst (v := (0 : Int32)) hx hb dX9_rest_15 (by decide) ?_
      refine lv_istore (lv' := [(4, .int (0 : Int32)), (0, .ref (b + q0)), (1, .int x1), (2, .int x2), (3, .int x3)]) hx hb dX9_rest_16 hl (by decide) rfl (fun ls hl => ?_)
      refine lv_iconst (v := (0 : Int32)) hx hb dX9_rest_18 (by decide) ?_
      refine lv_istore (lv' := [(5, .int (0 : Int32)), (4, .int (0 : Int32)), (0, .ref (b + q0)), (1, .int x1), (2, .int x2), (3, .int x3)]) hx hb dX9_rest_19 hl (by decide) rfl (fun ls hl => ?_)
      exact K21 xF q0 x1 x2 x3 (0 : Int32) (0 : Int32) z8.2 hf _ _ ls (lv_sub hl [2, 3, 4, 5, 1, 0] rfl) G
    · have hf := x_neg c hf
      exact K13 z8.2 hf _ _ ls (lv_sub hl [] rfl) G
-- HalfLandings.inLeastTerms(II)I
theorem dX9_inLeastTerms_0 : decode cX9_inLeastTerms 0 = .ok (.bipush 100, 2) := by decide +kernel
theorem dX9_inLeastTerms_2 : decode cX9_inLeastTerms 2 = .ok (.istore_n 2, 1) := by decide +kernel
theorem dX9_inLeastTerms_3 : decode cX9_inLeastTerms 3 = .ok (.iload_n 2, 1) := by decide +kernel
theorem dX9_inLeastTerms_4 : decode cX9_inLeastTerms 4 = .ok (.iconst 1, 1) := by decide +kernel
theorem dX9_inLeastTerms_5 : decode cX9_inLeastTerms 5 = .ok (.if_icmp .le 25, 3) := by decide +kernel
theorem dX9_inLeastTerms_8 : decode cX9_inLeastTerms 8 = .ok (.iload_n 0, 1) := by decide +kernel
theorem dX9_inLeastTerms_9 : decode cX9_inLeastTerms 9 = .ok (.iload_n 2, 1) := by decide +kernel
theorem dX9_inLeastTerms_10 : decode cX9_inLeastTerms 10 = .ok (.irem, 1) := by decide +kernel
theorem dX9_inLeastTerms_11 : decode cX9_inLeastTerms 11 = .ok (.ifCond .ne 13, 3) := by decide +kernel
theorem dX9_inLeastTerms_14 : decode cX9_inLeastTerms 14 = .ok (.iload_n 1, 1) := by decide +kernel
theorem dX9_inLeastTerms_15 : decode cX9_inLeastTerms 15 = .ok (.iload_n 2, 1) := by decide +kernel
theorem dX9_inLeastTerms_16 : decode cX9_inLeastTerms 16 = .ok (.irem, 1) := by decide +kernel
theorem dX9_inLeastTerms_17 : decode cX9_inLeastTerms 17 = .ok (.ifCond .ne 7, 3) := by decide +kernel
theorem dX9_inLeastTerms_20 : decode cX9_inLeastTerms 20 = .ok (.iload_n 0, 1) := by decide +kernel
theorem dX9_inLeastTerms_21 : decode cX9_inLeastTerms 21 = .ok (.iload_n 2, 1) := by decide +kernel
theorem dX9_inLeastTerms_22 : decode cX9_inLeastTerms 22 = .ok (.idiv, 1) := by decide +kernel
theorem dX9_inLeastTerms_23 : decode cX9_inLeastTerms 23 = .ok (.ireturn, 1) := by decide +kernel
theorem dX9_inLeastTerms_24 : decode cX9_inLeastTerms 24 = .ok (.iinc 2 (-1), 3) := by decide +kernel
theorem dX9_inLeastTerms_27 : decode cX9_inLeastTerms 27 = .ok (.goto (-24), 3) := by decide +kernel
theorem dX9_inLeastTerms_30 : decode cX9_inLeastTerms 30 = .ok (.iload_n 0, 1) := by decide +kernel
theorem dX9_inLeastTerms_31 : decode cX9_inLeastTerms 31 = .ok (.ireturn, 1) := by decide +kernel
theorem hd_X9_inLeastTerms : yX9_inLeastTerms.cls ≠ "java/lang/invoke/MethodHandle" ∧ yX9_inLeastTerms.cls ≠ "java/lang/invoke/VarHandle" ∧ (parseMethodDescriptor yX9_inLeastTerms.desc).map (fun d => d.parameters.length) = some 2 := by decide +kernel
def k_X9_inLeastTerms_30 (sh : List xSh) (x0 : Int32) (d : xD) : Option (Int32 × xD) :=
  some (x0, d)
def k_X9_inLeastTerms_24 (sh : List xSh) (rec3 : Int32 → Int32 → Int32 → xD → Option (Int32 × xD)) (x0 : Int32) (x1 : Int32) (x2 : Int32) (d : xD) : Option (Int32 × xD) :=
  rec3 x0 x1 (x2 + (-1)) d
def k_X9_inLeastTerms_20 (sh : List xSh) (x0 : Int32) (x2 : Int32) (d : xD) : Option (Int32 × xD) :=
  (xdI x0 x2).bind fun v1 => some (v1, d)
def b_X9_inLeastTerms_3 (sh : List xSh) (rec3 : Int32 → Int32 → Int32 → xD → Option (Int32 × xD)) (x0 : Int32) (x1 : Int32) (x2 : Int32) (d : xD) : Option (Int32 × xD) :=
  if x2 ≤ (1 : Int32) then (k_X9_inLeastTerms_30 sh x0 d) else ((xmI x0 x2).bind fun v2 => if v2 = 0 then ((xmI x1 x2).bind fun v3 => if v3 = 0 then (k_X9_inLeastTerms_20 sh x0 x2 d) else (k_X9_inLeastTerms_24 sh rec3 x0 x1 x2 d)) else (k_X9_inLeastTerms_24 sh rec3 x0 x1 x2 d))
def f_X9_inLeastTerms (sh : List xSh) (x0 : Int32) (x1 : Int32) (d : xD) : Option (Int32 × xD) :=
  xloop (fun _ _ _ _ => none) (b_X9_inLeastTerms_3 sh) xF x0 x1 (100 : Int32) d
set_option maxHeartbeats 4000000 in
set_option maxRecDepth 100000 in
theorem mt_X9_inLeastTerms (l : Launch) (D : va_G) (cid : FieldType → ClassId) (b : Nat) (ex : Bool) (sa sv B0 : Nat) (sh : List xSh) (x0 : Int32) (x1 : Int32) (d : xD) (r : Int32) (dz : xD) (hf : f_X9_inLeastTerms sh x0 x1 d = some (r, dz)) : xMet l yX9_inLeastTerms cX9_inLeastTerms 3 (some .int) 0 0 0 D cid b ex sa sv B0 [.int x0, .int x1] sh d (some (.int r)) sh dz := by
  refine xMet.of (by decide) (Nat.le_of_ble_eq_true rfl) ?_
  intro p e s m below meth c ls A S hr hin G hl
  have hl : lv_has ls 3 [(0, .int x0), (1, .int x1)] := hl
  generalize ([.int x0, .int x1] : List Value).toArray = av at S ⊢
  have hx := S.1
  have hb := S.2.1
  have hml := S.2.2.1
  have hown := S.2.2.2.1
  have hts := S.2.2.2.2.1
  have K30 : ∀ (x0 : Int32) (d : xD), k_X9_inLeastTerms_30 sh x0 d = some (r, dz) → ∀ (H : Heap) (locs : List Loc) (ls : Array Slot), lv_has ls 3 [(0, .int x0)] → xG D cid b A sh d s H locs → W p l e (xRm 0 0 0) s m av below meth c H locs 0 0 (MQ below (xQ D cid b ex A (some (.int r)) sh dz) av s 0 0 A) (F0 m 30 ls []) := by
    intro x0 d hf H locs ls hl G
    unfold k_X9_inLeastTerms_30 at hf
    refine lv_iload_n hx hb dX9_inLeastTerms_30 rfl (lv_at hl 0 rfl) ?_
    cases hf
    exact xr_iret S G (fun _ => rfl) hr dX9_inLeastTerms_31
  have K24 : ∀ (rec3 : Int32 → Int32 → Int32 → xD → Option (Int32 × xD)) (hrec3 : ∀ (x0 : Int32) (x1 : Int32) (x2 : Int32) (d : xD), rec3 x0 x1 x2 d = some (r, dz) → ∀ (H : Heap) (locs : List Loc) (ls : Array Slot), lv_has ls 3 [(0, .int x0), (1, .int x1), (2, .int x2)] → xG D cid b A sh d s H locs → W p l e (xRm 0 0 0) s m av below meth c H locs 0 0 (MQ below (xQ D cid b ex A (some (.int r)) sh dz) av s 0 0 A) (F0 m 3 ls [])) (x0 : Int32) (x1 : Int32) (x2 : Int32) (d : xD), k_X9_inLeastTerms_24 sh rec3 x0 x1 x2 d = some (r, dz) → ∀ (H : Heap) (locs : List Loc) (ls : Array Slot), lv_has ls 3 [(0, .int x0), (1, .int x1), (2, .int x2)] → xG D cid b A sh d s H locs → W p l e (xRm 0 0 0) s m av below meth c H locs 0 0 (MQ below (xQ D cid b ex A (some (.int r)) sh dz) av s 0 0 A) (F0 m 24 ls []) := by
    intro rec3 hrec3 x0 x1 x2 d hf H locs ls hl G
    unfold k_X9_inLeastTerms_24 at hf
    refine lv_iinc (v := (x2 + (-1))) (lv' := [(2, .int (x2 + (-1))), (0, .int x0), (1, .int x1)]) hx hb dX9_inLeastTerms_24 hl (k := 2) rfl rfl (by decide) rfl (fun ls hl => ?_)
    refine lv_goto (tgt := 3) hx hb dX9_inLeastTerms_27 (by decide) ?_
    exact hrec3 x0 x1 (x2 + (-1)) d hf _ _ ls (lv_sub hl [1, 2, 0] rfl) G
  have K20 : ∀ (x0 : Int32) (x2 : Int32) (d : xD), k_X9_inLeastTerms_20 sh x0 x2 d = some (r, dz) → ∀ (H : Heap) (locs : List Loc) (ls : Array Slot), lv_has ls 3 [(0, .int x0), (2, .int x2)] → xG D cid b A sh d s H locs → W p l e (xRm 0 0 0) s m av below meth c H locs 0 0 (MQ below (xQ D cid b ex A (some (.int r)) sh dz) av s 0 0 A) (F0 m 20 ls []) := by
    intro x0 x2 d hf H locs ls hl G
    unfold k_X9_inLeastTerms_20 at hf
    refine lv_iload_n hx hb dX9_inLeastTerms_20 rfl (lv_at hl 0 rfl) ?_
    refine lv_iload_n hx hb dX9_inLeastTerms_21 rfl (lv_at hl 1 rfl) ?_
    obtain ⟨v1, hv1, hf⟩ := x_ob hf
    refine xr_idiv hx hb hv1 dX9_inLeastTerms_22 ?_
    cases hf
    exact xr_iret S G (fun _ => rfl) hr dX9_inLeastTerms_23
  have K3 : ∀ (n : Nat) (x0 : Int32) (x1 : Int32) (x2 : Int32) (d : xD), xloop (fun _ _ _ _ => none) (b_X9_inLeastTerms_3 sh) n x0 x1 x2 d = some (r, dz) → ∀ (H : Heap) (locs : List Loc) (ls : Array Slot), lv_has ls 3 [(0, .int x0), (1, .int x1), (2, .int x2)] → xG D cid b A sh d s H locs → W p l e (xRm 0 0 0) s m av below meth c H locs 0 0 (MQ below (xQ D cid b ex A (some (.int r)) sh dz) av s 0 0 A) (F0 m 3 ls []) := by
    intro n
    induction n with
    | zero =>
      intro x0 x1 x2 d hf
      have hf : (none : Option (Int32 × xD)) = some (r, dz) := hf
      cases hf
    | succ n hrec3 =>
      intro x0 x1 x2 d hf H locs ls hl G
      have hf : b_X9_inLeastTerms_3 sh (xloop (fun _ _ _ _ => none) (b_X9_inLeastTerms_3 sh) n) x0 x1 x2 d = some (r, dz) := hf
      unfold b_X9_inLeastTerms_3 at hf
      refine lv_iload_n hx hb dX9_inLeastTerms_3 rfl (lv_at hl 2 rfl) ?_
      refine lv_iconst (v := (1 : Int32)) hx hb dX9_inLeastTerms_4 (by decide) ?_
      refine lv_icmp_le (tgt := 30) hx hb dX9_inLeastTerms_5 (by decide) (fun c => ?_) (fun c => ?_)
      · have hf := x_pos c hf
        exact K30 x0 d hf _ _ ls (lv_sub hl [0] rfl) G
      · have hf := x_neg c hf
        refine lv_iload_n hx hb dX9_inLeastTerms_8 rfl (lv_at hl 0 rfl) ?_
        refine lv_iload_n hx hb dX9_inLeastTerms_9 rfl (lv_at hl 2 rfl) ?_
        obtain ⟨v2, hv2, hf⟩ := x_ob hf
        refine xr_irem hx hb hv2 dX9_inLeastTerms_10 ?_
        refine lv_if_ne (tgt := 24) hx hb dX9_inLeastTerms_11 (by decide) (fun c => ?_) (fun c => ?_)
        · have hf := x_neg c hf
          exact K24 _ hrec3 x0 x1 x2 d hf _ _ ls (lv_sub hl [0, 1, 2] rfl) G
        · have hf := x_pos c hf
          refine lv_iload_n hx hb dX9_inLeastTerms_14 rfl (lv_at hl 1 rfl) ?_
          refine lv_iload_n hx hb dX9_inLeastTerms_15 rfl (lv_at hl 2 rfl) ?_
          obtain ⟨v3, hv3, hf⟩ := x_ob hf
          refine xr_irem hx hb hv3 dX9_inLeastTerms_16 ?_
          refine lv_if_ne (tgt := 24) hx hb dX9_inLeastTerms_17 (by decide) (fun c => ?_) (fun c => ?_)
          · have hf := x_neg c hf
            exact K24 _ hrec3 x0 x1 x2 d hf _ _ ls (lv_sub hl [0, 1, 2] rfl) G
          · have hf := x_pos c hf
            exact K20 x0 x2 d hf _ _ ls (lv_sub hl [0, 2] rfl) G
  unfold f_X9_inLeastTerms at hf
  refine lv_bipush (v := (100 : Int32)) hx hb dX9_inLeastTerms_0 (by decide) ?_
  refine lv_istore_n (lv' := [(2, .int (100 : Int32)), (0, .int x0), (1, .int x1)]) hx hb dX9_inLeastTerms_2 rfl hl (by decide) rfl (fun ls hl => ?_)
  exact K3 xF x0 x1 (100 : Int32) d hf _ _ ls (lv_sub hl [1, 2, 0] rfl) G
-- HalfLandings.quiet(II)J
theorem dX9_quiet_0 : decode cX9_quiet 0 = .ok (.iload_n 1, 1) := by decide +kernel
theorem dX9_quiet_1 : decode cX9_quiet 1 = .ok (.ifCond .lt 18, 3) := by decide +kernel
theorem dX9_quiet_4 : decode cX9_quiet 4 = .ok (.iload_n 1, 1) := by decide +kernel
theorem dX9_quiet_5 : decode cX9_quiet 5 = .ok (.bipush 6, 2) := by decide +kernel
theorem dX9_quiet_7 : decode cX9_quiet 7 = .ok (.if_icmp .gt 12, 3) := by decide +kernel
theorem dX9_quiet_10 : decode cX9_quiet 10 = .ok (.iload_n 2, 1) := by decide +kernel
theorem dX9_quiet_11 : decode cX9_quiet 11 = .ok (.ifCond .lt 8, 3) := by decide +kernel
theorem dX9_quiet_14 : decode cX9_quiet 14 = .ok (.iload_n 2, 1) := by decide +kernel
theorem dX9_quiet_15 : decode cX9_quiet 15 = .ok (.iconst 1, 1) := by decide +kernel
theorem dX9_quiet_16 : decode cX9_quiet 16 = .ok (.if_icmp .le 7, 3) := by decide +kernel
theorem dX9_quiet_19 : decode cX9_quiet 19 = .ok (.ldc2_w 269, 3) := by decide +kernel
theorem dX9_quiet_22 : decode cX9_quiet 22 = .ok (.lreturn, 1) := by decide +kernel
theorem dX9_quiet_23 : decode cX9_quiet 23 = .ok (.bipush 100, 2) := by decide +kernel
theorem dX9_quiet_25 : decode cX9_quiet 25 = .ok (.aload_n 0, 1) := by decide +kernel
theorem dX9_quiet_26 : decode cX9_quiet 26 = .ok (.getfield 28, 3) := by decide +kernel
theorem dX9_quiet_29 : decode cX9_quiet 29 = .ok (.getfield 271, 3) := by decide +kernel
theorem dX9_quiet_32 : decode cX9_quiet 32 = .ok (.isub, 1) := by decide +kernel
theorem dX9_quiet_33 : decode cX9_quiet 33 = .ok (.istore_n 3, 1) := by decide +kernel
theorem dX9_quiet_34 : decode cX9_quiet 34 = .ok (.iload_n 2, 1) := by decide +kernel
theorem dX9_quiet_35 : decode cX9_quiet 35 = .ok (.ifCond .ne 12, 3) := by decide +kernel
theorem dX9_quiet_38 : decode cX9_quiet 38 = .ok (.iload_n 3, 1) := by decide +kernel
theorem dX9_quiet_39 : decode cX9_quiet 39 = .ok (.bipush 100, 2) := by decide +kernel
theorem dX9_quiet_41 : decode cX9_quiet 41 = .ok (.invokestatic 274, 3) := by decide +kernel
theorem dX9_quiet_44 : decode cX9_quiet 44 = .ok (.goto 9, 3) := by decide +kernel
theorem dX9_quiet_47 : decode cX9_quiet 47 = .ok (.bipush 100, 2) := by decide +kernel
theorem dX9_quiet_49 : decode cX9_quiet 49 = .ok (.iload_n 3, 1) := by decide +kernel
theorem dX9_quiet_50 : decode cX9_quiet 50 = .ok (.invokestatic 274, 3) := by decide +kernel
theorem dX9_quiet_53 : decode cX9_quiet 53 = .ok (.istore 4, 2) := by decide +kernel
theorem dX9_quiet_55 : decode cX9_quiet 55 = .ok (.lconst 1, 1) := by decide +kernel
theorem dX9_quiet_56 : decode cX9_quiet 56 = .ok (.lstore 5, 2) := by decide +kernel
theorem dX9_quiet_58 : decode cX9_quiet 58 = .ok (.iconst 0, 1) := by decide +kernel
theorem dX9_quiet_59 : decode cX9_quiet 59 = .ok (.istore 7, 2) := by decide +kernel
theorem dX9_quiet_61 : decode cX9_quiet 61 = .ok (.iload 7, 2) := by decide +kernel
theorem dX9_quiet_63 : decode cX9_quiet 63 = .ok (.iload_n 1, 1) := by decide +kernel
theorem dX9_quiet_64 : decode cX9_quiet 64 = .ok (.if_icmp .ge 17, 3) := by decide +kernel
theorem dX9_quiet_67 : decode cX9_quiet 67 = .ok (.lload 5, 2) := by decide +kernel
theorem dX9_quiet_69 : decode cX9_quiet 69 = .ok (.iload 4, 2) := by decide +kernel
theorem dX9_quiet_71 : decode cX9_quiet 71 = .ok (.i2l, 1) := by decide +kernel
theorem dX9_quiet_72 : decode cX9_quiet 72 = .ok (.lmul, 1) := by decide +kernel
theorem dX9_quiet_73 : decode cX9_quiet 73 = .ok (.lstore 5, 2) := by decide +kernel
theorem dX9_quiet_75 : decode cX9_quiet 75 = .ok (.iinc 7 1, 3) := by decide +kernel
theorem dX9_quiet_78 : decode cX9_quiet 78 = .ok (.goto (-17), 3) := by decide +kernel
theorem dX9_quiet_81 : decode cX9_quiet 81 = .ok (.lload 5, 2) := by decide +kernel
theorem dX9_quiet_83 : decode cX9_quiet 83 = .ok (.lreturn, 1) := by decide +kernel
theorem hd_X9_quiet : yX9_quiet.cls = xCn 9 ∧ yX9_quiet.cls ≠ "java/lang/invoke/MethodHandle" ∧ yX9_quiet.cls ≠ "java/lang/invoke/VarHandle" ∧ (parseMethodDescriptor yX9_quiet.desc).map (fun d => d.parameters.length) = some 2 := by decide +kernel
def k_X9_quiet_19 (sh : List xSh) (d : xD) : Option (Int64 × xD) :=
  some ((-1 : Int64), d)
def k_X9_quiet_81 (sh : List xSh) (x5 : Int64) (d : xD) : Option (Int64 × xD) :=
  some (x5, d)
def b_X9_quiet_61 (sh : List xSh) (rec61 : Int32 → Int32 → Int64 → Int32 → xD → Option (Int64 × xD)) (x1 : Int32) (x4 : Int32) (x5 : Int64) (x7 : Int32) (d : xD) : Option (Int64 × xD) :=
  if x1 ≤ x7 then (k_X9_quiet_81 sh x5 d) else (rec61 x1 x4 (x5 * (x4).toInt64) (x7 + 1) d)
def k_X9_quiet_53 (sh : List xSh) (x1 : Int32) (y0 : Int32) (d : xD) : Option (Int64 × xD) :=
  xloop (fun _ _ _ _ _ => none) (b_X9_quiet_61 sh) xF x1 y0 (1 : Int64) (0 : Int32) d
def f_X9_quiet (sh : List xSh) (q0 : Nat) (x1 : Int32) (x2 : Int32) (d : xD) : Option (Int64 × xD) :=
  if x1 < 0 then (k_X9_quiet_19 sh d) else (if (6 : Int32) < x1 then (k_X9_quiet_19 sh d) else (if x2 < 0 then (k_X9_quiet_19 sh d) else (if x2 ≤ (1 : Int32) then ((xgR 9 sh d q0 4).bind fun v1 => (xgI 3 sh d v1 2).bind fun v2 => if x2 = 0 then ((f_X9_inLeastTerms sh ((100 : Int32) - v2) (100 : Int32) d).bind fun z4 => k_X9_quiet_53 sh x1 z4.1 z4.2) else ((f_X9_inLeastTerms sh (100 : Int32) ((100 : Int32) - v2) d).bind fun z3 => k_X9_quiet_53 sh x1 z3.1 z3.2)) else (k_X9_quiet_19 sh d))))
set_option maxHeartbeats 4000000 in
set_option maxRecDepth 100000 in
theorem mt_X9_quiet (l : Launch) (D : va_G) (cid : FieldType → ClassId) (b : Nat) (ex : Bool) (sa sv B0 : Nat) (sh : List xSh) (q0 : Nat) (x1 : Int32) (x2 : Int32) (d : xD) (r : Int64) (dz : xD) (hf : f_X9_quiet sh q0 x1 x2 d = some (r, dz)) : xMet l yX9_quiet cX9_quiet 8 (some .long) 1 0 0 D cid b ex sa sv B0 [.ref (b + q0), .int x1, .int x2] sh d (some (.long r)) sh dz := by
  refine xMet.of (by decide) (Nat.le_of_ble_eq_true rfl) ?_
  intro p e s m below meth c ls A S hr hin G hl
  have hl : lv_has ls 8 [(0, .ref (b + q0)), (1, .int x1), (2, .int x2)] := hl
  generalize ([.ref (b + q0), .int x1, .int x2] : List Value).toArray = av at S ⊢
  have hx := S.1
  have hb := S.2.1
  have hml := S.2.2.1
  have hown := S.2.2.2.1
  have hts := S.2.2.2.2.1
  have K19 : ∀ (d : xD), k_X9_quiet_19 sh d = some (r, dz) → ∀ (H : Heap) (locs : List Loc) (ls : Array Slot), lv_has ls 8 [] → xG D cid b A sh d s H locs → W p l e (xRm 1 0 0) s m av below meth c H locs 0 0 (MQ below (xQ D cid b ex A (some (.long r)) sh dz) av s 0 0 A) (F0 m 19 ls []) := by
    intro d hf H locs ls hl G
    unfold k_X9_quiet_19 at hf
    refine lv_ldc2 (v := (-1 : Int64)) hx hb hown (hts _ kw_965) dX9_quiet_19 ?_
    cases hf
    exact xr_lret S G (fun _ => rfl) hr dX9_quiet_22
  have K81 : ∀ (x5 : Int64) (d : xD), k_X9_quiet_81 sh x5 d = some (r, dz) → ∀ (H : Heap) (locs : List Loc) (ls : Array Slot), lv_has ls 8 [(5, .long x5)] → xG D cid b A sh d s H locs → W p l e (xRm 1 0 0) s m av below meth c H locs 0 0 (MQ below (xQ D cid b ex A (some (.long r)) sh dz) av s 0 0 A) (F0 m 81 ls []) := by
    intro x5 d hf H locs ls hl G
    unfold k_X9_quiet_81 at hf
    refine lv_lload hx hb dX9_quiet_81 (lv_at hl 0 rfl) ?_
    cases hf
    exact xr_lret S G (fun _ => rfl) hr dX9_quiet_83
  have K61 : ∀ (n : Nat) (x1 : Int32) (x4 : Int32) (x5 : Int64) (x7 : Int32) (d : xD), xloop (fun _ _ _ _ _ => none) (b_X9_quiet_61 sh) n x1 x4 x5 x7 d = some (r, dz) → ∀ (H : Heap) (locs : List Loc) (ls : Array Slot), lv_has ls 8 [(1, .int x1), (4, .int x4), (5, .long x5), (7, .int x7)] → xG D cid b A sh d s H locs → W p l e (xRm 1 0 0) s m av below meth c H locs 0 0 (MQ below (xQ D cid b ex A (some (.long r)) sh dz) av s 0 0 A) (F0 m 61 ls []) := by
    intro n
    induction n with
    | zero =>
      intro x1 x4 x5 x7 d hf
      have hf : (none : Option (Int64 × xD)) = some (r, dz) := hf
      cases hf
    | succ n hrec61 =>
      intro x1 x4 x5 x7 d hf H locs ls hl G
      have hf : b_X9_quiet_61 sh (xloop (fun _ _ _ _ _ => none) (b_X9_quiet_61 sh) n) x1 x4 x5 x7 d = some (r, dz) := hf
      unfold b_X9_quiet_61 at hf
      refine lv_iload hx hb dX9_quiet_61 (lv_at hl 3 rfl) ?_
      refine lv_iload_n hx hb dX9_quiet_63 rfl (lv_at hl 0 rfl) ?_
      refine lv_icmp_ge (tgt := 81) hx hb dX9_quiet_64 (by decide) (fun c => ?_) (fun c => ?_)
      · have hf := x_pos c hf
        exact K81 x5 d hf _ _ ls (lv_sub hl [2] rfl) G
      · have hf := x_neg c hf
        refine lv_lload hx hb dX9_quiet_67 (lv_at hl 2 rfl) ?_
        refine lv_iload hx hb dX9_quiet_69 (lv_at hl 1 rfl) ?_
        refine lv_i2l (v := (x4).toInt64) hx hb dX9_quiet_71 rfl ?_
        refine lv_lmul hx hb dX9_quiet_72 ?_
        refine lv_lstore (lv' := [(5, .long (x5 * (x4).toInt64)), (1, .int x1), (4, .int x4), (7, .int x7)]) hx hb dX9_quiet_73 hl (by decide) rfl (fun ls hl => ?_)
        refine lv_iinc (v := (x7 + 1)) (lv' := [(7, .int (x7 + 1)), (5, .long (x5 * (x4).toInt64)), (1, .int x1), (4, .int x4)]) hx hb dX9_quiet_75 hl (k := 3) rfl rfl (by decide) rfl (fun ls hl => ?_)
        refine lv_goto (tgt := 61) hx hb dX9_quiet_78 (by decide) ?_
        exact hrec61 x1 x4 (x5 * (x4).toInt64) (x7 + 1) d hf _ _ ls (lv_sub hl [2, 3, 1, 0] rfl) G
  have K53 : ∀ (x1 : Int32) (y0 : Int32) (d : xD), k_X9_quiet_53 sh x1 y0 d = some (r, dz) → ∀ (H : Heap) (locs : List Loc) (ls : Array Slot), lv_has ls 8 [(1, .int x1)] → xG D cid b A sh d s H locs → W p l e (xRm 1 0 0) s m av below meth c H locs 0 0 (MQ below (xQ D cid b ex A (some (.long r)) sh dz) av s 0 0 A) (F0 m 53 ls [.int y0]) := by
    intro x1 y0 d hf H locs ls hl G
    unfold k_X9_quiet_53 at hf
    refine lv_istore (lv' := [(4, .int y0), (1, .int x1)]) hx hb dX9_quiet_53 hl (by decide) rfl (fun ls hl => ?_)
    refine lv_lconst (v := (1 : Int64)) hx hb dX9_quiet_55 (by decide) ?_
    refine lv_lstore (lv' := [(5, .long (1 : Int64)), (4, .int y0), (1, .int x1)]) hx hb dX9_quiet_56 hl (by decide) rfl (fun ls hl => ?_)
    refine lv_iconst (v := (0 : Int32)) hx hb dX9_quiet_58 (by decide) ?_
    refine lv_istore (lv' := [(7, .int (0 : Int32)), (5, .long (1 : Int64)), (4, .int y0), (1, .int x1)]) hx hb dX9_quiet_59 hl (by decide) rfl (fun ls hl => ?_)
    exact K61 xF x1 y0 (1 : Int64) (0 : Int32) d hf _ _ ls (lv_sub hl [3, 2, 1, 0] rfl) G
  unfold f_X9_quiet at hf
  refine lv_iload_n hx hb dX9_quiet_0 rfl (lv_at hl 1 rfl) ?_
  refine lv_if_lt (tgt := 19) hx hb dX9_quiet_1 (by decide) (fun c => ?_) (fun c => ?_)
  · have hf := x_pos c hf
    exact K19 d hf _ _ ls (lv_sub hl [] rfl) G
  · have hf := x_neg c hf
    refine lv_iload_n hx hb dX9_quiet_4 rfl (lv_at hl 1 rfl) ?_
    refine lv_bipush (v := (6 : Int32)) hx hb dX9_quiet_5 (by decide) ?_
    refine lv_icmp_gt (tgt := 19) hx hb dX9_quiet_7 (by decide) (fun c => ?_) (fun c => ?_)
    · have hf := x_pos c hf
      exact K19 d hf _ _ ls (lv_sub hl [] rfl) G
    · have hf := x_neg c hf
      refine lv_iload_n hx hb dX9_quiet_10 rfl (lv_at hl 2 rfl) ?_
      refine lv_if_lt (tgt := 19) hx hb dX9_quiet_11 (by decide) (fun c => ?_) (fun c => ?_)
      · have hf := x_pos c hf
        exact K19 d hf _ _ ls (lv_sub hl [] rfl) G
      · have hf := x_neg c hf
        refine lv_iload_n hx hb dX9_quiet_14 rfl (lv_at hl 2 rfl) ?_
        refine lv_iconst (v := (1 : Int32)) hx hb dX9_quiet_15 (by decide) ?_
        refine lv_icmp_le (tgt := 23) hx hb dX9_quiet_16 (by decide) (fun c => ?_) (fun c => ?_)
        · have hf := x_pos c hf
          refine lv_bipush (v := (100 : Int32)) hx hb dX9_quiet_23 (by decide) ?_
          refine lv_aload_n hx hb dX9_quiet_25 rfl (lv_at hl 0 rfl) ?_
          obtain ⟨v1, hv1, hf⟩ := x_ob hf
          refine xr_getR (ci := 9) (k := 4) S G hv1 rfl kw_485 dX9_quiet_26 ?_
          obtain ⟨v2, hv2, hf⟩ := x_ob hf
          refine xr_getI (ci := 3) (k := 2) S G hv2 rfl kw_88 dX9_quiet_29 ?_
          refine lv_isub hx hb dX9_quiet_32 ?_
          refine lv_istore_n (lv' := [(3, .int ((100 : Int32) - v2)), (0, .ref (b + q0)), (1, .int x1), (2, .int x2)]) hx hb dX9_quiet_33 rfl hl (by decide) rfl (fun ls hl => ?_)
          refine lv_iload_n hx hb dX9_quiet_34 rfl (lv_at hl 3 rfl) ?_
          refine lv_if_ne (tgt := 47) hx hb dX9_quiet_35 (by decide) (fun c => ?_) (fun c => ?_)
          · have hf := x_neg c hf
            refine lv_bipush (v := (100 : Int32)) hx hb dX9_quiet_47 (by decide) ?_
            refine lv_iload_n hx hb dX9_quiet_49 rfl (lv_at hl 0 rfl) ?_
            obtain ⟨z3, hz3, hf⟩ := x_ob hf
            refine xr_callS (As := [.int (100 : Int32), .int ((100 : Int32) - v2)]) (rest := []) (st1 := [.int z3.1]) S G hl.1 (fun _ => rfl) (mt_X9_inLeastTerms l D cid b ex sa sv B0 sh (100 : Int32) ((100 : Int32) - v2) d _ _ hz3) kw_966 kw_967 kw_1 kw_968 hd_X9_inLeastTerms ⟨Nat.le_of_ble_eq_true rfl, Nat.le_of_ble_eq_true rfl⟩ rfl rfl rfl (Nat.le_of_ble_eq_true rfl) ⟨Nat.le_of_ble_eq_true rfl, Nat.le_of_ble_eq_true rfl⟩ dX9_quiet_50 (fun H locs G => ?_)
            exact K53 x1 z3.1 z3.2 hf _ _ ls (lv_sub hl [2] rfl) G
          · have hf := x_pos c hf
            refine lv_iload_n hx hb dX9_quiet_38 rfl (lv_at hl 0 rfl) ?_
            refine lv_bipush (v := (100 : Int32)) hx hb dX9_quiet_39 (by decide) ?_
            obtain ⟨z4, hz4, hf⟩ := x_ob hf
            refine xr_callS (As := [.int ((100 : Int32) - v2), .int (100 : Int32)]) (rest := []) (st1 := [.int z4.1]) S G hl.1 (fun _ => rfl) (mt_X9_inLeastTerms l D cid b ex sa sv B0 sh ((100 : Int32) - v2) (100 : Int32) d _ _ hz4) kw_966 kw_967 kw_1 kw_968 hd_X9_inLeastTerms ⟨Nat.le_of_ble_eq_true rfl, Nat.le_of_ble_eq_true rfl⟩ rfl rfl rfl (Nat.le_of_ble_eq_true rfl) ⟨Nat.le_of_ble_eq_true rfl, Nat.le_of_ble_eq_true rfl⟩ dX9_quiet_41 (fun H locs G => ?_)
            refine lv_goto (tgt := 53) hx hb dX9_quiet_44 (by decide) ?_
            exact K53 x1 z4.1 z4.2 hf _ _ ls (lv_sub hl [2] rfl) G
        · have hf := x_neg c hf
          exact K19 d hf _ _ ls (lv_sub hl [] rfl) G
-- HalfLandings.see(IIIZ)I
theorem dX9_see_0 : decode cX9_see 0 = .ok (.iload_n 1, 1) := by decide +kernel
theorem dX9_see_1 : decode cX9_see 1 = .ok (.iconst 1, 1) := by decide +kernel
theorem dX9_see_2 : decode cX9_see 2 = .ok (.if_icmp .lt 20, 3) := by decide +kernel
theorem dX9_see_5 : decode cX9_see 5 = .ok (.iload_n 1, 1) := by decide +kernel
theorem dX9_see_6 : decode cX9_see 6 = .ok (.bipush 60, 2) := by decide +kernel
theorem dX9_see_8 : decode cX9_see 8 = .ok (.if_icmp .gt 14, 3) := by decide +kernel
theorem dX9_see_11 : decode cX9_see 11 = .ok (.aload_n 0, 1) := by decide +kernel
theorem dX9_see_12 : decode cX9_see 12 = .ok (.getfield 28, 3) := by decide +kernel
theorem dX9_see_15 : decode cX9_see 15 = .ok (.iload_n 2, 1) := by decide +kernel
theorem dX9_see_16 : decode cX9_see 16 = .ok (.invokevirtual 159, 3) := by decide +kernel
theorem dX9_see_19 : decode cX9_see 19 = .ok (.ifCond .ne 5, 3) := by decide +kernel
theorem dX9_see_22 : decode cX9_see 22 = .ok (.iconst (-1), 1) := by decide +kernel
theorem dX9_see_23 : decode cX9_see 23 = .ok (.ireturn, 1) := by decide +kernel
theorem dX9_see_24 : decode cX9_see 24 = .ok (.iload_n 3, 1) := by decide +kernel
theorem dX9_see_25 : decode cX9_see 25 = .ok (.ifCond .lt 20, 3) := by decide +kernel
theorem dX9_see_28 : decode cX9_see 28 = .ok (.iload_n 3, 1) := by decide +kernel
theorem dX9_see_29 : decode cX9_see 29 = .ok (.sipush 9999, 3) := by decide +kernel
theorem dX9_see_32 : decode cX9_see 32 = .ok (.if_icmp .gt 13, 3) := by decide +kernel
theorem dX9_see_35 : decode cX9_see 35 = .ok (.aload_n 0, 1) := by decide +kernel
theorem dX9_see_36 : decode cX9_see 36 = .ok (.getfield 89, 3) := by decide +kernel
theorem dX9_see_39 : decode cX9_see 39 = .ok (.invokevirtual 277, 3) := by decide +kernel
theorem dX9_see_42 : decode cX9_see 42 = .ok (.ifCond .eq 5, 3) := by decide +kernel
theorem dX9_see_45 : decode cX9_see 45 = .ok (.iconst (-1), 1) := by decide +kernel
theorem dX9_see_46 : decode cX9_see 46 = .ok (.ireturn, 1) := by decide +kernel
theorem dX9_see_47 : decode cX9_see 47 = .ok (.aload_n 0, 1) := by decide +kernel
theorem dX9_see_48 : decode cX9_see 48 = .ok (.getfield 89, 3) := by decide +kernel
theorem dX9_see_51 : decode cX9_see 51 = .ok (.iload_n 1, 1) := by decide +kernel
theorem dX9_see_52 : decode cX9_see 52 = .ok (.iload_n 2, 1) := by decide +kernel
theorem dX9_see_53 : decode cX9_see 53 = .ok (.iload_n 3, 1) := by decide +kernel
theorem dX9_see_54 : decode cX9_see 54 = .ok (.iload 4, 2) := by decide +kernel
theorem dX9_see_56 : decode cX9_see 56 = .ok (.invokevirtual 281, 3) := by decide +kernel
theorem dX9_see_59 : decode cX9_see 59 = .ok (.ireturn, 1) := by decide +kernel
theorem hd_X9_see : yX9_see.cls = xCn 9 ∧ yX9_see.cls ≠ "java/lang/invoke/MethodHandle" ∧ yX9_see.cls ≠ "java/lang/invoke/VarHandle" ∧ (parseMethodDescriptor yX9_see.desc).map (fun d => d.parameters.length) = some 4 := by decide +kernel
def k_X9_see_22 (sh : List xSh) (d : xD) : Option (Int32 × xD) :=
  some ((-1 : Int32), d)
def k_X9_see_45 (sh : List xSh) (d : xD) : Option (Int32 × xD) :=
  some ((-1 : Int32), d)
def f_X9_see (sh : List xSh) (q0 : Nat) (x1 : Int32) (x2 : Int32) (x3 : Int32) (x4 : Int32) (d : xD) : Option (Int32 × xD) :=
  if x1 < (1 : Int32) then (k_X9_see_22 sh d) else (if (60 : Int32) < x1 then (k_X9_see_22 sh d) else ((xgR 9 sh d q0 4).bind fun v1 => (xon 3 sh v1 (f_X3_hasBench sh v1 x2 d)).bind fun z2 => if z2.1 = 0 then (k_X9_see_22 sh z2.2) else (if x3 < 0 then (k_X9_see_45 sh z2.2) else (if (9999 : Int32) < x3 then (k_X9_see_45 sh z2.2) else ((xgR 9 sh z2.2 q0 14).bind fun v3 => (xon 5 sh v3 (f_X5_isFull sh v3 z2.2)).bind fun z4 => if z4.1 = 0 then ((xgR 9 sh z4.2 q0 14).bind fun v5 => (xon 5 sh v5 (f_X5_addSight sh v5 x1 x2 x3 x4 z4.2)).bind fun z6 => some (z6.1, z6.2)) else (k_X9_see_45 sh z4.2))))))
set_option maxHeartbeats 4000000 in
set_option maxRecDepth 100000 in
theorem mt_X9_see (l : Launch) (D : va_G) (cid : FieldType → ClassId) (b : Nat) (ex : Bool) (sa sv B0 : Nat) (sh : List xSh) (q0 : Nat) (x1 : Int32) (x2 : Int32) (x3 : Int32) (x4 : Int32) (d : xD) (r : Int32) (dz : xD) (hf : f_X9_see sh q0 x1 x2 x3 x4 d = some (r, dz)) : xMet l yX9_see cX9_see 5 (some .int) 1 0 0 D cid b ex sa sv B0 [.ref (b + q0), .int x1, .int x2, .int x3, .int x4] sh d (some (.int r)) sh dz := by
  refine xMet.of (by decide) (Nat.le_of_ble_eq_true rfl) ?_
  intro p e s m below meth c ls A S hr hin G hl
  have hl : lv_has ls 5 [(0, .ref (b + q0)), (1, .int x1), (2, .int x2), (3, .int x3), (4, .int x4)] := hl
  generalize ([.ref (b + q0), .int x1, .int x2, .int x3, .int x4] : List Value).toArray = av at S ⊢
  have hx := S.1
  have hb := S.2.1
  have hml := S.2.2.1
  have hown := S.2.2.2.1
  have hts := S.2.2.2.2.1
  have K22 : ∀ (d : xD), k_X9_see_22 sh d = some (r, dz) → ∀ (H : Heap) (locs : List Loc) (ls : Array Slot), lv_has ls 5 [] → xG D cid b A sh d s H locs → W p l e (xRm 1 0 0) s m av below meth c H locs 0 0 (MQ below (xQ D cid b ex A (some (.int r)) sh dz) av s 0 0 A) (F0 m 22 ls []) := by
    intro d hf H locs ls hl G
    unfold k_X9_see_22 at hf
    refine lv_iconst (v := (-1 : Int32)) hx hb dX9_see_22 (by decide) ?_
    cases hf
    exact xr_iret S G (fun _ => rfl) hr dX9_see_23
  have K45 : ∀ (d : xD), k_X9_see_45 sh d = some (r, dz) → ∀ (H : Heap) (locs : List Loc) (ls : Array Slot), lv_has ls 5 [] → xG D cid b A sh d s H locs → W p l e (xRm 1 0 0) s m av below meth c H locs 0 0 (MQ below (xQ D cid b ex A (some (.int r)) sh dz) av s 0 0 A) (F0 m 45 ls []) := by
    intro d hf H locs ls hl G
    unfold k_X9_see_45 at hf
    refine lv_iconst (v := (-1 : Int32)) hx hb dX9_see_45 (by decide) ?_
    cases hf
    exact xr_iret S G (fun _ => rfl) hr dX9_see_46
  unfold f_X9_see at hf
  refine lv_iload_n hx hb dX9_see_0 rfl (lv_at hl 1 rfl) ?_
  refine lv_iconst (v := (1 : Int32)) hx hb dX9_see_1 (by decide) ?_
  refine lv_icmp_lt (tgt := 22) hx hb dX9_see_2 (by decide) (fun c => ?_) (fun c => ?_)
  · have hf := x_pos c hf
    exact K22 d hf _ _ ls (lv_sub hl [] rfl) G
  · have hf := x_neg c hf
    refine lv_iload_n hx hb dX9_see_5 rfl (lv_at hl 1 rfl) ?_
    refine lv_bipush (v := (60 : Int32)) hx hb dX9_see_6 (by decide) ?_
    refine lv_icmp_gt (tgt := 22) hx hb dX9_see_8 (by decide) (fun c => ?_) (fun c => ?_)
    · have hf := x_pos c hf
      exact K22 d hf _ _ ls (lv_sub hl [] rfl) G
    · have hf := x_neg c hf
      refine lv_aload_n hx hb dX9_see_11 rfl (lv_at hl 0 rfl) ?_
      obtain ⟨v1, hv1, hf⟩ := x_ob hf
      refine xr_getR (ci := 9) (k := 4) S G hv1 rfl kw_485 dX9_see_12 ?_
      refine lv_iload_n hx hb dX9_see_15 rfl (lv_at hl 2 rfl) ?_
      obtain ⟨z2, hz2, hf⟩ := x_ob hf
      obtain ⟨hqz2, hz2⟩ := xon_of hz2
      refine xr_callV (ci := 3) (As := [.int x2]) (rest := []) (st1 := [.int z2.1]) S G hl.1 (fun _ => rfl) (mt_X3_hasBench l D cid b ex sa sv B0 sh v1 x2 d _ _ hz2) hqz2 (by decide) kw_732 kw_733 kw_734 kw_2 kw_735 hd_X3_hasBench ⟨Nat.le_of_ble_eq_true rfl, Nat.le_of_ble_eq_true rfl⟩ rfl rfl rfl (Nat.le_of_ble_eq_true rfl) ⟨Nat.le_of_ble_eq_true rfl, Nat.le_of_ble_eq_true rfl⟩ dX9_see_16 (fun H locs G => ?_)
      refine lv_if_ne (tgt := 24) hx hb dX9_see_19 (by decide) (fun c => ?_) (fun c => ?_)
      · have hf := x_neg c hf
        refine lv_iload_n hx hb dX9_see_24 rfl (lv_at hl 3 rfl) ?_
        refine lv_if_lt (tgt := 45) hx hb dX9_see_25 (by decide) (fun c => ?_) (fun c => ?_)
        · have hf := x_pos c hf
          exact K45 z2.2 hf _ _ ls (lv_sub hl [] rfl) G
        · have hf := x_neg c hf
          refine lv_iload_n hx hb dX9_see_28 rfl (lv_at hl 3 rfl) ?_
          refine lv_sipush (v := (9999 : Int32)) hx hb dX9_see_29 (by decide) ?_
          refine lv_icmp_gt (tgt := 45) hx hb dX9_see_32 (by decide) (fun c => ?_) (fun c => ?_)
          · have hf := x_pos c hf
            exact K45 z2.2 hf _ _ ls (lv_sub hl [] rfl) G
          · have hf := x_neg c hf
            refine lv_aload_n hx hb dX9_see_35 rfl (lv_at hl 0 rfl) ?_
            obtain ⟨v3, hv3, hf⟩ := x_ob hf
            refine xr_getR (ci := 9) (k := 14) S G hv3 rfl kw_495 dX9_see_36 ?_
            obtain ⟨z4, hz4, hf⟩ := x_ob hf
            obtain ⟨hqz4, hz4⟩ := xon_of hz4
            refine xr_callV (ci := 5) (As := []) (rest := []) (st1 := [.int z4.1]) S G hl.1 (fun _ => rfl) (mt_X5_isFull l D cid b ex sa sv B0 sh v3 z2.2 _ _ hz4) hqz4 (by decide) kw_973 kw_974 kw_975 kw_15 kw_976 hd_X5_isFull ⟨Nat.le_of_ble_eq_true rfl, Nat.le_of_ble_eq_true rfl⟩ rfl rfl rfl (Nat.le_of_ble_eq_true rfl) ⟨Nat.le_of_ble_eq_true rfl, Nat.le_of_ble_eq_true rfl⟩ dX9_see_39 (fun H locs G => ?_)
            refine lv_if_eq (tgt := 47) hx hb dX9_see_42 (by decide) (fun c => ?_) (fun c => ?_)
            · have hf := x_pos c hf
              refine lv_aload_n hx hb dX9_see_47 rfl (lv_at hl 0 rfl) ?_
              obtain ⟨v5, hv5, hf⟩ := x_ob hf
              refine xr_getR (ci := 9) (k := 14) S G hv5 rfl kw_495 dX9_see_48 ?_
              refine lv_iload_n hx hb dX9_see_51 rfl (lv_at hl 1 rfl) ?_
              refine lv_iload_n hx hb dX9_see_52 rfl (lv_at hl 2 rfl) ?_
              refine lv_iload_n hx hb dX9_see_53 rfl (lv_at hl 3 rfl) ?_
              refine lv_iload hx hb dX9_see_54 (lv_at hl 4 rfl) ?_
              obtain ⟨z6, hz6, hf⟩ := x_ob hf
              obtain ⟨hqz6, hz6⟩ := xon_of hz6
              refine xr_callV (ci := 5) (As := [.int x1, .int x2, .int x3, .int x4]) (rest := []) (st1 := [.int z6.1]) S G hl.1 (fun _ => rfl) (mt_X5_addSight l D cid b ex sa sv B0 sh v5 x1 x2 x3 x4 z4.2 _ _ hz6) hqz6 (by decide) kw_977 kw_978 kw_979 kw_15 kw_980 hd_X5_addSight ⟨Nat.le_of_ble_eq_true rfl, Nat.le_of_ble_eq_true rfl⟩ rfl rfl rfl (Nat.le_of_ble_eq_true rfl) ⟨Nat.le_of_ble_eq_true rfl, Nat.le_of_ble_eq_true rfl⟩ dX9_see_56 (fun H locs G => ?_)
              cases hf
              exact xr_iret S G (fun _ => rfl) hr dX9_see_59
            · have hf := x_neg c hf
              exact K45 z4.2 hf _ _ ls (lv_sub hl [] rfl) G
      · have hf := x_pos c hf
        exact K22 z2.2 hf _ _ ls (lv_sub hl [] rfl) G
-- HalfLandings.strike(I)I
theorem dX9_strike_0 : decode cX9_strike 0 = .ok (.iload_n 1, 1) := by decide +kernel
theorem dX9_strike_1 : decode cX9_strike 1 = .ok (.ifCond .lt 24, 3) := by decide +kernel
theorem dX9_strike_4 : decode cX9_strike 4 = .ok (.iload_n 1, 1) := by decide +kernel
theorem dX9_strike_5 : decode cX9_strike 5 = .ok (.aload_n 0, 1) := by decide +kernel
theorem dX9_strike_6 : decode cX9_strike 6 = .ok (.getfield 89, 3) := by decide +kernel
theorem dX9_strike_9 : decode cX9_strike 9 = .ok (.getfield 285, 3) := by decide +kernel
theorem dX9_strike_12 : decode cX9_strike 12 = .ok (.if_icmp .ge 13, 3) := by decide +kernel
theorem dX9_strike_15 : decode cX9_strike 15 = .ok (.aload_n 0, 1) := by decide +kernel
theorem dX9_strike_16 : decode cX9_strike 16 = .ok (.getfield 89, 3) := by decide +kernel
theorem dX9_strike_19 : decode cX9_strike 19 = .ok (.invokevirtual 277, 3) := by decide +kernel
theorem dX9_strike_22 : decode cX9_strike 22 = .ok (.ifCond .eq 5, 3) := by decide +kernel
theorem dX9_strike_25 : decode cX9_strike 25 = .ok (.iconst (-1), 1) := by decide +kernel
theorem dX9_strike_26 : decode cX9_strike 26 = .ok (.ireturn, 1) := by decide +kernel
theorem dX9_strike_27 : decode cX9_strike 27 = .ok (.aload_n 0, 1) := by decide +kernel
theorem dX9_strike_28 : decode cX9_strike 28 = .ok (.getfield 89, 3) := by decide +kernel
theorem dX9_strike_31 : decode cX9_strike 31 = .ok (.iload_n 1, 1) := by decide +kernel
theorem dX9_strike_32 : decode cX9_strike 32 = .ok (.invokevirtual 288, 3) := by decide +kernel
theorem dX9_strike_35 : decode cX9_strike 35 = .ok (.ireturn, 1) := by decide +kernel
theorem hd_X9_strike : yX9_strike.cls = xCn 9 ∧ yX9_strike.cls ≠ "java/lang/invoke/MethodHandle" ∧ yX9_strike.cls ≠ "java/lang/invoke/VarHandle" ∧ (parseMethodDescriptor yX9_strike.desc).map (fun d => d.parameters.length) = some 1 := by decide +kernel
def k_X9_strike_25 (sh : List xSh) (d : xD) : Option (Int32 × xD) :=
  some ((-1 : Int32), d)
def f_X9_strike (sh : List xSh) (q0 : Nat) (x1 : Int32) (d : xD) : Option (Int32 × xD) :=
  if x1 < 0 then (k_X9_strike_25 sh d) else ((xgR 9 sh d q0 14).bind fun v1 => (xgI 5 sh d v1 0).bind fun v2 => if v2 ≤ x1 then (k_X9_strike_25 sh d) else ((xgR 9 sh d q0 14).bind fun v3 => (xon 5 sh v3 (f_X5_isFull sh v3 d)).bind fun z4 => if z4.1 = 0 then ((xgR 9 sh z4.2 q0 14).bind fun v5 => (xon 5 sh v5 (f_X5_addStrike sh v5 x1 z4.2)).bind fun z6 => some (z6.1, z6.2)) else (k_X9_strike_25 sh z4.2)))
set_option maxHeartbeats 4000000 in
set_option maxRecDepth 100000 in
theorem mt_X9_strike (l : Launch) (D : va_G) (cid : FieldType → ClassId) (b : Nat) (ex : Bool) (sa sv B0 : Nat) (sh : List xSh) (q0 : Nat) (x1 : Int32) (d : xD) (r : Int32) (dz : xD) (hf : f_X9_strike sh q0 x1 d = some (r, dz)) : xMet l yX9_strike cX9_strike 2 (some .int) 1 0 0 D cid b ex sa sv B0 [.ref (b + q0), .int x1] sh d (some (.int r)) sh dz := by
  refine xMet.of (by decide) (Nat.le_of_ble_eq_true rfl) ?_
  intro p e s m below meth c ls A S hr hin G hl
  have hl : lv_has ls 2 [(0, .ref (b + q0)), (1, .int x1)] := hl
  generalize ([.ref (b + q0), .int x1] : List Value).toArray = av at S ⊢
  have hx := S.1
  have hb := S.2.1
  have hml := S.2.2.1
  have hown := S.2.2.2.1
  have hts := S.2.2.2.2.1
  have K25 : ∀ (d : xD), k_X9_strike_25 sh d = some (r, dz) → ∀ (H : Heap) (locs : List Loc) (ls : Array Slot), lv_has ls 2 [] → xG D cid b A sh d s H locs → W p l e (xRm 1 0 0) s m av below meth c H locs 0 0 (MQ below (xQ D cid b ex A (some (.int r)) sh dz) av s 0 0 A) (F0 m 25 ls []) := by
    intro d hf H locs ls hl G
    unfold k_X9_strike_25 at hf
    refine lv_iconst (v := (-1 : Int32)) hx hb dX9_strike_25 (by decide) ?_
    cases hf
    exact xr_iret S G (fun _ => rfl) hr dX9_strike_26
  unfold f_X9_strike at hf
  refine lv_iload_n hx hb dX9_strike_0 rfl (lv_at hl 1 rfl) ?_
  refine lv_if_lt (tgt := 25) hx hb dX9_strike_1 (by decide) (fun c => ?_) (fun c => ?_)
  · have hf := x_pos c hf
    exact K25 d hf _ _ ls (lv_sub hl [] rfl) G
  · have hf := x_neg c hf
    refine lv_iload_n hx hb dX9_strike_4 rfl (lv_at hl 1 rfl) ?_
    refine lv_aload_n hx hb dX9_strike_5 rfl (lv_at hl 0 rfl) ?_
    obtain ⟨v1, hv1, hf⟩ := x_ob hf
    refine xr_getR (ci := 9) (k := 14) S G hv1 rfl kw_495 dX9_strike_6 ?_
    obtain ⟨v2, hv2, hf⟩ := x_ob hf
    refine xr_getI (ci := 5) (k := 0) S G hv2 rfl kw_442 dX9_strike_9 ?_
    refine lv_icmp_ge (tgt := 25) hx hb dX9_strike_12 (by decide) (fun c => ?_) (fun c => ?_)
    · have hf := x_pos c hf
      exact K25 d hf _ _ ls (lv_sub hl [] rfl) G
    · have hf := x_neg c hf
      refine lv_aload_n hx hb dX9_strike_15 rfl (lv_at hl 0 rfl) ?_
      obtain ⟨v3, hv3, hf⟩ := x_ob hf
      refine xr_getR (ci := 9) (k := 14) S G hv3 rfl kw_495 dX9_strike_16 ?_
      obtain ⟨z4, hz4, hf⟩ := x_ob hf
      obtain ⟨hqz4, hz4⟩ := xon_of hz4
      refine xr_callV (ci := 5) (As := []) (rest := []) (st1 := [.int z4.1]) S G hl.1 (fun _ => rfl) (mt_X5_isFull l D cid b ex sa sv B0 sh v3 d _ _ hz4) hqz4 (by decide) kw_973 kw_974 kw_975 kw_15 kw_976 hd_X5_isFull ⟨Nat.le_of_ble_eq_true rfl, Nat.le_of_ble_eq_true rfl⟩ rfl rfl rfl (Nat.le_of_ble_eq_true rfl) ⟨Nat.le_of_ble_eq_true rfl, Nat.le_of_ble_eq_true rfl⟩ dX9_strike_19 (fun H locs G => ?_)
      refine lv_if_eq (tgt := 27) hx hb dX9_strike_22 (by decide) (fun c => ?_) (fun c => ?_)
      · have hf := x_pos c hf
        refine lv_aload_n hx hb dX9_strike_27 rfl (lv_at hl 0 rfl) ?_
        obtain ⟨v5, hv5, hf⟩ := x_ob hf
        refine xr_getR (ci := 9) (k := 14) S G hv5 rfl kw_495 dX9_strike_28 ?_
        refine lv_iload_n hx hb dX9_strike_31 rfl (lv_at hl 1 rfl) ?_
        obtain ⟨z6, hz6, hf⟩ := x_ob hf
        obtain ⟨hqz6, hz6⟩ := xon_of hz6
        refine xr_callV (ci := 5) (As := [.int x1]) (rest := []) (st1 := [.int z6.1]) S G hl.1 (fun _ => rfl) (mt_X5_addStrike l D cid b ex sa sv B0 sh v5 x1 z4.2 _ _ hz6) hqz6 (by decide) kw_985 kw_986 kw_987 kw_15 kw_988 hd_X5_addStrike ⟨Nat.le_of_ble_eq_true rfl, Nat.le_of_ble_eq_true rfl⟩ rfl rfl rfl (Nat.le_of_ble_eq_true rfl) ⟨Nat.le_of_ble_eq_true rfl, Nat.le_of_ble_eq_true rfl⟩ dX9_strike_32 (fun H locs G => ?_)
        cases hf
        exact xr_iret S G (fun _ => rfl) hr dX9_strike_35
      · have hf := x_neg c hf
        exact K25 z4.2 hf _ _ ls (lv_sub hl [] rfl) G
-- HalfLandings.known(I)Z
theorem dX9_known_0 : decode cX9_known 0 = .ok (.iload_n 1, 1) := by decide +kernel
theorem dX9_known_1 : decode cX9_known 1 = .ok (.iconst (-1), 1) := by decide +kernel
theorem dX9_known_2 : decode cX9_known 2 = .ok (.if_icmp .lt 14, 3) := by decide +kernel
theorem dX9_known_5 : decode cX9_known 5 = .ok (.iload_n 1, 1) := by decide +kernel
theorem dX9_known_6 : decode cX9_known 6 = .ok (.aload_n 0, 1) := by decide +kernel
theorem dX9_known_7 : decode cX9_known 7 = .ok (.getfield 89, 3) := by decide +kernel
theorem dX9_known_10 : decode cX9_known 10 = .ok (.getfield 285, 3) := by decide +kernel
theorem dX9_known_13 : decode cX9_known 13 = .ok (.if_icmp .le 5, 3) := by decide +kernel
theorem dX9_known_16 : decode cX9_known 16 = .ok (.iconst 0, 1) := by decide +kernel
theorem dX9_known_17 : decode cX9_known 17 = .ok (.ireturn, 1) := by decide +kernel
theorem dX9_known_18 : decode cX9_known 18 = .ok (.aload_n 0, 1) := by decide +kernel
theorem dX9_known_19 : decode cX9_known 19 = .ok (.getfield 89, 3) := by decide +kernel
theorem dX9_known_22 : decode cX9_known 22 = .ok (.iload_n 1, 1) := by decide +kernel
theorem dX9_known_23 : decode cX9_known 23 = .ok (.putfield 291, 3) := by decide +kernel
theorem dX9_known_26 : decode cX9_known 26 = .ok (.iconst 1, 1) := by decide +kernel
theorem dX9_known_27 : decode cX9_known 27 = .ok (.ireturn, 1) := by decide +kernel
theorem hd_X9_known : yX9_known.cls = xCn 9 ∧ yX9_known.cls ≠ "java/lang/invoke/MethodHandle" ∧ yX9_known.cls ≠ "java/lang/invoke/VarHandle" ∧ (parseMethodDescriptor yX9_known.desc).map (fun d => d.parameters.length) = some 1 := by decide +kernel
def k_X9_known_16 (sh : List xSh) (d : xD) : Option (Int32 × xD) :=
  some ((0 : Int32), d)
def f_X9_known (sh : List xSh) (q0 : Nat) (x1 : Int32) (d : xD) : Option (Int32 × xD) :=
  if x1 < (-1 : Int32) then (k_X9_known_16 sh d) else ((xgR 9 sh d q0 14).bind fun v1 => (xgI 5 sh d v1 0).bind fun v2 => if x1 ≤ v2 then ((xgR 9 sh d q0 14).bind fun v3 => (xpI 5 sh d v3 1 x1).bind fun d4 => some ((1 : Int32), d4)) else (k_X9_known_16 sh d))
set_option maxHeartbeats 4000000 in
set_option maxRecDepth 100000 in
theorem mt_X9_known (l : Launch) (D : va_G) (cid : FieldType → ClassId) (b : Nat) (ex : Bool) (sa sv B0 : Nat) (sh : List xSh) (q0 : Nat) (x1 : Int32) (d : xD) (r : Int32) (dz : xD) (hf : f_X9_known sh q0 x1 d = some (r, dz)) : xMet l yX9_known cX9_known 2 (some .boolean) 0 0 0 D cid b ex sa sv B0 [.ref (b + q0), .int x1] sh d (some (.int r)) sh dz := by
  refine xMet.of (by decide) (Nat.le_of_ble_eq_true rfl) ?_
  intro p e s m below meth c ls A S hr hin G hl
  have hl : lv_has ls 2 [(0, .ref (b + q0)), (1, .int x1)] := hl
  generalize ([.ref (b + q0), .int x1] : List Value).toArray = av at S ⊢
  have hx := S.1
  have hb := S.2.1
  have hml := S.2.2.1
  have hown := S.2.2.2.1
  have hts := S.2.2.2.2.1
  have K16 : ∀ (d : xD), k_X9_known_16 sh d = some (r, dz) → ∀ (H : Heap) (locs : List Loc) (ls : Array Slot), lv_has ls 2 [] → xG D cid b A sh d s H locs → W p l e (xRm 0 0 0) s m av below meth c H locs 0 0 (MQ below (xQ D cid b ex A (some (.int r)) sh dz) av s 0 0 A) (F0 m 16 ls []) := by
    intro d hf H locs ls hl G
    unfold k_X9_known_16 at hf
    refine lv_iconst (v := (0 : Int32)) hx hb dX9_known_16 (by decide) ?_
    cases hf
    exact xr_zret S G (fun _ => rfl) hr (by decide) dX9_known_17
  unfold f_X9_known at hf
  refine lv_iload_n hx hb dX9_known_0 rfl (lv_at hl 1 rfl) ?_
  refine lv_iconst (v := (-1 : Int32)) hx hb dX9_known_1 (by decide) ?_
  refine lv_icmp_lt (tgt := 16) hx hb dX9_known_2 (by decide) (fun c => ?_) (fun c => ?_)
  · have hf := x_pos c hf
    exact K16 d hf _ _ ls (lv_sub hl [] rfl) G
  · have hf := x_neg c hf
    refine lv_iload_n hx hb dX9_known_5 rfl (lv_at hl 1 rfl) ?_
    refine lv_aload_n hx hb dX9_known_6 rfl (lv_at hl 0 rfl) ?_
    obtain ⟨v1, hv1, hf⟩ := x_ob hf
    refine xr_getR (ci := 9) (k := 14) S G hv1 rfl kw_495 dX9_known_7 ?_
    obtain ⟨v2, hv2, hf⟩ := x_ob hf
    refine xr_getI (ci := 5) (k := 0) S G hv2 rfl kw_442 dX9_known_10 ?_
    refine lv_icmp_le (tgt := 18) hx hb dX9_known_13 (by decide) (fun c => ?_) (fun c => ?_)
    · have hf := x_pos c hf
      refine lv_aload_n hx hb dX9_known_18 rfl (lv_at hl 0 rfl) ?_
      obtain ⟨v3, hv3, hf⟩ := x_ob hf
      refine xr_getR (ci := 9) (k := 14) S G hv3 rfl kw_495 dX9_known_19 ?_
      refine lv_iload_n hx hb dX9_known_22 rfl (lv_at hl 1 rfl) ?_
      obtain ⟨d4, hd4, hf⟩ := x_ob hf
      refine xr_putI (ci := 5) (k := 1) S G hd4 rfl kw_444 dX9_known_23 (fun H locs G => ?_)
      refine lv_iconst (v := (1 : Int32)) hx hb dX9_known_26 (by decide) ?_
      cases hf
      exact xr_zret S G (fun _ => rfl) hr (by decide) dX9_known_27
    · have hf := x_neg c hf
      exact K16 d hf _ _ ls (lv_sub hl [] rfl) G
-- HalfLandings.trialBearsOutSeen()Z
theorem dX9_trialBearsOutSeen_0 : decode cX9_trialBearsOutSeen 0 = .ok (.aload_n 0, 1) := by decide +kernel
theorem dX9_trialBearsOutSeen_1 : decode cX9_trialBearsOutSeen 1 = .ok (.getfield 89, 3) := by decide +kernel
theorem dX9_trialBearsOutSeen_4 : decode cX9_trialBearsOutSeen 4 = .ok (.invokevirtual 300, 3) := by decide +kernel
theorem dX9_trialBearsOutSeen_7 : decode cX9_trialBearsOutSeen 7 = .ok (.istore_n 1, 1) := by decide +kernel
theorem dX9_trialBearsOutSeen_8 : decode cX9_trialBearsOutSeen 8 = .ok (.iconst 1, 1) := by decide +kernel
theorem dX9_trialBearsOutSeen_9 : decode cX9_trialBearsOutSeen 9 = .ok (.istore_n 2, 1) := by decide +kernel
theorem dX9_trialBearsOutSeen_10 : decode cX9_trialBearsOutSeen 10 = .ok (.iload_n 2, 1) := by decide +kernel
theorem dX9_trialBearsOutSeen_11 : decode cX9_trialBearsOutSeen 11 = .ok (.iload_n 1, 1) := by decide +kernel
theorem dX9_trialBearsOutSeen_12 : decode cX9_trialBearsOutSeen 12 = .ok (.if_icmp .gt 41, 3) := by decide +kernel
theorem dX9_trialBearsOutSeen_15 : decode cX9_trialBearsOutSeen 15 = .ok (.aload_n 0, 1) := by decide +kernel
theorem dX9_trialBearsOutSeen_16 : decode cX9_trialBearsOutSeen 16 = .ok (.getfield 75, 3) := by decide +kernel
theorem dX9_trialBearsOutSeen_19 : decode cX9_trialBearsOutSeen 19 = .ok (.aload_n 0, 1) := by decide +kernel
theorem dX9_trialBearsOutSeen_20 : decode cX9_trialBearsOutSeen 20 = .ok (.getfield 63, 3) := by decide +kernel
theorem dX9_trialBearsOutSeen_23 : decode cX9_trialBearsOutSeen 23 = .ok (.iconst 0, 1) := by decide +kernel
theorem dX9_trialBearsOutSeen_24 : decode cX9_trialBearsOutSeen 24 = .ok (.invokevirtual 243, 3) := by decide +kernel
theorem dX9_trialBearsOutSeen_27 : decode cX9_trialBearsOutSeen 27 = .ok (.aload_n 0, 1) := by decide +kernel
theorem dX9_trialBearsOutSeen_28 : decode cX9_trialBearsOutSeen 28 = .ok (.getfield 89, 3) := by decide +kernel
theorem dX9_trialBearsOutSeen_31 : decode cX9_trialBearsOutSeen 31 = .ok (.iload_n 2, 1) := by decide +kernel
theorem dX9_trialBearsOutSeen_32 : decode cX9_trialBearsOutSeen 32 = .ok (.aload_n 0, 1) := by decide +kernel
theorem dX9_trialBearsOutSeen_33 : decode cX9_trialBearsOutSeen 33 = .ok (.getfield 63, 3) := by decide +kernel
theorem dX9_trialBearsOutSeen_36 : decode cX9_trialBearsOutSeen 36 = .ok (.getfield 168, 3) := by decide +kernel
theorem dX9_trialBearsOutSeen_39 : decode cX9_trialBearsOutSeen 39 = .ok (.invokevirtual 304, 3) := by decide +kernel
theorem dX9_trialBearsOutSeen_42 : decode cX9_trialBearsOutSeen 42 = .ok (.ifCond .ne 5, 3) := by decide +kernel
theorem dX9_trialBearsOutSeen_45 : decode cX9_trialBearsOutSeen 45 = .ok (.iconst 0, 1) := by decide +kernel
theorem dX9_trialBearsOutSeen_46 : decode cX9_trialBearsOutSeen 46 = .ok (.ireturn, 1) := by decide +kernel
theorem dX9_trialBearsOutSeen_47 : decode cX9_trialBearsOutSeen 47 = .ok (.iinc 2 1, 3) := by decide +kernel
theorem dX9_trialBearsOutSeen_50 : decode cX9_trialBearsOutSeen 50 = .ok (.goto (-40), 3) := by decide +kernel
theorem dX9_trialBearsOutSeen_53 : decode cX9_trialBearsOutSeen 53 = .ok (.iconst 1, 1) := by decide +kernel
theorem dX9_trialBearsOutSeen_54 : decode cX9_trialBearsOutSeen 54 = .ok (.ireturn, 1) := by decide +kernel
theorem hd_X9_trialBearsOutSeen : yX9_trialBearsOutSeen.cls = xCn 9 ∧ yX9_trialBearsOutSeen.cls ≠ "java/lang/invoke/MethodHandle" ∧ yX9_trialBearsOutSeen.cls ≠ "java/lang/invoke/VarHandle" ∧ (parseMethodDescriptor yX9_trialBearsOutSeen.desc).map (fun d => d.parameters.length) = some 0 := by decide +kernel
def k_X9_trialBearsOutSeen_53 (sh : List xSh) (d : xD) : Option (Int32 × xD) :=
  some ((1 : Int32), d)
def k_X9_trialBearsOutSeen_45 (sh : List xSh) (d : xD) : Option (Int32 × xD) :=
  some ((0 : Int32), d)
def b_X9_trialBearsOutSeen_10 (sh : List xSh) (rec10 : Nat → Int32 → Int32 → xD → Option (Int32 × xD)) (q0 : Nat) (x1 : Int32) (x2 : Int32) (d : xD) : Option (Int32 × xD) :=
  if x1 < x2 then (k_X9_trialBearsOutSeen_53 sh d) else ((xgR 9 sh d q0 12).bind fun v1 => (xgR 9 sh d q0 10).bind fun v2 => (xon 2 sh v1 (f_X2_oneMinute sh v1 v2 (0 : Int32) d)).bind fun d3 => (xgR 9 sh d3 q0 14).bind fun v4 => (xgR 9 sh d3 q0 10).bind fun v5 => (xgR 4 sh d3 v5 13).bind fun v6 => (xon 5 sh v4 (f_X5_agrees sh v4 x2 v6 d3)).bind fun z7 => if z7.1 = 0 then (k_X9_trialBearsOutSeen_45 sh z7.2) else (rec10 q0 x1 (x2 + 1) z7.2))
def f_X9_trialBearsOutSeen (sh : List xSh) (q0 : Nat) (d : xD) : Option (Int32 × xD) :=
  (xgR 9 sh d q0 14).bind fun v8 => (xon 5 sh v8 (f_X5_lastMinute sh v8 d)).bind fun z9 => xloop (fun _ _ _ _ => none) (b_X9_trialBearsOutSeen_10 sh) xF q0 z9.1 (1 : Int32) z9.2
set_option maxHeartbeats 4000000 in
set_option maxRecDepth 100000 in
theorem mt_X9_trialBearsOutSeen (l : Launch) (D : va_G) (cid : FieldType → ClassId) (b : Nat) (ex : Bool) (sa sv B0 : Nat) (sh : List xSh) (q0 : Nat) (d : xD) (r : Int32) (dz : xD) (hf : f_X9_trialBearsOutSeen sh q0 d = some (r, dz)) : xMet l yX9_trialBearsOutSeen cX9_trialBearsOutSeen 3 (some .boolean) 6 0 0 D cid b ex sa sv B0 [.ref (b + q0)] sh d (some (.int r)) sh dz := by
  refine xMet.of (by decide) (Nat.le_of_ble_eq_true rfl) ?_
  intro p e s m below meth c ls A S hr hin G hl
  have hl : lv_has ls 3 [(0, .ref (b + q0))] := hl
  generalize ([.ref (b + q0)] : List Value).toArray = av at S ⊢
  have hx := S.1
  have hb := S.2.1
  have hml := S.2.2.1
  have hown := S.2.2.2.1
  have hts := S.2.2.2.2.1
  have K53 : ∀ (d : xD), k_X9_trialBearsOutSeen_53 sh d = some (r, dz) → ∀ (H : Heap) (locs : List Loc) (ls : Array Slot), lv_has ls 3 [] → xG D cid b A sh d s H locs → W p l e (xRm 6 0 0) s m av below meth c H locs 0 0 (MQ below (xQ D cid b ex A (some (.int r)) sh dz) av s 0 0 A) (F0 m 53 ls []) := by
    intro d hf H locs ls hl G
    unfold k_X9_trialBearsOutSeen_53 at hf
    refine lv_iconst (v := (1 : Int32)) hx hb dX9_trialBearsOutSeen_53 (by decide) ?_
    cases hf
    exact xr_zret S G (fun _ => rfl) hr (by decide) dX9_trialBearsOutSeen_54
  have K45 : ∀ (d : xD), k_X9_trialBearsOutSeen_45 sh d = some (r, dz) → ∀ (H : Heap) (locs : List Loc) (ls : Array Slot), lv_has ls 3 [] → xG D cid b A sh d s H locs → W p l e (xRm 6 0 0) s m av below meth c H locs 0 0 (MQ below (xQ D cid b ex A (some (.int r)) sh dz) av s 0 0 A) (F0 m 45 ls []) := by
    intro d hf H locs ls hl G
    unfold k_X9_trialBearsOutSeen_45 at hf
    refine lv_iconst (v := (0 : Int32)) hx hb dX9_trialBearsOutSeen_45 (by decide) ?_
    cases hf
    exact xr_zret S G (fun _ => rfl) hr (by decide) dX9_trialBearsOutSeen_46
  have K10 : ∀ (n : Nat) (q0 : Nat) (x1 : Int32) (x2 : Int32) (d : xD), xloop (fun _ _ _ _ => none) (b_X9_trialBearsOutSeen_10 sh) n q0 x1 x2 d = some (r, dz) → ∀ (H : Heap) (locs : List Loc) (ls : Array Slot), lv_has ls 3 [(0, .ref (b + q0)), (1, .int x1), (2, .int x2)] → xG D cid b A sh d s H locs → W p l e (xRm 6 0 0) s m av below meth c H locs 0 0 (MQ below (xQ D cid b ex A (some (.int r)) sh dz) av s 0 0 A) (F0 m 10 ls []) := by
    intro n
    induction n with
    | zero =>
      intro q0 x1 x2 d hf
      have hf : (none : Option (Int32 × xD)) = some (r, dz) := hf
      cases hf
    | succ n hrec10 =>
      intro q0 x1 x2 d hf H locs ls hl G
      have hf : b_X9_trialBearsOutSeen_10 sh (xloop (fun _ _ _ _ => none) (b_X9_trialBearsOutSeen_10 sh) n) q0 x1 x2 d = some (r, dz) := hf
      unfold b_X9_trialBearsOutSeen_10 at hf
      refine lv_iload_n hx hb dX9_trialBearsOutSeen_10 rfl (lv_at hl 2 rfl) ?_
      refine lv_iload_n hx hb dX9_trialBearsOutSeen_11 rfl (lv_at hl 1 rfl) ?_
      refine lv_icmp_gt (tgt := 53) hx hb dX9_trialBearsOutSeen_12 (by decide) (fun c => ?_) (fun c => ?_)
      · have hf := x_pos c hf
        exact K53 d hf _ _ ls (lv_sub hl [] rfl) G
      · have hf := x_neg c hf
        refine lv_aload_n hx hb dX9_trialBearsOutSeen_15 rfl (lv_at hl 0 rfl) ?_
        obtain ⟨v1, hv1, hf⟩ := x_ob hf
        refine xr_getR (ci := 9) (k := 12) S G hv1 rfl kw_493 dX9_trialBearsOutSeen_16 ?_
        refine lv_aload_n hx hb dX9_trialBearsOutSeen_19 rfl (lv_at hl 0 rfl) ?_
        obtain ⟨v2, hv2, hf⟩ := x_ob hf
        refine xr_getR (ci := 9) (k := 10) S G hv2 rfl kw_491 dX9_trialBearsOutSeen_20 ?_
        refine lv_iconst (v := (0 : Int32)) hx hb dX9_trialBearsOutSeen_23 (by decide) ?_
        obtain ⟨d3, hd3, hf⟩ := x_ob hf
        obtain ⟨hqd3, hd3⟩ := xon_of hd3
        refine xr_callV (ci := 2) (As := [.ref (b + v2), .int (0 : Int32)]) (rest := []) (st1 := []) S G hl.1 (fun _ => rfl) (mt_X2_oneMinute l D cid b ex sa sv B0 sh v1 v2 (0 : Int32) d _ hd3) hqd3 (by decide) kw_914 kw_836 kw_837 kw_13 kw_838 hd_X2_oneMinute ⟨Nat.le_of_ble_eq_true rfl, Nat.le_of_ble_eq_true rfl⟩ rfl rfl rfl (Nat.le_of_ble_eq_true rfl) ⟨Nat.le_of_ble_eq_true rfl, Nat.le_of_ble_eq_true rfl⟩ dX9_trialBearsOutSeen_24 (fun H locs G => ?_)
        refine lv_aload_n hx hb dX9_trialBearsOutSeen_27 rfl (lv_at hl 0 rfl) ?_
        obtain ⟨v4, hv4, hf⟩ := x_ob hf
        refine xr_getR (ci := 9) (k := 14) S G hv4 rfl kw_495 dX9_trialBearsOutSeen_28 ?_
        refine lv_iload_n hx hb dX9_trialBearsOutSeen_31 rfl (lv_at hl 2 rfl) ?_
        refine lv_aload_n hx hb dX9_trialBearsOutSeen_32 rfl (lv_at hl 0 rfl) ?_
        obtain ⟨v5, hv5, hf⟩ := x_ob hf
        refine xr_getR (ci := 9) (k := 10) S G hv5 rfl kw_491 dX9_trialBearsOutSeen_33 ?_
        obtain ⟨v6, hv6, hf⟩ := x_ob hf
        refine xr_getR (ci := 4) (k := 13) S G hv6 rfl kw_352 dX9_trialBearsOutSeen_36 ?_
        obtain ⟨z7, hz7, hf⟩ := x_ob hf
        obtain ⟨hqz7, hz7⟩ := xon_of hz7
        refine xr_callV (ci := 5) (As := [.int x2, .ref (b + v6)]) (rest := []) (st1 := [.int z7.1]) S G hl.1 (fun _ => rfl) (mt_X5_agrees l D cid b ex sa sv B0 sh v4 x2 v6 d3 _ _ hz7) hqz7 (by decide) kw_1020 kw_1021 kw_1022 kw_15 kw_1023 hd_X5_agrees ⟨Nat.le_of_ble_eq_true rfl, Nat.le_of_ble_eq_true rfl⟩ rfl rfl rfl (Nat.le_of_ble_eq_true rfl) ⟨Nat.le_of_ble_eq_true rfl, Nat.le_of_ble_eq_true rfl⟩ dX9_trialBearsOutSeen_39 (fun H locs G => ?_)
        refine lv_if_ne (tgt := 47) hx hb dX9_trialBearsOutSeen_42 (by decide) (fun c => ?_) (fun c => ?_)
        · have hf := x_neg c hf
          refine lv_iinc (v := (x2 + 1)) (lv' := [(2, .int (x2 + 1)), (0, .ref (b + q0)), (1, .int x1)]) hx hb dX9_trialBearsOutSeen_47 hl (k := 2) rfl rfl (by decide) rfl (fun ls hl => ?_)
          refine lv_goto (tgt := 10) hx hb dX9_trialBearsOutSeen_50 (by decide) ?_
          exact hrec10 q0 x1 (x2 + 1) z7.2 hf _ _ ls (lv_sub hl [1, 2, 0] rfl) G
        · have hf := x_pos c hf
          exact K45 z7.2 hf _ _ ls (lv_sub hl [] rfl) G
  unfold f_X9_trialBearsOutSeen at hf
  refine lv_aload_n hx hb dX9_trialBearsOutSeen_0 rfl (lv_at hl 0 rfl) ?_
  obtain ⟨v8, hv8, hf⟩ := x_ob hf
  refine xr_getR (ci := 9) (k := 14) S G hv8 rfl kw_495 dX9_trialBearsOutSeen_1 ?_
  obtain ⟨z9, hz9, hf⟩ := x_ob hf
  obtain ⟨hqz9, hz9⟩ := xon_of hz9
  refine xr_callV (ci := 5) (As := []) (rest := []) (st1 := [.int z9.1]) S G hl.1 (fun _ => rfl) (mt_X5_lastMinute l D cid b ex sa sv B0 sh v8 d _ _ hz9) hqz9 (by decide) kw_1009 kw_1010 kw_1011 kw_15 kw_1012 hd_X5_lastMinute ⟨Nat.le_of_ble_eq_true rfl, Nat.le_of_ble_eq_true rfl⟩ rfl rfl rfl (Nat.le_of_ble_eq_true rfl) ⟨Nat.le_of_ble_eq_true rfl, Nat.le_of_ble_eq_true rfl⟩ dX9_trialBearsOutSeen_4 (fun H locs G => ?_)
  refine lv_istore_n (lv' := [(1, .int z9.1), (0, .ref (b + q0))]) hx hb dX9_trialBearsOutSeen_7 rfl hl (by decide) rfl (fun ls hl => ?_)
  refine lv_iconst (v := (1 : Int32)) hx hb dX9_trialBearsOutSeen_8 (by decide) ?_
  refine lv_istore_n (lv' := [(2, .int (1 : Int32)), (1, .int z9.1), (0, .ref (b + q0))]) hx hb dX9_trialBearsOutSeen_9 rfl hl (by decide) rfl (fun ls hl => ?_)
  exact K10 xF q0 z9.1 (1 : Int32) z9.2 hf _ _ ls (lv_sub hl [2, 1, 0] rfl) G
-- HalfLandings.paces(I)I
theorem dX9_paces_0 : decode cX9_paces 0 = .ok (.aload_n 0, 1) := by decide +kernel
theorem dX9_paces_1 : decode cX9_paces 1 = .ok (.getfield 28, 3) := by decide +kernel
theorem dX9_paces_4 : decode cX9_paces 4 = .ok (.iload_n 1, 1) := by decide +kernel
theorem dX9_paces_5 : decode cX9_paces 5 = .ok (.invokevirtual 121, 3) := by decide +kernel
theorem dX9_paces_8 : decode cX9_paces 8 = .ok (.ifCond .ne 5, 3) := by decide +kernel
theorem dX9_paces_11 : decode cX9_paces 11 = .ok (.iconst (-1), 1) := by decide +kernel
theorem dX9_paces_12 : decode cX9_paces 12 = .ok (.ireturn, 1) := by decide +kernel
theorem dX9_paces_13 : decode cX9_paces 13 = .ok (.aload_n 0, 1) := by decide +kernel
theorem dX9_paces_14 : decode cX9_paces 14 = .ok (.getfield 89, 3) := by decide +kernel
theorem dX9_paces_17 : decode cX9_paces 17 = .ok (.invokevirtual 294, 3) := by decide +kernel
theorem dX9_paces_20 : decode cX9_paces 20 = .ok (.iconst 0, 1) := by decide +kernel
theorem dX9_paces_21 : decode cX9_paces 21 = .ok (.istore_n 2, 1) := by decide +kernel
theorem dX9_paces_22 : decode cX9_paces 22 = .ok (.iconst 1, 1) := by decide +kernel
theorem dX9_paces_23 : decode cX9_paces 23 = .ok (.istore_n 3, 1) := by decide +kernel
theorem dX9_paces_24 : decode cX9_paces 24 = .ok (.iload_n 3, 1) := by decide +kernel
theorem dX9_paces_25 : decode cX9_paces 25 = .ok (.bipush 9, 2) := by decide +kernel
theorem dX9_paces_27 : decode cX9_paces 27 = .ok (.if_icmp .gt 45, 3) := by decide +kernel
theorem dX9_paces_30 : decode cX9_paces 30 = .ok (.aload_n 0, 1) := by decide +kernel
theorem dX9_paces_31 : decode cX9_paces 31 = .ok (.getfield 63, 3) := by decide +kernel
theorem dX9_paces_34 : decode cX9_paces 34 = .ok (.aload_n 0, 1) := by decide +kernel
theorem dX9_paces_35 : decode cX9_paces 35 = .ok (.getfield 28, 3) := by decide +kernel
theorem dX9_paces_38 : decode cX9_paces 38 = .ok (.invokevirtual 93, 3) := by decide +kernel
theorem dX9_paces_41 : decode cX9_paces 41 = .ok (.aload_n 0, 1) := by decide +kernel
theorem dX9_paces_42 : decode cX9_paces 42 = .ok (.getfield 63, 3) := by decide +kernel
theorem dX9_paces_45 : decode cX9_paces 45 = .ok (.getfield 142, 3) := by decide +kernel
theorem dX9_paces_48 : decode cX9_paces 48 = .ok (.iload_n 1, 1) := by decide +kernel
theorem dX9_paces_49 : decode cX9_paces 49 = .ok (.iload_n 3, 1) := by decide +kernel
theorem dX9_paces_50 : decode cX9_paces 50 = .ok (.iastore, 1) := by decide +kernel
theorem dX9_paces_51 : decode cX9_paces 51 = .ok (.aload_n 0, 1) := by decide +kernel
theorem dX9_paces_52 : decode cX9_paces 52 = .ok (.invokevirtual 297, 3) := by decide +kernel
theorem dX9_paces_55 : decode cX9_paces 55 = .ok (.ifCond .eq 11, 3) := by decide +kernel
theorem dX9_paces_58 : decode cX9_paces 58 = .ok (.iload_n 2, 1) := by decide +kernel
theorem dX9_paces_59 : decode cX9_paces 59 = .ok (.iconst 1, 1) := by decide +kernel
theorem dX9_paces_60 : decode cX9_paces 60 = .ok (.iload_n 3, 1) := by decide +kernel
theorem dX9_paces_61 : decode cX9_paces 61 = .ok (.iconst 1, 1) := by decide +kernel
theorem dX9_paces_62 : decode cX9_paces 62 = .ok (.isub, 1) := by decide +kernel
theorem dX9_paces_63 : decode cX9_paces 63 = .ok (.ishl, 1) := by decide +kernel
theorem dX9_paces_64 : decode cX9_paces 64 = .ok (.ior, 1) := by decide +kernel
theorem dX9_paces_65 : decode cX9_paces 65 = .ok (.istore_n 2, 1) := by decide +kernel
theorem dX9_paces_66 : decode cX9_paces 66 = .ok (.iinc 3 1, 3) := by decide +kernel
theorem dX9_paces_69 : decode cX9_paces 69 = .ok (.goto (-45), 3) := by decide +kernel
theorem dX9_paces_72 : decode cX9_paces 72 = .ok (.iload_n 2, 1) := by decide +kernel
theorem dX9_paces_73 : decode cX9_paces 73 = .ok (.ireturn, 1) := by decide +kernel
theorem hd_X9_paces : yX9_paces.cls = xCn 9 ∧ yX9_paces.cls ≠ "java/lang/invoke/MethodHandle" ∧ yX9_paces.cls ≠ "java/lang/invoke/VarHandle" ∧ (parseMethodDescriptor yX9_paces.desc).map (fun d => d.parameters.length) = some 1 := by decide +kernel
def k_X9_paces_72 (sh : List xSh) (x2 : Int32) (d : xD) : Option (Int32 × xD) :=
  some (x2, d)
def k_X9_paces_66 (sh : List xSh) (rec24 : Nat → Int32 → Int32 → Int32 → xD → Option (Int32 × xD)) (q0 : Nat) (x1 : Int32) (x2 : Int32) (x3 : Int32) (d : xD) : Option (Int32 × xD) :=
  rec24 q0 x1 x2 (x3 + 1) d
def b_X9_paces_24 (sh : List xSh) (rec24 : Nat → Int32 → Int32 → Int32 → xD → Option (Int32 × xD)) (q0 : Nat) (x1 : Int32) (x2 : Int32) (x3 : Int32) (d : xD) : Option (Int32 × xD) :=
  if (9 : Int32) < x3 then (k_X9_paces_72 sh x2 d) else ((xgR 9 sh d q0 10).bind fun v1 => (xgR 9 sh d q0 4).bind fun v2 => (xon 4 sh v1 (f_X4_begin sh v1 v2 d)).bind fun d3 => (xgR 9 sh d3 q0 10).bind fun v4 => (xgR 4 sh d3 v4 8).bind fun v5 => (xsI .int sh d3 v5 x1 x3).bind fun d6 => (xon 9 sh q0 (f_X9_trialBearsOutSeen sh q0 d6)).bind fun z7 => if z7.1 = 0 then (k_X9_paces_66 sh rec24 q0 x1 x2 x3 z7.2) else (k_X9_paces_66 sh rec24 q0 x1 (x2 ||| ((1 : Int32) <<< ((x3 - (1 : Int32)) &&& 31))) x3 z7.2))
def f_X9_paces (sh : List xSh) (q0 : Nat) (x1 : Int32) (d : xD) : Option (Int32 × xD) :=
  (xgR 9 sh d q0 4).bind fun v8 => (xon 3 sh v8 (f_X3_hasWalker sh v8 x1 d)).bind fun z9 => if z9.1 = 0 then (some ((-1 : Int32), z9.2)) else ((xgR 9 sh z9.2 q0 14).bind fun v10 => (xon 5 sh v10 (f_X5_sift sh v10 z9.2)).bind fun d11 => xloop (fun _ _ _ _ _ => none) (b_X9_paces_24 sh) xF q0 x1 (0 : Int32) (1 : Int32) d11)
set_option maxHeartbeats 4000000 in
set_option maxRecDepth 100000 in
theorem mt_X9_paces (l : Launch) (D : va_G) (cid : FieldType → ClassId) (b : Nat) (ex : Bool) (sa sv B0 : Nat) (sh : List xSh) (q0 : Nat) (x1 : Int32) (d : xD) (r : Int32) (dz : xD) (hf : f_X9_paces sh q0 x1 d = some (r, dz)) : xMet l yX9_paces cX9_paces 4 (some .int) 7 0 0 D cid b ex sa sv B0 [.ref (b + q0), .int x1] sh d (some (.int r)) sh dz := by
  refine xMet.of (by decide) (Nat.le_of_ble_eq_true rfl) ?_
  intro p e s m below meth c ls A S hr hin G hl
  have hl : lv_has ls 4 [(0, .ref (b + q0)), (1, .int x1)] := hl
  generalize ([.ref (b + q0), .int x1] : List Value).toArray = av at S ⊢
  have hx := S.1
  have hb := S.2.1
  have hml := S.2.2.1
  have hown := S.2.2.2.1
  have hts := S.2.2.2.2.1
  have K72 : ∀ (x2 : Int32) (d : xD), k_X9_paces_72 sh x2 d = some (r, dz) → ∀ (H : Heap) (locs : List Loc) (ls : Array Slot), lv_has ls 4 [(2, .int x2)] → xG D cid b A sh d s H locs → W p l e (xRm 7 0 0) s m av below meth c H locs 0 0 (MQ below (xQ D cid b ex A (some (.int r)) sh dz) av s 0 0 A) (F0 m 72 ls []) := by
    intro x2 d hf H locs ls hl G
    unfold k_X9_paces_72 at hf
    refine lv_iload_n hx hb dX9_paces_72 rfl (lv_at hl 0 rfl) ?_
    cases hf
    exact xr_iret S G (fun _ => rfl) hr dX9_paces_73
  have K66 : ∀ (rec24 : Nat → Int32 → Int32 → Int32 → xD → Option (Int32 × xD)) (hrec24 : ∀ (q0 : Nat) (x1 : Int32) (x2 : Int32) (x3 : Int32) (d : xD), rec24 q0 x1 x2 x3 d = some (r, dz) → ∀ (H : Heap) (locs : List Loc) (ls : Array Slot), lv_has ls 4 [(0, .ref (b + q0)), (1, .int x1), (2, .int x2), (3, .int x3)] → xG D cid b A sh d s H locs → W p l e (xRm 7 0 0) s m av below meth c H locs 0 0 (MQ below (xQ D cid b ex A (some (.int r)) sh dz) av s 0 0 A) (F0 m 24 ls [])) (q0 : Nat) (x1 : Int32) (x2 : Int32) (x3 : Int32) (d : xD), k_X9_paces_66 sh rec24 q0 x1 x2 x3 d = some (r, dz) → ∀ (H : Heap) (locs : List Loc) (ls : Array Slot), lv_has ls 4 [(0, .ref (b + q0)), (1, .int x1), (2, .int x2), (3, .int x3)] → xG D cid b A sh d s H locs → W p l e (xRm 7 0 0) s m av below meth c H locs 0 0 (MQ below (xQ D cid b ex A (some (.int r)) sh dz) av s 0 0 A) (F0 m 66 ls []) := by
    intro rec24 hrec24 q0 x1 x2 x3 d hf H locs ls hl G
    unfold k_X9_paces_66 at hf
    refine lv_iinc (v := (x3 + 1)) (lv' := [(3, .int (x3 + 1)), (0, .ref (b + q0)), (1, .int x1), (2, .int x2)]) hx hb dX9_paces_66 hl (k := 3) rfl rfl (by decide) rfl (fun ls hl => ?_)
    refine lv_goto (tgt := 24) hx hb dX9_paces_69 (by decide) ?_
    exact hrec24 q0 x1 x2 (x3 + 1) d hf _ _ ls (lv_sub hl [1, 2, 3, 0] rfl) G
  have K24 : ∀ (n : Nat) (q0 : Nat) (x1 : Int32) (x2 : Int32) (x3 : Int32) (d : xD), xloop (fun _ _ _ _ _ => none) (b_X9_paces_24 sh) n q0 x1 x2 x3 d = some (r, dz) → ∀ (H : Heap) (locs : List Loc) (ls : Array Slot), lv_has ls 4 [(0, .ref (b + q0)), (1, .int x1), (2, .int x2), (3, .int x3)] → xG D cid b A sh d s H locs → W p l e (xRm 7 0 0) s m av below meth c H locs 0 0 (MQ below (xQ D cid b ex A (some (.int r)) sh dz) av s 0 0 A) (F0 m 24 ls []) := by
    intro n
    induction n with
    | zero =>
      intro q0 x1 x2 x3 d hf
      have hf : (none : Option (Int32 × xD)) = some (r, dz) := hf
      cases hf
    | succ n hrec24 =>
      intro q0 x1 x2 x3 d hf H locs ls hl G
      have hf : b_X9_paces_24 sh (xloop (fun _ _ _ _ _ => none) (b_X9_paces_24 sh) n) q0 x1 x2 x3 d = some (r, dz) := hf
      unfold b_X9_paces_24 at hf
      refine lv_iload_n hx hb dX9_paces_24 rfl (lv_at hl 3 rfl) ?_
      refine lv_bipush (v := (9 : Int32)) hx hb dX9_paces_25 (by decide) ?_
      refine lv_icmp_gt (tgt := 72) hx hb dX9_paces_27 (by decide) (fun c => ?_) (fun c => ?_)
      · have hf := x_pos c hf
        exact K72 x2 d hf _ _ ls (lv_sub hl [2] rfl) G
      · have hf := x_neg c hf
        refine lv_aload_n hx hb dX9_paces_30 rfl (lv_at hl 0 rfl) ?_
        obtain ⟨v1, hv1, hf⟩ := x_ob hf
        refine xr_getR (ci := 9) (k := 10) S G hv1 rfl kw_491 dX9_paces_31 ?_
        refine lv_aload_n hx hb dX9_paces_34 rfl (lv_at hl 0 rfl) ?_
        obtain ⟨v2, hv2, hf⟩ := x_ob hf
        refine xr_getR (ci := 9) (k := 4) S G hv2 rfl kw_485 dX9_paces_35 ?_
        obtain ⟨d3, hd3, hf⟩ := x_ob hf
        obtain ⟨hqd3, hd3⟩ := xon_of hd3
        refine xr_callV (ci := 4) (As := [.ref (b + v2)]) (rest := []) (st1 := []) S G hl.1 (fun _ => rfl) (mt_X4_begin l D cid b ex sa sv B0 sh v1 v2 d _ hd3) hqd3 (by decide) kw_469 kw_470 kw_471 kw_12 kw_472 hd_X4_begin ⟨Nat.le_of_ble_eq_true rfl, Nat.le_of_ble_eq_true rfl⟩ rfl rfl rfl (Nat.le_of_ble_eq_true rfl) ⟨Nat.le_of_ble_eq_true rfl, Nat.le_of_ble_eq_true rfl⟩ dX9_paces_38 (fun H locs G => ?_)
        refine lv_aload_n hx hb dX9_paces_41 rfl (lv_at hl 0 rfl) ?_
        obtain ⟨v4, hv4, hf⟩ := x_ob hf
        refine xr_getR (ci := 9) (k := 10) S G hv4 rfl kw_491 dX9_paces_42 ?_
        obtain ⟨v5, hv5, hf⟩ := x_ob hf
        refine xr_getR (ci := 4) (k := 8) S G hv5 rfl kw_338 dX9_paces_45 ?_
        refine lv_iload_n hx hb dX9_paces_48 rfl (lv_at hl 1 rfl) ?_
        refine lv_iload_n hx hb dX9_paces_49 rfl (lv_at hl 3 rfl) ?_
        obtain ⟨d6, hd6, hf⟩ := x_ob hf
        refine xr_iast S G hd6 dX9_paces_50 (fun H locs G => ?_)
        refine lv_aload_n hx hb dX9_paces_51 rfl (lv_at hl 0 rfl) ?_
        obtain ⟨z7, hz7, hf⟩ := x_ob hf
        obtain ⟨hqz7, hz7⟩ := xon_of hz7
        refine xr_callV (ci := 9) (As := []) (rest := []) (st1 := [.int z7.1]) S G hl.1 (fun _ => rfl) (mt_X9_trialBearsOutSeen l D cid b ex sa sv B0 sh q0 d6 _ _ hz7) hqz7 (by decide) kw_1005 kw_1007 ks_31 kw_1 kw_1008 hd_X9_trialBearsOutSeen ⟨Nat.le_of_ble_eq_true rfl, Nat.le_of_ble_eq_true rfl⟩ rfl rfl rfl (Nat.le_of_ble_eq_true rfl) ⟨Nat.le_of_ble_eq_true rfl, Nat.le_of_ble_eq_true rfl⟩ dX9_paces_52 (fun H locs G => ?_)
        refine lv_if_eq (tgt := 66) hx hb dX9_paces_55 (by decide) (fun c => ?_) (fun c => ?_)
        · have hf := x_pos c hf
          exact K66 _ hrec24 q0 x1 x2 x3 z7.2 hf _ _ ls (lv_sub hl [0, 1, 2, 3] rfl) G
        · have hf := x_neg c hf
          refine lv_iload_n hx hb dX9_paces_58 rfl (lv_at hl 2 rfl) ?_
          refine lv_iconst (v := (1 : Int32)) hx hb dX9_paces_59 (by decide) ?_
          refine lv_iload_n hx hb dX9_paces_60 rfl (lv_at hl 3 rfl) ?_
          refine lv_iconst (v := (1 : Int32)) hx hb dX9_paces_61 (by decide) ?_
          refine lv_isub hx hb dX9_paces_62 ?_
          refine lv_ishl hx hb dX9_paces_63 ?_
          refine lv_ior hx hb dX9_paces_64 ?_
          refine lv_istore_n (lv' := [(2, .int (x2 ||| ((1 : Int32) <<< ((x3 - (1 : Int32)) &&& 31)))), (0, .ref (b + q0)), (1, .int x1), (3, .int x3)]) hx hb dX9_paces_65 rfl hl (by decide) rfl (fun ls hl => ?_)
          exact K66 _ hrec24 q0 x1 (x2 ||| ((1 : Int32) <<< ((x3 - (1 : Int32)) &&& 31))) x3 z7.2 hf _ _ ls (lv_sub hl [1, 2, 0, 3] rfl) G
  unfold f_X9_paces at hf
  refine lv_aload_n hx hb dX9_paces_0 rfl (lv_at hl 0 rfl) ?_
  obtain ⟨v8, hv8, hf⟩ := x_ob hf
  refine xr_getR (ci := 9) (k := 4) S G hv8 rfl kw_485 dX9_paces_1 ?_
  refine lv_iload_n hx hb dX9_paces_4 rfl (lv_at hl 1 rfl) ?_
  obtain ⟨z9, hz9, hf⟩ := x_ob hf
  obtain ⟨hqz9, hz9⟩ := xon_of hz9
  refine xr_callV (ci := 3) (As := [.int x1]) (rest := []) (st1 := [.int z9.1]) S G hl.1 (fun _ => rfl) (mt_X3_hasWalker l D cid b ex sa sv B0 sh v8 x1 d _ _ hz9) hqz9 (by decide) kw_758 kw_759 kw_760 kw_2 kw_761 hd_X3_hasWalker ⟨Nat.le_of_ble_eq_true rfl, Nat.le_of_ble_eq_true rfl⟩ rfl rfl rfl (Nat.le_of_ble_eq_true rfl) ⟨Nat.le_of_ble_eq_true rfl, Nat.le_of_ble_eq_true rfl⟩ dX9_paces_5 (fun H locs G => ?_)
  refine lv_if_ne (tgt := 13) hx hb dX9_paces_8 (by decide) (fun c => ?_) (fun c => ?_)
  · have hf := x_neg c hf
    refine lv_aload_n hx hb dX9_paces_13 rfl (lv_at hl 0 rfl) ?_
    obtain ⟨v10, hv10, hf⟩ := x_ob hf
    refine xr_getR (ci := 9) (k := 14) S G hv10 rfl kw_495 dX9_paces_14 ?_
    obtain ⟨d11, hd11, hf⟩ := x_ob hf
    obtain ⟨hqd11, hd11⟩ := xon_of hd11
    refine xr_callV (ci := 5) (As := []) (rest := []) (st1 := []) S G hl.1 (fun _ => rfl) (mt_X5_sift l D cid b ex sa sv B0 sh v10 z9.2 _ hd11) hqd11 (by decide) kw_997 kw_998 kw_999 kw_15 kw_1000 hd_X5_sift ⟨Nat.le_of_ble_eq_true rfl, Nat.le_of_ble_eq_true rfl⟩ rfl rfl rfl (Nat.le_of_ble_eq_true rfl) ⟨Nat.le_of_ble_eq_true rfl, Nat.le_of_ble_eq_true rfl⟩ dX9_paces_17 (fun H locs G => ?_)
    refine lv_iconst (v := (0 : Int32)) hx hb dX9_paces_20 (by decide) ?_
    refine lv_istore_n (lv' := [(2, .int (0 : Int32)), (0, .ref (b + q0)), (1, .int x1)]) hx hb dX9_paces_21 rfl hl (by decide) rfl (fun ls hl => ?_)
    refine lv_iconst (v := (1 : Int32)) hx hb dX9_paces_22 (by decide) ?_
    refine lv_istore_n (lv' := [(3, .int (1 : Int32)), (2, .int (0 : Int32)), (0, .ref (b + q0)), (1, .int x1)]) hx hb dX9_paces_23 rfl hl (by decide) rfl (fun ls hl => ?_)
    exact K24 xF q0 x1 (0 : Int32) (1 : Int32) d11 hf _ _ ls (lv_sub hl [2, 3, 1, 0] rfl) G
  · have hf := x_pos c hf
    refine lv_iconst (v := (-1 : Int32)) hx hb dX9_paces_11 (by decide) ?_
    cases hf
    exact xr_iret S G (fun _ => rfl) hr dX9_paces_12
-- HalfLandings.chance(III)I
theorem dX9_chance_0 : decode cX9_chance 0 = .ok (.iload_n 1, 1) := by decide +kernel
theorem dX9_chance_1 : decode cX9_chance 1 = .ok (.ifCond .lt 25, 3) := by decide +kernel
theorem dX9_chance_4 : decode cX9_chance 4 = .ok (.iload_n 2, 1) := by decide +kernel
theorem dX9_chance_5 : decode cX9_chance 5 = .ok (.iconst 1, 1) := by decide +kernel
theorem dX9_chance_6 : decode cX9_chance 6 = .ok (.if_icmp .lt 20, 3) := by decide +kernel
theorem dX9_chance_9 : decode cX9_chance 9 = .ok (.iload_n 2, 1) := by decide +kernel
theorem dX9_chance_10 : decode cX9_chance 10 = .ok (.bipush 99, 2) := by decide +kernel
theorem dX9_chance_12 : decode cX9_chance 12 = .ok (.if_icmp .gt 14, 3) := by decide +kernel
theorem dX9_chance_15 : decode cX9_chance 15 = .ok (.iload_n 3, 1) := by decide +kernel
theorem dX9_chance_16 : decode cX9_chance 16 = .ok (.ifCond .lt 10, 3) := by decide +kernel
theorem dX9_chance_19 : decode cX9_chance 19 = .ok (.iload_n 3, 1) := by decide +kernel
theorem dX9_chance_20 : decode cX9_chance 20 = .ok (.sipush 9999, 3) := by decide +kernel
theorem dX9_chance_23 : decode cX9_chance 23 = .ok (.if_icmp .le 5, 3) := by decide +kernel
theorem dX9_chance_26 : decode cX9_chance 26 = .ok (.iconst (-1), 1) := by decide +kernel
theorem dX9_chance_27 : decode cX9_chance 27 = .ok (.ireturn, 1) := by decide +kernel
theorem dX9_chance_28 : decode cX9_chance 28 = .ok (.iload_n 1, 1) := by decide +kernel
theorem dX9_chance_29 : decode cX9_chance 29 = .ok (.i2l, 1) := by decide +kernel
theorem dX9_chance_30 : decode cX9_chance 30 = .ok (.lstore 4, 2) := by decide +kernel
theorem dX9_chance_32 : decode cX9_chance 32 = .ok (.iconst 0, 1) := by decide +kernel
theorem dX9_chance_33 : decode cX9_chance 33 = .ok (.istore 6, 2) := by decide +kernel
theorem dX9_chance_35 : decode cX9_chance 35 = .ok (.iconst 0, 1) := by decide +kernel
theorem dX9_chance_36 : decode cX9_chance 36 = .ok (.istore 7, 2) := by decide +kernel
theorem dX9_chance_38 : decode cX9_chance 38 = .ok (.iload 7, 2) := by decide +kernel
theorem dX9_chance_40 : decode cX9_chance 40 = .ok (.bipush 10, 2) := by decide +kernel
theorem dX9_chance_42 : decode cX9_chance 42 = .ok (.if_icmp .ge 58, 3) := by decide +kernel
theorem dX9_chance_45 : decode cX9_chance 45 = .ok (.aload_n 0, 1) := by decide +kernel
theorem dX9_chance_46 : decode cX9_chance 46 = .ok (.getfield 63, 3) := by decide +kernel
theorem dX9_chance_49 : decode cX9_chance 49 = .ok (.aload_n 0, 1) := by decide +kernel
theorem dX9_chance_50 : decode cX9_chance 50 = .ok (.getfield 56, 3) := by decide +kernel
theorem dX9_chance_53 : decode cX9_chance 53 = .ok (.invokevirtual 233, 3) := by decide +kernel
theorem dX9_chance_56 : decode cX9_chance 56 = .ok (.aload_n 0, 1) := by decide +kernel
theorem dX9_chance_57 : decode cX9_chance 57 = .ok (.getfield 63, 3) := by decide +kernel
theorem dX9_chance_60 : decode cX9_chance 60 = .ok (.lload 4, 2) := by decide +kernel
theorem dX9_chance_62 : decode cX9_chance 62 = .ok (.putfield 308, 3) := by decide +kernel
theorem dX9_chance_65 : decode cX9_chance 65 = .ok (.aload_n 0, 1) := by decide +kernel
theorem dX9_chance_66 : decode cX9_chance 66 = .ok (.getfield 75, 3) := by decide +kernel
theorem dX9_chance_69 : decode cX9_chance 69 = .ok (.aload_n 0, 1) := by decide +kernel
theorem dX9_chance_70 : decode cX9_chance 70 = .ok (.getfield 63, 3) := by decide +kernel
theorem dX9_chance_73 : decode cX9_chance 73 = .ok (.iload_n 2, 1) := by decide +kernel
theorem dX9_chance_74 : decode cX9_chance 74 = .ok (.iconst 2, 1) := by decide +kernel
theorem dX9_chance_75 : decode cX9_chance 75 = .ok (.invokevirtual 229, 3) := by decide +kernel
theorem dX9_chance_78 : decode cX9_chance 78 = .ok (.iload_n 3, 1) := by decide +kernel
theorem dX9_chance_79 : decode cX9_chance 79 = .ok (.if_icmp .lt 6, 3) := by decide +kernel
theorem dX9_chance_82 : decode cX9_chance 82 = .ok (.iinc 6 1, 3) := by decide +kernel
theorem dX9_chance_85 : decode cX9_chance 85 = .ok (.aload_n 0, 1) := by decide +kernel
theorem dX9_chance_86 : decode cX9_chance 86 = .ok (.getfield 63, 3) := by decide +kernel
theorem dX9_chance_89 : decode cX9_chance 89 = .ok (.getfield 308, 3) := by decide +kernel
theorem dX9_chance_92 : decode cX9_chance 92 = .ok (.lstore 4, 2) := by decide +kernel
theorem dX9_chance_94 : decode cX9_chance 94 = .ok (.iinc 7 1, 3) := by decide +kernel
theorem dX9_chance_97 : decode cX9_chance 97 = .ok (.goto (-59), 3) := by decide +kernel
theorem dX9_chance_100 : decode cX9_chance 100 = .ok (.iload 6, 2) := by decide +kernel
theorem dX9_chance_102 : decode cX9_chance 102 = .ok (.ireturn, 1) := by decide +kernel
theorem hd_X9_chance : yX9_chance.cls = xCn 9 ∧ yX9_chance.cls ≠ "java/lang/invoke/MethodHandle" ∧ yX9_chance.cls ≠ "java/lang/invoke/VarHandle" ∧ (parseMethodDescriptor yX9_chance.desc).map (fun d => d.parameters.length) = some 3 := by decide +kernel
def k_X9_chance_26 (sh : List xSh) (d : xD) : Option (Int32 × xD) :=
  some ((-1 : Int32), d)
def k_X9_chance_100 (sh : List xSh) (x6 : Int32) (d : xD) : Option (Int32 × xD) :=
  some (x6, d)
def k_X9_chance_85 (sh : List xSh) (rec38 : Nat → Int32 → Int32 → Int64 → Int32 → Int32 → xD → Option (Int32 × xD)) (q0 : Nat) (x2 : Int32) (x3 : Int32) (x6 : Int32) (x7 : Int32) (d : xD) : Option (Int32 × xD) :=
  (xgR 9 sh d q0 10).bind fun v1 => (xgL 4 sh d v1 3).bind fun v2 => rec38 q0 x2 x3 v2 x6 (x7 + 1) d
def b_X9_chance_38 (sh : List xSh) (rec38 : Nat → Int32 → Int32 → Int64 → Int32 → Int32 → xD → Option (Int32 × xD)) (q0 : Nat) (x2 : Int32) (x3 : Int32) (x4 : Int64) (x6 : Int32) (x7 : Int32) (d : xD) : Option (Int32 × xD) :=
  if (10 : Int32) ≤ x7 then (k_X9_chance_100 sh x6 d) else ((xgR 9 sh d q0 10).bind fun v3 => (xgR 9 sh d q0 8).bind fun v4 => (xon 4 sh v3 (f_X4_become sh v3 v4 d)).bind fun d5 => (xgR 9 sh d5 q0 10).bind fun v6 => (xpL 4 sh d5 v6 3 x4).bind fun d7 => (xgR 9 sh d7 q0 12).bind fun v8 => (xgR 9 sh d7 q0 10).bind fun v9 => (xon 2 sh v8 (f_X2_talkMore sh v8 v9 x2 (2 : Int32) d7)).bind fun z10 => if z10.1 < x3 then (k_X9_chance_85 sh rec38 q0 x2 x3 x6 x7 z10.2) else (k_X9_chance_85 sh rec38 q0 x2 x3 (x6 + 1) x7 z10.2))
def f_X9_chance (sh : List xSh) (q0 : Nat) (x1 : Int32) (x2 : Int32) (x3 : Int32) (d : xD) : Option (Int32 × xD) :=
  if x1 < 0 then (k_X9_chance_26 sh d) else (if x2 < (1 : Int32) then (k_X9_chance_26 sh d) else (if (99 : Int32) < x2 then (k_X9_chance_26 sh d) else (if x3 < 0 then (k_X9_chance_26 sh d) else (if x3 ≤ (9999 : Int32) then (xloop (fun _ _ _ _ _ _ _ => none) (b_X9_chance_38 sh) xF q0 x2 x3 ((x1).toInt64) (0 : Int32) (0 : Int32) d) else (k_X9_chance_26 sh d)))))
set_option maxHeartbeats 4000000 in
set_option maxRecDepth 100000 in
theorem mt_X9_chance (l : Launch) (D : va_G) (cid : FieldType → ClassId) (b : Nat) (ex : Bool) (sa sv B0 : Nat) (sh : List xSh) (q0 : Nat) (x1 : Int32) (x2 : Int32) (x3 : Int32) (d : xD) (r : Int32) (dz : xD) (hf : f_X9_chance sh q0 x1 x2 x3 d = some (r, dz)) : xMet l yX9_chance cX9_chance 8 (some .int) 7 0 0 D cid b ex sa sv B0 [.ref (b + q0), .int x1, .int x2, .int x3] sh d (some (.int r)) sh dz := by
  refine xMet.of (by decide) (Nat.le_of_ble_eq_true rfl) ?_
  intro p e s m below meth c ls A S hr hin G hl
  have hl : lv_has ls 8 [(0, .ref (b + q0)), (1, .int x1), (2, .int x2), (3, .int x3)] := hl
  generalize ([.ref (b + q0), .int x1, .int x2, .int x3] : List Value).toArray = av at S ⊢
  have hx := S.1
  have hb := S.2.1
  have hml := S.2.2.1
  have hown := S.2.2.2.1
  have hts := S.2.2.2.2.1
  have K26 : ∀ (d : xD), k_X9_chance_26 sh d = some (r, dz) → ∀ (H : Heap) (locs : List Loc) (ls : Array Slot), lv_has ls 8 [] → xG D cid b A sh d s H locs → W p l e (xRm 7 0 0) s m av below meth c H locs 0 0 (MQ below (xQ D cid b ex A (some (.int r)) sh dz) av s 0 0 A) (F0 m 26 ls []) := by
    intro d hf H locs ls hl G
    unfold k_X9_chance_26 at hf
    refine lv_iconst (v := (-1 : Int32)) hx hb dX9_chance_26 (by decide) ?_
    cases hf
    exact xr_iret S G (fun _ => rfl) hr dX9_chance_27
  have K100 : ∀ (x6 : Int32) (d : xD), k_X9_chance_100 sh x6 d = some (r, dz) → ∀ (H : Heap) (locs : List Loc) (ls : Array Slot), lv_has ls 8 [(6, .int x6)] → xG D cid b A sh d s H locs → W p l e (xRm 7 0 0) s m av below meth c H locs 0 0 (MQ below (xQ D cid b ex A (some (.int r)) sh dz) av s 0 0 A) (F0 m 100 ls []) := by
    intro x6 d hf H locs ls hl G
    unfold k_X9_chance_100 at hf
    refine lv_iload hx hb dX9_chance_100 (lv_at hl 0 rfl) ?_
    cases hf
    exact xr_iret S G (fun _ => rfl) hr dX9_chance_102
  have K85 : ∀ (rec38 : Nat → Int32 → Int32 → Int64 → Int32 → Int32 → xD → Option (Int32 × xD)) (hrec38 : ∀ (q0 : Nat) (x2 : Int32) (x3 : Int32) (x4 : Int64) (x6 : Int32) (x7 : Int32) (d : xD), rec38 q0 x2 x3 x4 x6 x7 d = some (r, dz) → ∀ (H : Heap) (locs : List Loc) (ls : Array Slot), lv_has ls 8 [(0, .ref (b + q0)), (2, .int x2), (3, .int x3), (4, .long x4), (6, .int x6), (7, .int x7)] → xG D cid b A sh d s H locs → W p l e (xRm 7 0 0) s m av below meth c H locs 0 0 (MQ below (xQ D cid b ex A (some (.int r)) sh dz) av s 0 0 A) (F0 m 38 ls [])) (q0 : Nat) (x2 : Int32) (x3 : Int32) (x6 : Int32) (x7 : Int32) (d : xD), k_X9_chance_85 sh rec38 q0 x2 x3 x6 x7 d = some (r, dz) → ∀ (H : Heap) (locs : List Loc) (ls : Array Slot), lv_has ls 8 [(0, .ref (b + q0)), (2, .int x2), (3, .int x3), (6, .int x6), (7, .int x7)] → xG D cid b A sh d s H locs → W p l e (xRm 7 0 0) s m av below meth c H locs 0 0 (MQ below (xQ D cid b ex A (some (.int r)) sh dz) av s 0 0 A) (F0 m 85 ls []) := by
    intro rec38 hrec38 q0 x2 x3 x6 x7 d hf H locs ls hl G
    unfold k_X9_chance_85 at hf
    refine lv_aload_n hx hb dX9_chance_85 rfl (lv_at hl 0 rfl) ?_
    obtain ⟨v1, hv1, hf⟩ := x_ob hf
    refine xr_getR (ci := 9) (k := 10) S G hv1 rfl kw_491 dX9_chance_86 ?_
    obtain ⟨v2, hv2, hf⟩ := x_ob hf
    refine xr_getL (ci := 4) (k := 3) S G hv2 rfl kw_325 dX9_chance_89 ?_
    refine lv_lstore (lv' := [(4, .long v2), (0, .ref (b + q0)), (2, .int x2), (3, .int x3), (6, .int x6), (7, .int x7)]) hx hb dX9_chance_92 hl (by decide) rfl (fun ls hl => ?_)
    refine lv_iinc (v := (x7 + 1)) (lv' := [(7, .int (x7 + 1)), (4, .long v2), (0, .ref (b + q0)), (2, .int x2), (3, .int x3), (6, .int x6)]) hx hb dX9_chance_94 hl (k := 5) rfl rfl (by decide) rfl (fun ls hl => ?_)
    refine lv_goto (tgt := 38) hx hb dX9_chance_97 (by decide) ?_
    exact hrec38 q0 x2 x3 v2 x6 (x7 + 1) d hf _ _ ls (lv_sub hl [2, 3, 4, 1, 5, 0] rfl) G
  have K38 : ∀ (n : Nat) (q0 : Nat) (x2 : Int32) (x3 : Int32) (x4 : Int64) (x6 : Int32) (x7 : Int32) (d : xD), xloop (fun _ _ _ _ _ _ _ => none) (b_X9_chance_38 sh) n q0 x2 x3 x4 x6 x7 d = some (r, dz) → ∀ (H : Heap) (locs : List Loc) (ls : Array Slot), lv_has ls 8 [(0, .ref (b + q0)), (2, .int x2), (3, .int x3), (4, .long x4), (6, .int x6), (7, .int x7)] → xG D cid b A sh d s H locs → W p l e (xRm 7 0 0) s m av below meth c H locs 0 0 (MQ below (xQ D cid b ex A (some (.int r)) sh dz) av s 0 0 A) (F0 m 38 ls []) := by
    intro n
    induction n with
    | zero =>
      intro q0 x2 x3 x4 x6 x7 d hf
      have hf : (none : Option (Int32 × xD)) = some (r, dz) := hf
      cases hf
    | succ n hrec38 =>
      intro q0 x2 x3 x4 x6 x7 d hf H locs ls hl G
      have hf : b_X9_chance_38 sh (xloop (fun _ _ _ _ _ _ _ => none) (b_X9_chance_38 sh) n) q0 x2 x3 x4 x6 x7 d = some (r, dz) := hf
      unfold b_X9_chance_38 at hf
      refine lv_iload hx hb dX9_chance_38 (lv_at hl 5 rfl) ?_
      refine lv_bipush (v := (10 : Int32)) hx hb dX9_chance_40 (by decide) ?_
      refine lv_icmp_ge (tgt := 100) hx hb dX9_chance_42 (by decide) (fun c => ?_) (fun c => ?_)
      · have hf := x_pos c hf
        exact K100 x6 d hf _ _ ls (lv_sub hl [4] rfl) G
      · have hf := x_neg c hf
        refine lv_aload_n hx hb dX9_chance_45 rfl (lv_at hl 0 rfl) ?_
        obtain ⟨v3, hv3, hf⟩ := x_ob hf
        refine xr_getR (ci := 9) (k := 10) S G hv3 rfl kw_491 dX9_chance_46 ?_
        refine lv_aload_n hx hb dX9_chance_49 rfl (lv_at hl 0 rfl) ?_
        obtain ⟨v4, hv4, hf⟩ := x_ob hf
        refine xr_getR (ci := 9) (k := 8) S G hv4 rfl kw_489 dX9_chance_50 ?_
        obtain ⟨d5, hd5, hf⟩ := x_ob hf
        obtain ⟨hqd5, hd5⟩ := xon_of hd5
        refine xr_callV (ci := 4) (As := [.ref (b + v4)]) (rest := []) (st1 := []) S G hl.1 (fun _ => rfl) (mt_X4_become l D cid b ex sa sv B0 sh v3 v4 d _ hd5) hqd5 (by decide) kw_901 kw_902 kw_903 kw_12 kw_904 hd_X4_become ⟨Nat.le_of_ble_eq_true rfl, Nat.le_of_ble_eq_true rfl⟩ rfl rfl rfl (Nat.le_of_ble_eq_true rfl) ⟨Nat.le_of_ble_eq_true rfl, Nat.le_of_ble_eq_true rfl⟩ dX9_chance_53 (fun H locs G => ?_)
        refine lv_aload_n hx hb dX9_chance_56 rfl (lv_at hl 0 rfl) ?_
        obtain ⟨v6, hv6, hf⟩ := x_ob hf
        refine xr_getR (ci := 9) (k := 10) S G hv6 rfl kw_491 dX9_chance_57 ?_
        refine lv_lload hx hb dX9_chance_60 (lv_at hl 3 rfl) ?_
        obtain ⟨d7, hd7, hf⟩ := x_ob hf
        refine xr_putL (ci := 4) (k := 3) S G hd7 rfl kw_325 dX9_chance_62 (fun H locs G => ?_)
        refine lv_aload_n hx hb dX9_chance_65 rfl (lv_at hl 0 rfl) ?_
        obtain ⟨v8, hv8, hf⟩ := x_ob hf
        refine xr_getR (ci := 9) (k := 12) S G hv8 rfl kw_493 dX9_chance_66 ?_
        refine lv_aload_n hx hb dX9_chance_69 rfl (lv_at hl 0 rfl) ?_
        obtain ⟨v9, hv9, hf⟩ := x_ob hf
        refine xr_getR (ci := 9) (k := 10) S G hv9 rfl kw_491 dX9_chance_70 ?_
        refine lv_iload_n hx hb dX9_chance_73 rfl (lv_at hl 1 rfl) ?_
        refine lv_iconst (v := (2 : Int32)) hx hb dX9_chance_74 (by decide) ?_
        obtain ⟨z10, hz10, hf⟩ := x_ob hf
        obtain ⟨hqz10, hz10⟩ := xon_of hz10
        refine xr_callV (ci := 2) (As := [.ref (b + v9), .int x2, .int (2 : Int32)]) (rest := []) (st1 := [.int z10.1]) S G hl.1 (fun _ => rfl) (mt_X2_talkMore l D cid b ex sa sv B0 sh v8 v9 x2 (2 : Int32) d7 _ _ hz10) hqz10 (by decide) kw_831 kw_832 kw_833 kw_13 kw_834 hd_X2_talkMore ⟨Nat.le_of_ble_eq_true rfl, Nat.le_of_ble_eq_true rfl⟩ rfl rfl rfl (Nat.le_of_ble_eq_true rfl) ⟨Nat.le_of_ble_eq_true rfl, Nat.le_of_ble_eq_true rfl⟩ dX9_chance_75 (fun H locs G => ?_)
        refine lv_iload_n hx hb dX9_chance_78 rfl (lv_at hl 2 rfl) ?_
        refine lv_icmp_lt (tgt := 85) hx hb dX9_chance_79 (by decide) (fun c => ?_) (fun c => ?_)
        · have hf := x_pos c hf
          exact K85 _ hrec38 q0 x2 x3 x6 x7 z10.2 hf _ _ ls (lv_sub hl [0, 1, 2, 4, 5] rfl) G
        · have hf := x_neg c hf
          refine lv_iinc (v := (x6 + 1)) (lv' := [(6, .int (x6 + 1)), (0, .ref (b + q0)), (2, .int x2), (3, .int x3), (4, .long x4), (7, .int x7)]) hx hb dX9_chance_82 hl (k := 4) rfl rfl (by decide) rfl (fun ls hl => ?_)
          exact K85 _ hrec38 q0 x2 x3 (x6 + 1) x7 z10.2 hf _ _ ls (lv_sub hl [1, 2, 3, 0, 5] rfl) G
  unfold f_X9_chance at hf
  refine lv_iload_n hx hb dX9_chance_0 rfl (lv_at hl 1 rfl) ?_
  refine lv_if_lt (tgt := 26) hx hb dX9_chance_1 (by decide) (fun c => ?_) (fun c => ?_)
  · have hf := x_pos c hf
    exact K26 d hf _ _ ls (lv_sub hl [] rfl) G
  · have hf := x_neg c hf
    refine lv_iload_n hx hb dX9_chance_4 rfl (lv_at hl 2 rfl) ?_
    refine lv_iconst (v := (1 : Int32)) hx hb dX9_chance_5 (by decide) ?_
    refine lv_icmp_lt (tgt := 26) hx hb dX9_chance_6 (by decide) (fun c => ?_) (fun c => ?_)
    · have hf := x_pos c hf
      exact K26 d hf _ _ ls (lv_sub hl [] rfl) G
    · have hf := x_neg c hf
      refine lv_iload_n hx hb dX9_chance_9 rfl (lv_at hl 2 rfl) ?_
      refine lv_bipush (v := (99 : Int32)) hx hb dX9_chance_10 (by decide) ?_
      refine lv_icmp_gt (tgt := 26) hx hb dX9_chance_12 (by decide) (fun c => ?_) (fun c => ?_)
      · have hf := x_pos c hf
        exact K26 d hf _ _ ls (lv_sub hl [] rfl) G
      · have hf := x_neg c hf
        refine lv_iload_n hx hb dX9_chance_15 rfl (lv_at hl 3 rfl) ?_
        refine lv_if_lt (tgt := 26) hx hb dX9_chance_16 (by decide) (fun c => ?_) (fun c => ?_)
        · have hf := x_pos c hf
          exact K26 d hf _ _ ls (lv_sub hl [] rfl) G
        · have hf := x_neg c hf
          refine lv_iload_n hx hb dX9_chance_19 rfl (lv_at hl 3 rfl) ?_
          refine lv_sipush (v := (9999 : Int32)) hx hb dX9_chance_20 (by decide) ?_
          refine lv_icmp_le (tgt := 28) hx hb dX9_chance_23 (by decide) (fun c => ?_) (fun c => ?_)
          · have hf := x_pos c hf
            refine lv_iload_n hx hb dX9_chance_28 rfl (lv_at hl 1 rfl) ?_
            refine lv_i2l (v := (x1).toInt64) hx hb dX9_chance_29 rfl ?_
            refine lv_lstore (lv' := [(4, .long (x1).toInt64), (0, .ref (b + q0)), (1, .int x1), (2, .int x2), (3, .int x3)]) hx hb dX9_chance_30 hl (by decide) rfl (fun ls hl => ?_)
            refine lv_iconst (v := (0 : Int32)) hx hb dX9_chance_32 (by decide) ?_
            refine lv_istore (lv' := [(6, .int (0 : Int32)), (4, .long (x1).toInt64), (0, .ref (b + q0)), (1, .int x1), (2, .int x2), (3, .int x3)]) hx hb dX9_chance_33 hl (by decide) rfl (fun ls hl => ?_)
            refine lv_iconst (v := (0 : Int32)) hx hb dX9_chance_35 (by decide) ?_
            refine lv_istore (lv' := [(7, .int (0 : Int32)), (6, .int (0 : Int32)), (4, .long (x1).toInt64), (0, .ref (b + q0)), (1, .int x1), (2, .int x2), (3, .int x3)]) hx hb dX9_chance_36 hl (by decide) rfl (fun ls hl => ?_)
            exact K38 xF q0 x2 x3 ((x1).toInt64) (0 : Int32) (0 : Int32) d hf _ _ ls (lv_sub hl [3, 5, 6, 2, 1, 0] rfl) G
          · have hf := x_neg c hf
            exact K26 d hf _ _ ls (lv_sub hl [] rfl) G
-- HalfLandings.changeTrial(II)V
theorem dX9_changeTrial_0 : decode cX9_changeTrial 0 = .ok (.iload_n 1, 1) := by decide +kernel
theorem dX9_changeTrial_1 : decode cX9_changeTrial 1 = .ok (.iconst 2, 1) := by decide +kernel
theorem dX9_changeTrial_2 : decode cX9_changeTrial 2 = .ok (.if_icmp .ne 16, 3) := by decide +kernel
theorem dX9_changeTrial_5 : decode cX9_changeTrial 5 = .ok (.aload_n 0, 1) := by decide +kernel
theorem dX9_changeTrial_6 : decode cX9_changeTrial 6 = .ok (.getfield 63, 3) := by decide +kernel
theorem dX9_changeTrial_9 : decode cX9_changeTrial 9 = .ok (.getfield 132, 3) := by decide +kernel
theorem dX9_changeTrial_12 : decode cX9_changeTrial 12 = .ok (.iload_n 2, 1) := by decide +kernel
theorem dX9_changeTrial_13 : decode cX9_changeTrial 13 = .ok (.iconst 3, 1) := by decide +kernel
theorem dX9_changeTrial_14 : decode cX9_changeTrial 14 = .ok (.iastore, 1) := by decide +kernel
theorem dX9_changeTrial_15 : decode cX9_changeTrial 15 = .ok (.goto 55, 3) := by decide +kernel
theorem dX9_changeTrial_18 : decode cX9_changeTrial 18 = .ok (.iload_n 1, 1) := by decide +kernel
theorem dX9_changeTrial_19 : decode cX9_changeTrial 19 = .ok (.iconst 3, 1) := by decide +kernel
theorem dX9_changeTrial_20 : decode cX9_changeTrial 20 = .ok (.if_icmp .ne 15, 3) := by decide +kernel
theorem dX9_changeTrial_23 : decode cX9_changeTrial 23 = .ok (.aload_n 0, 1) := by decide +kernel
theorem dX9_changeTrial_24 : decode cX9_changeTrial 24 = .ok (.getfield 63, 3) := by decide +kernel
theorem dX9_changeTrial_27 : decode cX9_changeTrial 27 = .ok (.bipush (-2), 2) := by decide +kernel
theorem dX9_changeTrial_29 : decode cX9_changeTrial 29 = .ok (.putfield 194, 3) := by decide +kernel
theorem dX9_changeTrial_32 : decode cX9_changeTrial 32 = .ok (.goto 38, 3) := by decide +kernel
theorem dX9_changeTrial_35 : decode cX9_changeTrial 35 = .ok (.iload_n 1, 1) := by decide +kernel
theorem dX9_changeTrial_36 : decode cX9_changeTrial 36 = .ok (.iconst 4, 1) := by decide +kernel
theorem dX9_changeTrial_37 : decode cX9_changeTrial 37 = .ok (.if_icmp .ne 17, 3) := by decide +kernel
theorem dX9_changeTrial_40 : decode cX9_changeTrial 40 = .ok (.aload_n 0, 1) := by decide +kernel
theorem dX9_changeTrial_41 : decode cX9_changeTrial 41 = .ok (.getfield 63, 3) := by decide +kernel
theorem dX9_changeTrial_44 : decode cX9_changeTrial 44 = .ok (.getfield 191, 3) := by decide +kernel
theorem dX9_changeTrial_47 : decode cX9_changeTrial 47 = .ok (.iconst 1, 1) := by decide +kernel
theorem dX9_changeTrial_48 : decode cX9_changeTrial 48 = .ok (.invokestatic 315, 3) := by decide +kernel
theorem dX9_changeTrial_51 : decode cX9_changeTrial 51 = .ok (.goto 19, 3) := by decide +kernel
theorem dX9_changeTrial_54 : decode cX9_changeTrial 54 = .ok (.iload_n 1, 1) := by decide +kernel
theorem dX9_changeTrial_55 : decode cX9_changeTrial 55 = .ok (.iconst 5, 1) := by decide +kernel
theorem dX9_changeTrial_56 : decode cX9_changeTrial 56 = .ok (.if_icmp .ne 14, 3) := by decide +kernel
theorem dX9_changeTrial_59 : decode cX9_changeTrial 59 = .ok (.aload_n 0, 1) := by decide +kernel
theorem dX9_changeTrial_60 : decode cX9_changeTrial 60 = .ok (.getfield 63, 3) := by decide +kernel
theorem dX9_changeTrial_63 : decode cX9_changeTrial 63 = .ok (.getfield 165, 3) := by decide +kernel
theorem dX9_changeTrial_66 : decode cX9_changeTrial 66 = .ok (.iconst 3, 1) := by decide +kernel
theorem dX9_changeTrial_67 : decode cX9_changeTrial 67 = .ok (.invokestatic 315, 3) := by decide +kernel
theorem dX9_changeTrial_70 : decode cX9_changeTrial 70 = .ok (.return_, 1) := by decide +kernel
theorem hd_X9_changeTrial : yX9_changeTrial.cls = xCn 9 ∧ yX9_changeTrial.cls ≠ "java/lang/invoke/MethodHandle" ∧ yX9_changeTrial.cls ≠ "java/lang/invoke/VarHandle" ∧ (parseMethodDescriptor yX9_changeTrial.desc).map (fun d => d.parameters.length) = some 2 := by decide +kernel
def k_X9_changeTrial_70 (sh : List xSh) (d : xD) : Option xD :=
  some d
def f_X9_changeTrial (sh : List xSh) (q0 : Nat) (x1 : Int32) (x2 : Int32) (d : xD) : Option xD :=
  if x1 = (2 : Int32) then ((xgR 9 sh d q0 10).bind fun v9 => (xgR 4 sh d v9 5).bind fun v10 => (xsI .int sh d v10 x2 (3 : Int32)).bind fun d11 => k_X9_changeTrial_70 sh d11) else (if x1 = (3 : Int32) then ((xgR 9 sh d q0 10).bind fun v7 => (xpI 4 sh d v7 2 (-2 : Int32)).bind fun d8 => k_X9_changeTrial_70 sh d8) else (if x1 = (4 : Int32) then ((xgR 9 sh d q0 10).bind fun v4 => (xgR 4 sh d v4 18).bind fun v5 => (f_J7_fill_53178 sh v5 (1 : Int32) d).bind fun d6 => k_X9_changeTrial_70 sh d6) else (if x1 = (5 : Int32) then ((xgR 9 sh d q0 10).bind fun v1 => (xgR 4 sh d v1 12).bind fun v2 => (f_J7_fill_53178 sh v2 (3 : Int32) d).bind fun d3 => k_X9_changeTrial_70 sh d3) else (k_X9_changeTrial_70 sh d))))
set_option maxHeartbeats 4000000 in
set_option maxRecDepth 100000 in
theorem mt_X9_changeTrial (l : Launch) (D : va_G) (cid : FieldType → ClassId) (b : Nat) (ex : Bool) (sa sv B0 : Nat) (sh : List xSh) (q0 : Nat) (x1 : Int32) (x2 : Int32) (d : xD) (dz : xD) (hf : f_X9_changeTrial sh q0 x1 x2 d = some dz) : xMet l yX9_changeTrial cX9_changeTrial 3 none 1 0 0 D cid b ex sa sv B0 [.ref (b + q0), .int x1, .int x2] sh d none sh dz := by
  refine xMet.of (by decide) (Nat.le_of_ble_eq_true rfl) ?_
  intro p e s m below meth c ls A S hr hin G hl
  have hl : lv_has ls 3 [(0, .ref (b + q0)), (1, .int x1), (2, .int x2)] := hl
  generalize ([.ref (b + q0), .int x1, .int x2] : List Value).toArray = av at S ⊢
  have hx := S.1
  have hb := S.2.1
  have hml := S.2.2.1
  have hown := S.2.2.2.1
  have hts := S.2.2.2.2.1
  have K70 : ∀ (d : xD), k_X9_changeTrial_70 sh d = some dz → ∀ (H : Heap) (locs : List Loc) (ls : Array Slot), lv_has ls 3 [] → xG D cid b A sh d s H locs → W p l e (xRm 1 0 0) s m av below meth c H locs 0 0 (MQ below (xQ D cid b ex A none sh dz) av s 0 0 A) (F0 m 70 ls []) := by
    intro d hf H locs ls hl G
    unfold k_X9_changeTrial_70 at hf
    cases hf
    exact xr_vret S G (fun _ => rfl) hr dX9_changeTrial_70
  unfold f_X9_changeTrial at hf
  refine lv_iload_n hx hb dX9_changeTrial_0 rfl (lv_at hl 1 rfl) ?_
  refine lv_iconst (v := (2 : Int32)) hx hb dX9_changeTrial_1 (by decide) ?_
  refine lv_icmp_ne (tgt := 18) hx hb dX9_changeTrial_2 (by decide) (fun c => ?_) (fun c => ?_)
  · have hf := x_neg c hf
    refine lv_iload_n hx hb dX9_changeTrial_18 rfl (lv_at hl 1 rfl) ?_
    refine lv_iconst (v := (3 : Int32)) hx hb dX9_changeTrial_19 (by decide) ?_
    refine lv_icmp_ne (tgt := 35) hx hb dX9_changeTrial_20 (by decide) (fun c => ?_) (fun c => ?_)
    · have hf := x_neg c hf
      refine lv_iload_n hx hb dX9_changeTrial_35 rfl (lv_at hl 1 rfl) ?_
      refine lv_iconst (v := (4 : Int32)) hx hb dX9_changeTrial_36 (by decide) ?_
      refine lv_icmp_ne (tgt := 54) hx hb dX9_changeTrial_37 (by decide) (fun c => ?_) (fun c => ?_)
      · have hf := x_neg c hf
        refine lv_iload_n hx hb dX9_changeTrial_54 rfl (lv_at hl 1 rfl) ?_
        refine lv_iconst (v := (5 : Int32)) hx hb dX9_changeTrial_55 (by decide) ?_
        refine lv_icmp_ne (tgt := 70) hx hb dX9_changeTrial_56 (by decide) (fun c => ?_) (fun c => ?_)
        · have hf := x_neg c hf
          exact K70 d hf _ _ ls (lv_sub hl [] rfl) G
        · have hf := x_pos c hf
          refine lv_aload_n hx hb dX9_changeTrial_59 rfl (lv_at hl 0 rfl) ?_
          obtain ⟨v1, hv1, hf⟩ := x_ob hf
          refine xr_getR (ci := 9) (k := 10) S G hv1 rfl kw_491 dX9_changeTrial_60 ?_
          obtain ⟨v2, hv2, hf⟩ := x_ob hf
          refine xr_getR (ci := 4) (k := 12) S G hv2 rfl kw_349 dX9_changeTrial_63 ?_
          refine lv_iconst (v := (3 : Int32)) hx hb dX9_changeTrial_66 (by decide) ?_
          obtain ⟨d3, hd3, hf⟩ := x_ob hf
          refine xr_callS (As := [.ref (b + v2), .int (3 : Int32)]) (rest := []) (st1 := []) S G hl.1 (fun _ => rfl) (mt_J7_fill_53178 l D cid b ex sa sv B0 sh v2 (3 : Int32) d _ hd3) kw_1036 kw_76 kw_4 kw_77 hd_J7_fill_53178 ⟨Nat.le_of_ble_eq_true rfl, Nat.le_of_ble_eq_true rfl⟩ rfl rfl rfl (Nat.le_of_ble_eq_true rfl) ⟨Nat.le_of_ble_eq_true rfl, Nat.le_of_ble_eq_true rfl⟩ dX9_changeTrial_67 (fun H locs G => ?_)
          exact K70 d3 hf _ _ ls (lv_sub hl [] rfl) G
      · have hf := x_pos c hf
        refine lv_aload_n hx hb dX9_changeTrial_40 rfl (lv_at hl 0 rfl) ?_
        obtain ⟨v4, hv4, hf⟩ := x_ob hf
        refine xr_getR (ci := 9) (k := 10) S G hv4 rfl kw_491 dX9_changeTrial_41 ?_
        obtain ⟨v5, hv5, hf⟩ := x_ob hf
        refine xr_getR (ci := 4) (k := 18) S G hv5 rfl kw_364 dX9_changeTrial_44 ?_
        refine lv_iconst (v := (1 : Int32)) hx hb dX9_changeTrial_47 (by decide) ?_
        obtain ⟨d6, hd6, hf⟩ := x_ob hf
        refine xr_callS (As := [.ref (b + v5), .int (1 : Int32)]) (rest := []) (st1 := []) S G hl.1 (fun _ => rfl) (mt_J7_fill_53178 l D cid b ex sa sv B0 sh v5 (1 : Int32) d _ hd6) kw_1036 kw_76 kw_4 kw_77 hd_J7_fill_53178 ⟨Nat.le_of_ble_eq_true rfl, Nat.le_of_ble_eq_true rfl⟩ rfl rfl rfl (Nat.le_of_ble_eq_true rfl) ⟨Nat.le_of_ble_eq_true rfl, Nat.le_of_ble_eq_true rfl⟩ dX9_changeTrial_48 (fun H locs G => ?_)
        refine lv_goto (tgt := 70) hx hb dX9_changeTrial_51 (by decide) ?_
        exact K70 d6 hf _ _ ls (lv_sub hl [] rfl) G
    · have hf := x_pos c hf
      refine lv_aload_n hx hb dX9_changeTrial_23 rfl (lv_at hl 0 rfl) ?_
      obtain ⟨v7, hv7, hf⟩ := x_ob hf
      refine xr_getR (ci := 9) (k := 10) S G hv7 rfl kw_491 dX9_changeTrial_24 ?_
      refine lv_bipush (v := (-2 : Int32)) hx hb dX9_changeTrial_27 (by decide) ?_
      obtain ⟨d8, hd8, hf⟩ := x_ob hf
      refine xr_putI (ci := 4) (k := 2) S G hd8 rfl kw_322 dX9_changeTrial_29 (fun H locs G => ?_)
      refine lv_goto (tgt := 70) hx hb dX9_changeTrial_32 (by decide) ?_
      exact K70 d8 hf _ _ ls (lv_sub hl [] rfl) G
  · have hf := x_pos c hf
    refine lv_aload_n hx hb dX9_changeTrial_5 rfl (lv_at hl 0 rfl) ?_
    obtain ⟨v9, hv9, hf⟩ := x_ob hf
    refine xr_getR (ci := 9) (k := 10) S G hv9 rfl kw_491 dX9_changeTrial_6 ?_
    obtain ⟨v10, hv10, hf⟩ := x_ob hf
    refine xr_getR (ci := 4) (k := 5) S G hv10 rfl kw_329 dX9_changeTrial_9 ?_
    refine lv_iload_n hx hb dX9_changeTrial_12 rfl (lv_at hl 2 rfl) ?_
    refine lv_iconst (v := (3 : Int32)) hx hb dX9_changeTrial_13 (by decide) ?_
    obtain ⟨d11, hd11, hf⟩ := x_ob hf
    refine xr_iast S G hd11 dX9_changeTrial_14 (fun H locs G => ?_)
    refine lv_goto (tgt := 70) hx hb dX9_changeTrial_15 (by decide) ?_
    exact K70 d11 hf _ _ ls (lv_sub hl [] rfl) G

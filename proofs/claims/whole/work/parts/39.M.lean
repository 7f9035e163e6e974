-- HalfLandingsModel.strike(I)I
theorem dX10_strike_0 : decode cX10_strike 0 = .ok (.aload_n 0, 1) := by decide +kernel
theorem dX10_strike_1 : decode cX10_strike 1 = .ok (.iconst 0, 1) := by decide +kernel
theorem dX10_strike_2 : decode cX10_strike 2 = .ok (.putfield 145, 3) := by decide +kernel
theorem dX10_strike_5 : decode cX10_strike 5 = .ok (.iload_n 1, 1) := by decide +kernel
theorem dX10_strike_6 : decode cX10_strike 6 = .ok (.ifCond .lt 20, 3) := by decide +kernel
theorem dX10_strike_9 : decode cX10_strike 9 = .ok (.iload_n 1, 1) := by decide +kernel
theorem dX10_strike_10 : decode cX10_strike 10 = .ok (.aload_n 0, 1) := by decide +kernel
theorem dX10_strike_11 : decode cX10_strike 11 = .ok (.getfield 295, 3) := by decide +kernel
theorem dX10_strike_14 : decode cX10_strike 14 = .ok (.if_icmp .ge 12, 3) := by decide +kernel
theorem dX10_strike_17 : decode cX10_strike 17 = .ok (.aload_n 0, 1) := by decide +kernel
theorem dX10_strike_18 : decode cX10_strike 18 = .ok (.getfield 295, 3) := by decide +kernel
theorem dX10_strike_21 : decode cX10_strike 21 = .ok (.bipush 24, 2) := by decide +kernel
theorem dX10_strike_23 : decode cX10_strike 23 = .ok (.if_icmp .ne 5, 3) := by decide +kernel
theorem dX10_strike_26 : decode cX10_strike 26 = .ok (.iconst (-1), 1) := by decide +kernel
theorem dX10_strike_27 : decode cX10_strike 27 = .ok (.ireturn, 1) := by decide +kernel
theorem dX10_strike_28 : decode cX10_strike 28 = .ok (.aload_n 0, 1) := by decide +kernel
theorem dX10_strike_29 : decode cX10_strike 29 = .ok (.getfield 136, 3) := by decide +kernel
theorem dX10_strike_32 : decode cX10_strike 32 = .ok (.aload_n 0, 1) := by decide +kernel
theorem dX10_strike_33 : decode cX10_strike 33 = .ok (.getfield 295, 3) := by decide +kernel
theorem dX10_strike_36 : decode cX10_strike 36 = .ok (.iload_n 1, 1) := by decide +kernel
theorem dX10_strike_37 : decode cX10_strike 37 = .ok (.iastore, 1) := by decide +kernel
theorem dX10_strike_38 : decode cX10_strike 38 = .ok (.aload_n 0, 1) := by decide +kernel
theorem dX10_strike_39 : decode cX10_strike 39 = .ok (.dup, 1) := by decide +kernel
theorem dX10_strike_40 : decode cX10_strike 40 = .ok (.getfield 295, 3) := by decide +kernel
theorem dX10_strike_43 : decode cX10_strike 43 = .ok (.iconst 1, 1) := by decide +kernel
theorem dX10_strike_44 : decode cX10_strike 44 = .ok (.iadd, 1) := by decide +kernel
theorem dX10_strike_45 : decode cX10_strike 45 = .ok (.putfield 295, 3) := by decide +kernel
theorem dX10_strike_48 : decode cX10_strike 48 = .ok (.aload_n 0, 1) := by decide +kernel
theorem dX10_strike_49 : decode cX10_strike 49 = .ok (.getfield 295, 3) := by decide +kernel
theorem dX10_strike_52 : decode cX10_strike 52 = .ok (.iconst 1, 1) := by decide +kernel
theorem dX10_strike_53 : decode cX10_strike 53 = .ok (.isub, 1) := by decide +kernel
theorem dX10_strike_54 : decode cX10_strike 54 = .ok (.ireturn, 1) := by decide +kernel
theorem hd_X10_strike : yX10_strike.cls = xCn 10 ∧ yX10_strike.cls ≠ "java/lang/invoke/MethodHandle" ∧ yX10_strike.cls ≠ "java/lang/invoke/VarHandle" ∧ (parseMethodDescriptor yX10_strike.desc).map (fun d => d.parameters.length) = some 1 := by decide +kernel
def k_X10_strike_26 (sh : List xSh) (d : xD) : Option (Int32 × xD) :=
  some ((-1 : Int32), d)
def f_X10_strike (sh : List xSh) (q0 : Nat) (x1 : Int32) (d : xD) : Option (Int32 × xD) :=
  (xpI 10 sh d q0 0 (0 : Int32)).bind fun d1 => if x1 < 0 then (k_X10_strike_26 sh d1) else ((xgI 10 sh d1 q0 57).bind fun v2 => if v2 ≤ x1 then (k_X10_strike_26 sh d1) else ((xgI 10 sh d1 q0 57).bind fun v3 => if v3 = (24 : Int32) then (k_X10_strike_26 sh d1) else ((xgR 10 sh d1 q0 63).bind fun v4 => (xgI 10 sh d1 q0 57).bind fun v5 => (xsI .int sh d1 v4 v5 x1).bind fun d6 => (xgI 10 sh d6 q0 57).bind fun v7 => (xpI 10 sh d6 q0 57 (v7 + (1 : Int32))).bind fun d8 => (xgI 10 sh d8 q0 57).bind fun v9 => some ((v9 - (1 : Int32)), d8))))
set_option maxHeartbeats 4000000 in
set_option maxRecDepth 100000 in
theorem mt_X10_strike (l : Launch) (D : va_G) (cid : FieldType → ClassId) (b : Nat) (ex : Bool) (sa sv B0 : Nat) (sh : List xSh) (q0 : Nat) (x1 : Int32) (d : xD) (r : Int32) (dz : xD) (hf : f_X10_strike sh q0 x1 d = some (r, dz)) : xMet l yX10_strike cX10_strike 2 (some .int) 0 0 0 D cid b ex sa sv B0 [.ref (b + q0), .int x1] sh d (some (.int r)) sh dz := by
  refine xMet.of (by decide) (Nat.le_of_ble_eq_true rfl) ?_
  intro p e s m below meth c ls A S hr hin G hl
  have hl : lv_has ls 2 [(0, .ref (b + q0)), (1, .int x1)] := hl
  generalize ([.ref (b + q0), .int x1] : List Value).toArray = av at S ⊢
  have hx := S.1
  have hb := S.2.1
  have hml := S.2.2.1
  have hown := S.2.2.2.1
  have hts := S.2.2.2.2.1
  have K26 : ∀ (d : xD), k_X10_strike_26 sh d = some (r, dz) → ∀ (H : Heap) (locs : List Loc) (ls : Array Slot), lv_has ls 2 [] → xG D cid b A sh d s H locs → W p l e (xRm 0 0 0) s m av below meth c H locs 0 0 (MQ below (xQ D cid b ex A (some (.int r)) sh dz) av s 0 0 A) (F0 m 26 ls []) := by
    intro d hf H locs ls hl G
    unfold k_X10_strike_26 at hf
    refine lv_iconst (v := (-1 : Int32)) hx hb dX10_strike_26 (by decide) ?_
    cases hf
    exact xr_iret S G (fun _ => rfl) hr dX10_strike_27
  unfold f_X10_strike at hf
  refine lv_aload_n hx hb dX10_strike_0 rfl (lv_at hl 0 rfl) ?_
  refine lv_iconst (v := (0 : Int32)) hx hb dX10_strike_1 (by decide) ?_
  obtain ⟨d1, hd1, hf⟩ := x_ob hf
  refine xr_putI (ci := 10) (k := 0) S G hd1 rfl kw_1168 dX10_strike_2 (fun H locs G => ?_)
  refine lv_iload_n hx hb dX10_strike_5 rfl (lv_at hl 1 rfl) ?_
  refine lv_if_lt (tgt := 26) hx hb dX10_strike_6 (by decide) (fun c => ?_) (fun c => ?_)
  · have hf := x_pos c hf
    exact K26 d1 hf _ _ ls (lv_sub hl [] rfl) G
  · have hf := x_neg c hf
    refine lv_iload_n hx hb dX10_strike_9 rfl (lv_at hl 1 rfl) ?_
    refine lv_aload_n hx hb dX10_strike_10 rfl (lv_at hl 0 rfl) ?_
    obtain ⟨v2, hv2, hf⟩ := x_ob hf
    refine xr_getI (ci := 10) (k := 57) S G hv2 rfl kw_1225 dX10_strike_11 ?_
    refine lv_icmp_ge (tgt := 26) hx hb dX10_strike_14 (by decide) (fun c => ?_) (fun c => ?_)
    · have hf := x_pos c hf
      exact K26 d1 hf _ _ ls (lv_sub hl [] rfl) G
    · have hf := x_neg c hf
      refine lv_aload_n hx hb dX10_strike_17 rfl (lv_at hl 0 rfl) ?_
      obtain ⟨v3, hv3, hf⟩ := x_ob hf
      refine xr_getI (ci := 10) (k := 57) S G hv3 rfl kw_1225 dX10_strike_18 ?_
      refine lv_bipush (v := (24 : Int32)) hx hb dX10_strike_21 (by decide) ?_
      refine lv_icmp_ne (tgt := 28) hx hb dX10_strike_23 (by decide) (fun c => ?_) (fun c => ?_)
      · have hf := x_neg c hf
        refine lv_aload_n hx hb dX10_strike_28 rfl (lv_at hl 0 rfl) ?_
        obtain ⟨v4, hv4, hf⟩ := x_ob hf
        refine xr_getR (ci := 10) (k := 63) S G hv4 rfl kw_1231 dX10_strike_29 ?_
        refine lv_aload_n hx hb dX10_strike_32 rfl (lv_at hl 0 rfl) ?_
        obtain ⟨v5, hv5, hf⟩ := x_ob hf
        refine xr_getI (ci := 10) (k := 57) S G hv5 rfl kw_1225 dX10_strike_33 ?_
        refine lv_iload_n hx hb dX10_strike_36 rfl (lv_at hl 1 rfl) ?_
        obtain ⟨d6, hd6, hf⟩ := x_ob hf
        refine xr_iast S G hd6 dX10_strike_37 (fun H locs G => ?_)
        refine lv_aload_n hx hb dX10_strike_38 rfl (lv_at hl 0 rfl) ?_
        refine lv_dup hx hb dX10_strike_39 rfl ?_
        obtain ⟨v7, hv7, hf⟩ := x_ob hf
        refine xr_getI (ci := 10) (k := 57) S G hv7 rfl kw_1225 dX10_strike_40 ?_
        refine lv_iconst (v := (1 : Int32)) hx hb dX10_strike_43 (by decide) ?_
        refine lv_iadd hx hb dX10_strike_44 ?_
        obtain ⟨d8, hd8, hf⟩ := x_ob hf
        refine xr_putI (ci := 10) (k := 57) S G hd8 rfl kw_1225 dX10_strike_45 (fun H locs G => ?_)
        refine lv_aload_n hx hb dX10_strike_48 rfl (lv_at hl 0 rfl) ?_
        obtain ⟨v9, hv9, hf⟩ := x_ob hf
        refine xr_getI (ci := 10) (k := 57) S G hv9 rfl kw_1225 dX10_strike_49 ?_
        refine lv_iconst (v := (1 : Int32)) hx hb dX10_strike_52 (by decide) ?_
        refine lv_isub hx hb dX10_strike_53 ?_
        cases hf
        exact xr_iret S G (fun _ => rfl) hr dX10_strike_54
      · have hf := x_pos c hf
        exact K26 d1 hf _ _ ls (lv_sub hl [] rfl) G
-- HalfLandingsModel.known(I)Z
theorem dX10_known_0 : decode cX10_known 0 = .ok (.aload_n 0, 1) := by decide +kernel
theorem dX10_known_1 : decode cX10_known 1 = .ok (.iconst 0, 1) := by decide +kernel
theorem dX10_known_2 : decode cX10_known 2 = .ok (.putfield 145, 3) := by decide +kernel
theorem dX10_known_5 : decode cX10_known 5 = .ok (.iload_n 1, 1) := by decide +kernel
theorem dX10_known_6 : decode cX10_known 6 = .ok (.iconst (-1), 1) := by decide +kernel
theorem dX10_known_7 : decode cX10_known 7 = .ok (.if_icmp .lt 11, 3) := by decide +kernel
theorem dX10_known_10 : decode cX10_known 10 = .ok (.iload_n 1, 1) := by decide +kernel
theorem dX10_known_11 : decode cX10_known 11 = .ok (.aload_n 0, 1) := by decide +kernel
theorem dX10_known_12 : decode cX10_known 12 = .ok (.getfield 295, 3) := by decide +kernel
theorem dX10_known_15 : decode cX10_known 15 = .ok (.if_icmp .le 5, 3) := by decide +kernel
theorem dX10_known_18 : decode cX10_known 18 = .ok (.iconst 0, 1) := by decide +kernel
theorem dX10_known_19 : decode cX10_known 19 = .ok (.ireturn, 1) := by decide +kernel
theorem dX10_known_20 : decode cX10_known 20 = .ok (.aload_n 0, 1) := by decide +kernel
theorem dX10_known_21 : decode cX10_known 21 = .ok (.iload_n 1, 1) := by decide +kernel
theorem dX10_known_22 : decode cX10_known 22 = .ok (.putfield 120, 3) := by decide +kernel
theorem dX10_known_25 : decode cX10_known 25 = .ok (.iconst 1, 1) := by decide +kernel
theorem dX10_known_26 : decode cX10_known 26 = .ok (.ireturn, 1) := by decide +kernel
theorem hd_X10_known : yX10_known.cls = xCn 10 ∧ yX10_known.cls ≠ "java/lang/invoke/MethodHandle" ∧ yX10_known.cls ≠ "java/lang/invoke/VarHandle" ∧ (parseMethodDescriptor yX10_known.desc).map (fun d => d.parameters.length) = some 1 := by decide +kernel
def k_X10_known_18 (sh : List xSh) (d : xD) : Option (Int32 × xD) :=
  some ((0 : Int32), d)
def f_X10_known (sh : List xSh) (q0 : Nat) (x1 : Int32) (d : xD) : Option (Int32 × xD) :=
  (xpI 10 sh d q0 0 (0 : Int32)).bind fun d1 => if x1 < (-1 : Int32) then (k_X10_known_18 sh d1) else ((xgI 10 sh d1 q0 57).bind fun v2 => if x1 ≤ v2 then ((xpI 10 sh d1 q0 58 x1).bind fun d3 => some ((1 : Int32), d3)) else (k_X10_known_18 sh d1))
set_option maxHeartbeats 4000000 in
set_option maxRecDepth 100000 in
theorem mt_X10_known (l : Launch) (D : va_G) (cid : FieldType → ClassId) (b : Nat) (ex : Bool) (sa sv B0 : Nat) (sh : List xSh) (q0 : Nat) (x1 : Int32) (d : xD) (r : Int32) (dz : xD) (hf : f_X10_known sh q0 x1 d = some (r, dz)) : xMet l yX10_known cX10_known 2 (some .boolean) 0 0 0 D cid b ex sa sv B0 [.ref (b + q0), .int x1] sh d (some (.int r)) sh dz := by
  refine xMet.of (by decide) (Nat.le_of_ble_eq_true rfl) ?_
  intro p e s m below meth c ls A S hr hin G hl
  have hl : lv_has ls 2 [(0, .ref (b + q0)), (1, .int x1)] := hl
  generalize ([.ref (b + q0), .int x1] : List Value).toArray = av at S ⊢
  have hx := S.1
  have hb := S.2.1
  have hml := S.2.2.1
  have hown := S.2.2.2.1
  have hts := S.2.2.2.2.1
  have K18 : ∀ (d : xD), k_X10_known_18 sh d = some (r, dz) → ∀ (H : Heap) (locs : List Loc) (ls : Array Slot), lv_has ls 2 [] → xG D cid b A sh d s H locs → W p l e (xRm 0 0 0) s m av below meth c H locs 0 0 (MQ below (xQ D cid b ex A (some (.int r)) sh dz) av s 0 0 A) (F0 m 18 ls []) := by
    intro d hf H locs ls hl G
    unfold k_X10_known_18 at hf
    refine lv_iconst (v := (0 : Int32)) hx hb dX10_known_18 (by decide) ?_
    cases hf
    exact xr_zret S G (fun _ => rfl) hr (by decide) dX10_known_19
  unfold f_X10_known at hf
  refine lv_aload_n hx hb dX10_known_0 rfl (lv_at hl 0 rfl) ?_
  refine lv_iconst (v := (0 : Int32)) hx hb dX10_known_1 (by decide) ?_
  obtain ⟨d1, hd1, hf⟩ := x_ob hf
  refine xr_putI (ci := 10) (k := 0) S G hd1 rfl kw_1168 dX10_known_2 (fun H locs G => ?_)
  refine lv_iload_n hx hb dX10_known_5 rfl (lv_at hl 1 rfl) ?_
  refine lv_iconst (v := (-1 : Int32)) hx hb dX10_known_6 (by decide) ?_
  refine lv_icmp_lt (tgt := 18) hx hb dX10_known_7 (by decide) (fun c => ?_) (fun c => ?_)
  · have hf := x_pos c hf
    exact K18 d1 hf _ _ ls (lv_sub hl [] rfl) G
  · have hf := x_neg c hf
    refine lv_iload_n hx hb dX10_known_10 rfl (lv_at hl 1 rfl) ?_
    refine lv_aload_n hx hb dX10_known_11 rfl (lv_at hl 0 rfl) ?_
    obtain ⟨v2, hv2, hf⟩ := x_ob hf
    refine xr_getI (ci := 10) (k := 57) S G hv2 rfl kw_1225 dX10_known_12 ?_
    refine lv_icmp_le (tgt := 20) hx hb dX10_known_15 (by decide) (fun c => ?_) (fun c => ?_)
    · have hf := x_pos c hf
      refine lv_aload_n hx hb dX10_known_20 rfl (lv_at hl 0 rfl) ?_
      refine lv_iload_n hx hb dX10_known_21 rfl (lv_at hl 1 rfl) ?_
      obtain ⟨d3, hd3, hf⟩ := x_ob hf
      refine xr_putI (ci := 10) (k := 58) S G hd3 rfl kw_1226 dX10_known_22 (fun H locs G => ?_)
      refine lv_iconst (v := (1 : Int32)) hx hb dX10_known_25 (by decide) ?_
      cases hf
      exact xr_zret S G (fun _ => rfl) hr (by decide) dX10_known_26
    · have hf := x_neg c hf
      exact K18 d1 hf _ _ ls (lv_sub hl [] rfl) G
-- HalfLandingsModel.knownMany()I
theorem dX10_knownMany_0 : decode cX10_knownMany 0 = .ok (.aload_n 0, 1) := by decide +kernel
theorem dX10_knownMany_1 : decode cX10_knownMany 1 = .ok (.getfield 120, 3) := by decide +kernel
theorem dX10_knownMany_4 : decode cX10_knownMany 4 = .ok (.iconst (-1), 1) := by decide +kernel
theorem dX10_knownMany_5 : decode cX10_knownMany 5 = .ok (.if_icmp .ne 10, 3) := by decide +kernel
theorem dX10_knownMany_8 : decode cX10_knownMany 8 = .ok (.aload_n 0, 1) := by decide +kernel
theorem dX10_knownMany_9 : decode cX10_knownMany 9 = .ok (.getfield 295, 3) := by decide +kernel
theorem dX10_knownMany_12 : decode cX10_knownMany 12 = .ok (.goto 7, 3) := by decide +kernel
theorem dX10_knownMany_15 : decode cX10_knownMany 15 = .ok (.aload_n 0, 1) := by decide +kernel
theorem dX10_knownMany_16 : decode cX10_knownMany 16 = .ok (.getfield 120, 3) := by decide +kernel
theorem dX10_knownMany_19 : decode cX10_knownMany 19 = .ok (.ireturn, 1) := by decide +kernel
theorem hd_X10_knownMany : yX10_knownMany.cls = xCn 10 ∧ yX10_knownMany.cls ≠ "java/lang/invoke/MethodHandle" ∧ yX10_knownMany.cls ≠ "java/lang/invoke/VarHandle" ∧ (parseMethodDescriptor yX10_knownMany.desc).map (fun d => d.parameters.length) = some 0 := by decide +kernel
def k_X10_knownMany_19 (sh : List xSh) (y0 : Int32) (d : xD) : Option (Int32 × xD) :=
  some (y0, d)
def f_X10_knownMany (sh : List xSh) (q0 : Nat) (d : xD) : Option (Int32 × xD) :=
  (xgI 10 sh d q0 58).bind fun v1 => if v1 = (-1 : Int32) then ((xgI 10 sh d q0 57).bind fun v3 => k_X10_knownMany_19 sh v3 d) else ((xgI 10 sh d q0 58).bind fun v2 => k_X10_knownMany_19 sh v2 d)
set_option maxHeartbeats 4000000 in
set_option maxRecDepth 100000 in
theorem mt_X10_knownMany (l : Launch) (D : va_G) (cid : FieldType → ClassId) (b : Nat) (ex : Bool) (sa sv B0 : Nat) (sh : List xSh) (q0 : Nat) (d : xD) (r : Int32) (dz : xD) (hf : f_X10_knownMany sh q0 d = some (r, dz)) : xMet l yX10_knownMany cX10_knownMany 1 (some .int) 0 0 0 D cid b ex sa sv B0 [.ref (b + q0)] sh d (some (.int r)) sh dz := by
  refine xMet.of (by decide) (Nat.le_of_ble_eq_true rfl) ?_
  intro p e s m below meth c ls A S hr hin G hl
  have hl : lv_has ls 1 [(0, .ref (b + q0))] := hl
  generalize ([.ref (b + q0)] : List Value).toArray = av at S ⊢
  have hx := S.1
  have hb := S.2.1
  have hml := S.2.2.1
  have hown := S.2.2.2.1
  have hts := S.2.2.2.2.1
  have K19 : ∀ (y0 : Int32) (d : xD), k_X10_knownMany_19 sh y0 d = some (r, dz) → ∀ (H : Heap) (locs : List Loc) (ls : Array Slot), lv_has ls 1 [] → xG D cid b A sh d s H locs → W p l e (xRm 0 0 0) s m av below meth c H locs 0 0 (MQ below (xQ D cid b ex A (some (.int r)) sh dz) av s 0 0 A) (F0 m 19 ls [.int y0]) := by
    intro y0 d hf H locs ls hl G
    unfold k_X10_knownMany_19 at hf
    cases hf
    exact xr_iret S G (fun _ => rfl) hr dX10_knownMany_19
  unfold f_X10_knownMany at hf
  refine lv_aload_n hx hb dX10_knownMany_0 rfl (lv_at hl 0 rfl) ?_
  obtain ⟨v1, hv1, hf⟩ := x_ob hf
  refine xr_getI (ci := 10) (k := 58) S G hv1 rfl kw_1226 dX10_knownMany_1 ?_
  refine lv_iconst (v := (-1 : Int32)) hx hb dX10_knownMany_4 (by decide) ?_
  refine lv_icmp_ne (tgt := 15) hx hb dX10_knownMany_5 (by decide) (fun c => ?_) (fun c => ?_)
  · have hf := x_neg c hf
    refine lv_aload_n hx hb dX10_knownMany_15 rfl (lv_at hl 0 rfl) ?_
    obtain ⟨v2, hv2, hf⟩ := x_ob hf
    refine xr_getI (ci := 10) (k := 58) S G hv2 rfl kw_1226 dX10_knownMany_16 ?_
    exact K19 v2 d hf _ _ ls (lv_sub hl [] rfl) G
  · have hf := x_pos c hf
    refine lv_aload_n hx hb dX10_knownMany_8 rfl (lv_at hl 0 rfl) ?_
    obtain ⟨v3, hv3, hf⟩ := x_ob hf
    refine xr_getI (ci := 10) (k := 57) S G hv3 rfl kw_1225 dX10_knownMany_9 ?_
    refine lv_goto (tgt := 19) hx hb dX10_knownMany_12 (by decide) ?_
    exact K19 v3 d hf _ _ ls (lv_sub hl [] rfl) G
-- HalfLandingsModel.isSo(I)Z
theorem dX10_isSo_0 : decode cX10_isSo 0 = .ok (.iconst 0, 1) := by decide +kernel
theorem dX10_isSo_1 : decode cX10_isSo 1 = .ok (.istore_n 2, 1) := by decide +kernel
theorem dX10_isSo_2 : decode cX10_isSo 2 = .ok (.iload_n 2, 1) := by decide +kernel
theorem dX10_isSo_3 : decode cX10_isSo 3 = .ok (.aload_n 0, 1) := by decide +kernel
theorem dX10_isSo_4 : decode cX10_isSo 4 = .ok (.invokevirtual 474, 3) := by decide +kernel
theorem dX10_isSo_7 : decode cX10_isSo 7 = .ok (.if_icmp .ge 80, 3) := by decide +kernel
theorem dX10_isSo_10 : decode cX10_isSo 10 = .ok (.aload_n 0, 1) := by decide +kernel
theorem dX10_isSo_11 : decode cX10_isSo 11 = .ok (.getfield 139, 3) := by decide +kernel
theorem dX10_isSo_14 : decode cX10_isSo 14 = .ok (.iload_n 2, 1) := by decide +kernel
theorem dX10_isSo_15 : decode cX10_isSo 15 = .ok (.baload, 1) := by decide +kernel
theorem dX10_isSo_16 : decode cX10_isSo 16 = .ok (.ifCond .ne 65, 3) := by decide +kernel
theorem dX10_isSo_19 : decode cX10_isSo 19 = .ok (.aload_n 0, 1) := by decide +kernel
theorem dX10_isSo_20 : decode cX10_isSo 20 = .ok (.getfield 136, 3) := by decide +kernel
theorem dX10_isSo_23 : decode cX10_isSo 23 = .ok (.iload_n 2, 1) := by decide +kernel
theorem dX10_isSo_24 : decode cX10_isSo 24 = .ok (.iaload, 1) := by decide +kernel
theorem dX10_isSo_25 : decode cX10_isSo 25 = .ok (.iconst (-1), 1) := by decide +kernel
theorem dX10_isSo_26 : decode cX10_isSo 26 = .ok (.if_icmp .ne 55, 3) := by decide +kernel
theorem dX10_isSo_29 : decode cX10_isSo 29 = .ok (.aload_n 0, 1) := by decide +kernel
theorem dX10_isSo_30 : decode cX10_isSo 30 = .ok (.getfield 123, 3) := by decide +kernel
theorem dX10_isSo_33 : decode cX10_isSo 33 = .ok (.iload_n 2, 1) := by decide +kernel
theorem dX10_isSo_34 : decode cX10_isSo 34 = .ok (.iaload, 1) := by decide +kernel
theorem dX10_isSo_35 : decode cX10_isSo 35 = .ok (.iload_n 1, 1) := by decide +kernel
theorem dX10_isSo_36 : decode cX10_isSo 36 = .ok (.if_icmp .eq 6, 3) := by decide +kernel
theorem dX10_isSo_39 : decode cX10_isSo 39 = .ok (.goto 42, 3) := by decide +kernel
theorem dX10_isSo_42 : decode cX10_isSo 42 = .ok (.aload_n 0, 1) := by decide +kernel
theorem dX10_isSo_43 : decode cX10_isSo 43 = .ok (.getfield 108, 3) := by decide +kernel
theorem dX10_isSo_46 : decode cX10_isSo 46 = .ok (.bipush 8, 2) := by decide +kernel
theorem dX10_isSo_48 : decode cX10_isSo 48 = .ok (.aload_n 0, 1) := by decide +kernel
theorem dX10_isSo_49 : decode cX10_isSo 49 = .ok (.getfield 126, 3) := by decide +kernel
theorem dX10_isSo_52 : decode cX10_isSo 52 = .ok (.iload_n 2, 1) := by decide +kernel
theorem dX10_isSo_53 : decode cX10_isSo 53 = .ok (.iaload, 1) := by decide +kernel
theorem dX10_isSo_54 : decode cX10_isSo 54 = .ok (.iadd, 1) := by decide +kernel
theorem dX10_isSo_55 : decode cX10_isSo 55 = .ok (.iaload, 1) := by decide +kernel
theorem dX10_isSo_56 : decode cX10_isSo 56 = .ok (.aload_n 0, 1) := by decide +kernel
theorem dX10_isSo_57 : decode cX10_isSo 57 = .ok (.getfield 129, 3) := by decide +kernel
theorem dX10_isSo_60 : decode cX10_isSo 60 = .ok (.iload_n 2, 1) := by decide +kernel
theorem dX10_isSo_61 : decode cX10_isSo 61 = .ok (.iaload, 1) := by decide +kernel
theorem dX10_isSo_62 : decode cX10_isSo 62 = .ok (.if_icmp .lt 7, 3) := by decide +kernel
theorem dX10_isSo_65 : decode cX10_isSo 65 = .ok (.iconst 1, 1) := by decide +kernel
theorem dX10_isSo_66 : decode cX10_isSo 66 = .ok (.goto 4, 3) := by decide +kernel
theorem dX10_isSo_69 : decode cX10_isSo 69 = .ok (.iconst 0, 1) := by decide +kernel
theorem dX10_isSo_70 : decode cX10_isSo 70 = .ok (.aload_n 0, 1) := by decide +kernel
theorem dX10_isSo_71 : decode cX10_isSo 71 = .ok (.getfield 132, 3) := by decide +kernel
theorem dX10_isSo_74 : decode cX10_isSo 74 = .ok (.iload_n 2, 1) := by decide +kernel
theorem dX10_isSo_75 : decode cX10_isSo 75 = .ok (.baload, 1) := by decide +kernel
theorem dX10_isSo_76 : decode cX10_isSo 76 = .ok (.if_icmp .eq 5, 3) := by decide +kernel
theorem dX10_isSo_79 : decode cX10_isSo 79 = .ok (.iconst 0, 1) := by decide +kernel
theorem dX10_isSo_80 : decode cX10_isSo 80 = .ok (.ireturn, 1) := by decide +kernel
theorem dX10_isSo_81 : decode cX10_isSo 81 = .ok (.iinc 2 1, 3) := by decide +kernel
theorem dX10_isSo_84 : decode cX10_isSo 84 = .ok (.goto (-82), 3) := by decide +kernel
theorem dX10_isSo_87 : decode cX10_isSo 87 = .ok (.iconst 1, 1) := by decide +kernel
theorem dX10_isSo_88 : decode cX10_isSo 88 = .ok (.ireturn, 1) := by decide +kernel
theorem hd_X10_isSo : yX10_isSo.cls = xCn 10 ∧ yX10_isSo.cls ≠ "java/lang/invoke/MethodHandle" ∧ yX10_isSo.cls ≠ "java/lang/invoke/VarHandle" ∧ (parseMethodDescriptor yX10_isSo.desc).map (fun d => d.parameters.length) = some 1 := by decide +kernel
def k_X10_isSo_87 (sh : List xSh) (d : xD) : Option (Int32 × xD) :=
  some ((1 : Int32), d)
def k_X10_isSo_81 (sh : List xSh) (rec2 : Nat → Int32 → Int32 → xD → Option (Int32 × xD)) (q0 : Nat) (x1 : Int32) (x2 : Int32) (d : xD) : Option (Int32 × xD) :=
  rec2 q0 x1 (x2 + 1) d
def k_X10_isSo_79 (sh : List xSh) (d : xD) : Option (Int32 × xD) :=
  some ((0 : Int32), d)
def k_X10_isSo_70 (sh : List xSh) (rec2 : Nat → Int32 → Int32 → xD → Option (Int32 × xD)) (q0 : Nat) (x1 : Int32) (x2 : Int32) (y0 : Int32) (d : xD) : Option (Int32 × xD) :=
  (xgR 10 sh d q0 62).bind fun v1 => (xaI .boolean sh d v1 x2).bind fun v2 => if y0 = v2 then (k_X10_isSo_81 sh rec2 q0 x1 x2 d) else (k_X10_isSo_79 sh d)
def b_X10_isSo_2 (sh : List xSh) (rec2 : Nat → Int32 → Int32 → xD → Option (Int32 × xD)) (q0 : Nat) (x1 : Int32) (x2 : Int32) (d : xD) : Option (Int32 × xD) :=
  (xon 10 sh q0 (f_X10_knownMany sh q0 d)).bind fun z3 => if z3.1 ≤ x2 then (k_X10_isSo_87 sh z3.2) else ((xgR 10 sh z3.2 q0 64).bind fun v4 => (xaI .boolean sh z3.2 v4 x2).bind fun v5 => if v5 = 0 then ((xgR 10 sh z3.2 q0 63).bind fun v6 => (xaI .int sh z3.2 v6 x2).bind fun v7 => if v7 = (-1 : Int32) then ((xgR 10 sh z3.2 q0 59).bind fun v8 => (xaI .int sh z3.2 v8 x2).bind fun v9 => if v9 = x1 then ((xgR 10 sh z3.2 q0 47).bind fun v10 => (xgR 10 sh z3.2 q0 60).bind fun v11 => (xaI .int sh z3.2 v11 x2).bind fun v12 => (xaI .int sh z3.2 v10 ((8 : Int32) + v12)).bind fun v13 => (xgR 10 sh z3.2 q0 61).bind fun v14 => (xaI .int sh z3.2 v14 x2).bind fun v15 => if v13 < v15 then (k_X10_isSo_70 sh rec2 q0 x1 x2 (0 : Int32) z3.2) else (k_X10_isSo_70 sh rec2 q0 x1 x2 (1 : Int32) z3.2)) else (k_X10_isSo_81 sh rec2 q0 x1 x2 z3.2)) else (k_X10_isSo_81 sh rec2 q0 x1 x2 z3.2)) else (k_X10_isSo_81 sh rec2 q0 x1 x2 z3.2))
def f_X10_isSo (sh : List xSh) (q0 : Nat) (x1 : Int32) (d : xD) : Option (Int32 × xD) :=
  xloop (fun _ _ _ _ => none) (b_X10_isSo_2 sh) xF q0 x1 (0 : Int32) d
set_option maxHeartbeats 4000000 in
set_option maxRecDepth 100000 in
theorem mt_X10_isSo (l : Launch) (D : va_G) (cid : FieldType → ClassId) (b : Nat) (ex : Bool) (sa sv B0 : Nat) (sh : List xSh) (q0 : Nat) (x1 : Int32) (d : xD) (r : Int32) (dz : xD) (hf : f_X10_isSo sh q0 x1 d = some (r, dz)) : xMet l yX10_isSo cX10_isSo 3 (some .boolean) 1 0 0 D cid b ex sa sv B0 [.ref (b + q0), .int x1] sh d (some (.int r)) sh dz := by
  refine xMet.of (by decide) (Nat.le_of_ble_eq_true rfl) ?_
  intro p e s m below meth c ls A S hr hin G hl
  have hl : lv_has ls 3 [(0, .ref (b + q0)), (1, .int x1)] := hl
  generalize ([.ref (b + q0), .int x1] : List Value).toArray = av at S ⊢
  have hx := S.1
  have hb := S.2.1
  have hml := S.2.2.1
  have hown := S.2.2.2.1
  have hts := S.2.2.2.2.1
  have K87 : ∀ (d : xD), k_X10_isSo_87 sh d = some (r, dz) → ∀ (H : Heap) (locs : List Loc) (ls : Array Slot), lv_has ls 3 [] → xG D cid b A sh d s H locs → W p l e (xRm 1 0 0) s m av below meth c H locs 0 0 (MQ below (xQ D cid b ex A (some (.int r)) sh dz) av s 0 0 A) (F0 m 87 ls []) := by
    intro d hf H locs ls hl G
    unfold k_X10_isSo_87 at hf
    refine lv_iconst (v := (1 : Int32)) hx hb dX10_isSo_87 (by decide) ?_
    cases hf
    exact xr_zret S G (fun _ => rfl) hr (by decide) dX10_isSo_88
  have K81 : ∀ (rec2 : Nat → Int32 → Int32 → xD → Option (Int32 × xD)) (hrec2 : ∀ (q0 : Nat) (x1 : Int32) (x2 : Int32) (d : xD), rec2 q0 x1 x2 d = some (r, dz) → ∀ (H : Heap) (locs : List Loc) (ls : Array Slot), lv_has ls 3 [(0, .ref (b + q0)), (1, .int x1), (2, .int x2)] → xG D cid b A sh d s H locs → W p l e (xRm 1 0 0) s m av below meth c H locs 0 0 (MQ below (xQ D cid b ex A (some (.int r)) sh dz) av s 0 0 A) (F0 m 2 ls [])) (q0 : Nat) (x1 : Int32) (x2 : Int32) (d : xD), k_X10_isSo_81 sh rec2 q0 x1 x2 d = some (r, dz) → ∀ (H : Heap) (locs : List Loc) (ls : Array Slot), lv_has ls 3 [(0, .ref (b + q0)), (1, .int x1), (2, .int x2)] → xG D cid b A sh d s H locs → W p l e (xRm 1 0 0) s m av below meth c H locs 0 0 (MQ below (xQ D cid b ex A (some (.int r)) sh dz) av s 0 0 A) (F0 m 81 ls []) := by
    intro rec2 hrec2 q0 x1 x2 d hf H locs ls hl G
    unfold k_X10_isSo_81 at hf
    refine lv_iinc (v := (x2 + 1)) (lv' := [(2, .int (x2 + 1)), (0, .ref (b + q0)), (1, .int x1)]) hx hb dX10_isSo_81 hl (k := 2) rfl rfl (by decide) rfl (fun ls hl => ?_)
    refine lv_goto (tgt := 2) hx hb dX10_isSo_84 (by decide) ?_
    exact hrec2 q0 x1 (x2 + 1) d hf _ _ ls (lv_sub hl [1, 2, 0] rfl) G
  have K79 : ∀ (d : xD), k_X10_isSo_79 sh d = some (r, dz) → ∀ (H : Heap) (locs : List Loc) (ls : Array Slot), lv_has ls 3 [] → xG D cid b A sh d s H locs → W p l e (xRm 1 0 0) s m av below meth c H locs 0 0 (MQ below (xQ D cid b ex A (some (.int r)) sh dz) av s 0 0 A) (F0 m 79 ls []) := by
    intro d hf H locs ls hl G
    unfold k_X10_isSo_79 at hf
    refine lv_iconst (v := (0 : Int32)) hx hb dX10_isSo_79 (by decide) ?_
    cases hf
    exact xr_zret S G (fun _ => rfl) hr (by decide) dX10_isSo_80
  have K70 : ∀ (rec2 : Nat → Int32 → Int32 → xD → Option (Int32 × xD)) (hrec2 : ∀ (q0 : Nat) (x1 : Int32) (x2 : Int32) (d : xD), rec2 q0 x1 x2 d = some (r, dz) → ∀ (H : Heap) (locs : List Loc) (ls : Array Slot), lv_has ls 3 [(0, .ref (b + q0)), (1, .int x1), (2, .int x2)] → xG D cid b A sh d s H locs → W p l e (xRm 1 0 0) s m av below meth c H locs 0 0 (MQ below (xQ D cid b ex A (some (.int r)) sh dz) av s 0 0 A) (F0 m 2 ls [])) (q0 : Nat) (x1 : Int32) (x2 : Int32) (y0 : Int32) (d : xD), k_X10_isSo_70 sh rec2 q0 x1 x2 y0 d = some (r, dz) → ∀ (H : Heap) (locs : List Loc) (ls : Array Slot), lv_has ls 3 [(0, .ref (b + q0)), (1, .int x1), (2, .int x2)] → xG D cid b A sh d s H locs → W p l e (xRm 1 0 0) s m av below meth c H locs 0 0 (MQ below (xQ D cid b ex A (some (.int r)) sh dz) av s 0 0 A) (F0 m 70 ls [.int y0]) := by
    intro rec2 hrec2 q0 x1 x2 y0 d hf H locs ls hl G
    unfold k_X10_isSo_70 at hf
    refine lv_aload_n hx hb dX10_isSo_70 rfl (lv_at hl 0 rfl) ?_
    obtain ⟨v1, hv1, hf⟩ := x_ob hf
    refine xr_getR (ci := 10) (k := 62) S G hv1 rfl kw_1230 dX10_isSo_71 ?_
    refine lv_iload_n hx hb dX10_isSo_74 rfl (lv_at hl 2 rfl) ?_
    obtain ⟨v2, hv2, hf⟩ := x_ob hf
    refine xr_zald S G hv2 dX10_isSo_75 ?_
    refine lv_icmp_eq (tgt := 81) hx hb dX10_isSo_76 (by decide) (fun c => ?_) (fun c => ?_)
    · have hf := x_pos c hf
      exact K81 _ hrec2 q0 x1 x2 d hf _ _ ls (lv_sub hl [0, 1, 2] rfl) G
    · have hf := x_neg c hf
      exact K79 d hf _ _ ls (lv_sub hl [] rfl) G
  have K2 : ∀ (n : Nat) (q0 : Nat) (x1 : Int32) (x2 : Int32) (d : xD), xloop (fun _ _ _ _ => none) (b_X10_isSo_2 sh) n q0 x1 x2 d = some (r, dz) → ∀ (H : Heap) (locs : List Loc) (ls : Array Slot), lv_has ls 3 [(0, .ref (b + q0)), (1, .int x1), (2, .int x2)] → xG D cid b A sh d s H locs → W p l e (xRm 1 0 0) s m av below meth c H locs 0 0 (MQ below (xQ D cid b ex A (some (.int r)) sh dz) av s 0 0 A) (F0 m 2 ls []) := by
    intro n
    induction n with
    | zero =>
      intro q0 x1 x2 d hf
      have hf : (none : Option (Int32 × xD)) = some (r, dz) := hf
      cases hf
    | succ n hrec2 =>
      intro q0 x1 x2 d hf H locs ls hl G
      have hf : b_X10_isSo_2 sh (xloop (fun _ _ _ _ => none) (b_X10_isSo_2 sh) n) q0 x1 x2 d = some (r, dz) := hf
      unfold b_X10_isSo_2 at hf
      refine lv_iload_n hx hb dX10_isSo_2 rfl (lv_at hl 2 rfl) ?_
      refine lv_aload_n hx hb dX10_isSo_3 rfl (lv_at hl 0 rfl) ?_
      obtain ⟨z3, hz3, hf⟩ := x_ob hf
      obtain ⟨hqz3, hz3⟩ := xon_of hz3
      refine xr_callV (ci := 10) (As := []) (rest := [.int x2]) (st1 := [.int z3.1, .int x2]) S G hl.1 (fun _ => rfl) (mt_X10_knownMany l D cid b ex sa sv B0 sh q0 d _ _ hz3) hqz3 (by decide) kw_1750 kw_1752 ks_96 kw_17 kw_1753 hd_X10_knownMany ⟨Nat.le_of_ble_eq_true rfl, Nat.le_of_ble_eq_true rfl⟩ rfl rfl rfl (Nat.le_of_ble_eq_true rfl) ⟨Nat.le_of_ble_eq_true rfl, Nat.le_of_ble_eq_true rfl⟩ dX10_isSo_4 (fun H locs G => ?_)
      refine lv_icmp_ge (tgt := 87) hx hb dX10_isSo_7 (by decide) (fun c => ?_) (fun c => ?_)
      · have hf := x_pos c hf
        exact K87 z3.2 hf _ _ ls (lv_sub hl [] rfl) G
      · have hf := x_neg c hf
        refine lv_aload_n hx hb dX10_isSo_10 rfl (lv_at hl 0 rfl) ?_
        obtain ⟨v4, hv4, hf⟩ := x_ob hf
        refine xr_getR (ci := 10) (k := 64) S G hv4 rfl kw_1232 dX10_isSo_11 ?_
        refine lv_iload_n hx hb dX10_isSo_14 rfl (lv_at hl 2 rfl) ?_
        obtain ⟨v5, hv5, hf⟩ := x_ob hf
        refine xr_zald S G hv5 dX10_isSo_15 ?_
        refine lv_if_ne (tgt := 81) hx hb dX10_isSo_16 (by decide) (fun c => ?_) (fun c => ?_)
        · have hf := x_neg c hf
          exact K81 _ hrec2 q0 x1 x2 z3.2 hf _ _ ls (lv_sub hl [0, 1, 2] rfl) G
        · have hf := x_pos c hf
          refine lv_aload_n hx hb dX10_isSo_19 rfl (lv_at hl 0 rfl) ?_
          obtain ⟨v6, hv6, hf⟩ := x_ob hf
          refine xr_getR (ci := 10) (k := 63) S G hv6 rfl kw_1231 dX10_isSo_20 ?_
          refine lv_iload_n hx hb dX10_isSo_23 rfl (lv_at hl 2 rfl) ?_
          obtain ⟨v7, hv7, hf⟩ := x_ob hf
          refine xr_iald S G hv7 dX10_isSo_24 ?_
          refine lv_iconst (v := (-1 : Int32)) hx hb dX10_isSo_25 (by decide) ?_
          refine lv_icmp_ne (tgt := 81) hx hb dX10_isSo_26 (by decide) (fun c => ?_) (fun c => ?_)
          · have hf := x_neg c hf
            exact K81 _ hrec2 q0 x1 x2 z3.2 hf _ _ ls (lv_sub hl [0, 1, 2] rfl) G
          · have hf := x_pos c hf
            refine lv_aload_n hx hb dX10_isSo_29 rfl (lv_at hl 0 rfl) ?_
            obtain ⟨v8, hv8, hf⟩ := x_ob hf
            refine xr_getR (ci := 10) (k := 59) S G hv8 rfl kw_1227 dX10_isSo_30 ?_
            refine lv_iload_n hx hb dX10_isSo_33 rfl (lv_at hl 2 rfl) ?_
            obtain ⟨v9, hv9, hf⟩ := x_ob hf
            refine xr_iald S G hv9 dX10_isSo_34 ?_
            refine lv_iload_n hx hb dX10_isSo_35 rfl (lv_at hl 1 rfl) ?_
            refine lv_icmp_eq (tgt := 42) hx hb dX10_isSo_36 (by decide) (fun c => ?_) (fun c => ?_)
            · have hf := x_pos c hf
              refine lv_aload_n hx hb dX10_isSo_42 rfl (lv_at hl 0 rfl) ?_
              obtain ⟨v10, hv10, hf⟩ := x_ob hf
              refine xr_getR (ci := 10) (k := 47) S G hv10 rfl kw_1215 dX10_isSo_43 ?_
              refine lv_bipush (v := (8 : Int32)) hx hb dX10_isSo_46 (by decide) ?_
              refine lv_aload_n hx hb dX10_isSo_48 rfl (lv_at hl 0 rfl) ?_
              obtain ⟨v11, hv11, hf⟩ := x_ob hf
              refine xr_getR (ci := 10) (k := 60) S G hv11 rfl kw_1228 dX10_isSo_49 ?_
              refine lv_iload_n hx hb dX10_isSo_52 rfl (lv_at hl 2 rfl) ?_
              obtain ⟨v12, hv12, hf⟩ := x_ob hf
              refine xr_iald S G hv12 dX10_isSo_53 ?_
              refine lv_iadd hx hb dX10_isSo_54 ?_
              obtain ⟨v13, hv13, hf⟩ := x_ob hf
              refine xr_iald S G hv13 dX10_isSo_55 ?_
              refine lv_aload_n hx hb dX10_isSo_56 rfl (lv_at hl 0 rfl) ?_
              obtain ⟨v14, hv14, hf⟩ := x_ob hf
              refine xr_getR (ci := 10) (k := 61) S G hv14 rfl kw_1229 dX10_isSo_57 ?_
              refine lv_iload_n hx hb dX10_isSo_60 rfl (lv_at hl 2 rfl) ?_
              obtain ⟨v15, hv15, hf⟩ := x_ob hf
              refine xr_iald S G hv15 dX10_isSo_61 ?_
              refine lv_icmp_lt (tgt := 69) hx hb dX10_isSo_62 (by decide) (fun c => ?_) (fun c => ?_)
              · have hf := x_pos c hf
                refine lv_iconst (v := (0 : Int32)) hx hb dX10_isSo_69 (by decide) ?_
                exact K70 _ hrec2 q0 x1 x2 (0 : Int32) z3.2 hf _ _ ls (lv_sub hl [0, 1, 2] rfl) G
              · have hf := x_neg c hf
                refine lv_iconst (v := (1 : Int32)) hx hb dX10_isSo_65 (by decide) ?_
                refine lv_goto (tgt := 70) hx hb dX10_isSo_66 (by decide) ?_
                exact K70 _ hrec2 q0 x1 x2 (1 : Int32) z3.2 hf _ _ ls (lv_sub hl [0, 1, 2] rfl) G
            · have hf := x_neg c hf
              refine lv_goto (tgt := 81) hx hb dX10_isSo_39 (by decide) ?_
              exact K81 _ hrec2 q0 x1 x2 z3.2 hf _ _ ls (lv_sub hl [0, 1, 2] rfl) G
  unfold f_X10_isSo at hf
  refine lv_iconst (v := (0 : Int32)) hx hb dX10_isSo_0 (by decide) ?_
  refine lv_istore_n (lv' := [(2, .int (0 : Int32)), (0, .ref (b + q0)), (1, .int x1)]) hx hb dX10_isSo_1 rfl hl (by decide) rfl (fun ls hl => ?_)
  exact K2 xF q0 x1 (0 : Int32) d hf _ _ ls (lv_sub hl [1, 2, 0] rfl) G
-- HalfLandingsModel.fitsPace(I)Z
theorem dX10_fitsPace_0 : decode cX10_fitsPace 0 = .ok (.aload_n 0, 1) := by decide +kernel
theorem dX10_fitsPace_1 : decode cX10_fitsPace 1 = .ok (.iconst 1, 1) := by decide +kernel
theorem dX10_fitsPace_2 : decode cX10_fitsPace 2 = .ok (.invokevirtual 325, 3) := by decide +kernel
theorem dX10_fitsPace_5 : decode cX10_fitsPace 5 = .ok (.iconst 1, 1) := by decide +kernel
theorem dX10_fitsPace_6 : decode cX10_fitsPace 6 = .ok (.istore_n 2, 1) := by decide +kernel
theorem dX10_fitsPace_7 : decode cX10_fitsPace 7 = .ok (.iload_n 2, 1) := by decide +kernel
theorem dX10_fitsPace_8 : decode cX10_fitsPace 8 = .ok (.iload_n 1, 1) := by decide +kernel
theorem dX10_fitsPace_9 : decode cX10_fitsPace 9 = .ok (.if_icmp .gt 25, 3) := by decide +kernel
theorem dX10_fitsPace_12 : decode cX10_fitsPace 12 = .ok (.aload_n 0, 1) := by decide +kernel
theorem dX10_fitsPace_13 : decode cX10_fitsPace 13 = .ok (.iconst 1, 1) := by decide +kernel
theorem dX10_fitsPace_14 : decode cX10_fitsPace 14 = .ok (.iconst 0, 1) := by decide +kernel
theorem dX10_fitsPace_15 : decode cX10_fitsPace 15 = .ok (.invokevirtual 409, 3) := by decide +kernel
theorem dX10_fitsPace_18 : decode cX10_fitsPace 18 = .ok (.aload_n 0, 1) := by decide +kernel
theorem dX10_fitsPace_19 : decode cX10_fitsPace 19 = .ok (.iload_n 2, 1) := by decide +kernel
theorem dX10_fitsPace_20 : decode cX10_fitsPace 20 = .ok (.invokevirtual 477, 3) := by decide +kernel
theorem dX10_fitsPace_23 : decode cX10_fitsPace 23 = .ok (.ifCond .ne 5, 3) := by decide +kernel
theorem dX10_fitsPace_26 : decode cX10_fitsPace 26 = .ok (.iconst 0, 1) := by decide +kernel
theorem dX10_fitsPace_27 : decode cX10_fitsPace 27 = .ok (.ireturn, 1) := by decide +kernel
theorem dX10_fitsPace_28 : decode cX10_fitsPace 28 = .ok (.iinc 2 1, 3) := by decide +kernel
theorem dX10_fitsPace_31 : decode cX10_fitsPace 31 = .ok (.goto (-24), 3) := by decide +kernel
theorem dX10_fitsPace_34 : decode cX10_fitsPace 34 = .ok (.iconst 1, 1) := by decide +kernel
theorem dX10_fitsPace_35 : decode cX10_fitsPace 35 = .ok (.ireturn, 1) := by decide +kernel
theorem hd_X10_fitsPace : yX10_fitsPace.cls = xCn 10 ∧ yX10_fitsPace.cls ≠ "java/lang/invoke/MethodHandle" ∧ yX10_fitsPace.cls ≠ "java/lang/invoke/VarHandle" ∧ (parseMethodDescriptor yX10_fitsPace.desc).map (fun d => d.parameters.length) = some 1 := by decide +kernel
def k_X10_fitsPace_34 (sh : List xSh) (d : xD) : Option (Int32 × xD) :=
  some ((1 : Int32), d)
def k_X10_fitsPace_26 (sh : List xSh) (d : xD) : Option (Int32 × xD) :=
  some ((0 : Int32), d)
def b_X10_fitsPace_7 (sh : List xSh) (rec7 : Nat → Int32 → Int32 → xD → Option (Int32 × xD)) (q0 : Nat) (x1 : Int32) (x2 : Int32) (d : xD) : Option (Int32 × xD) :=
  if x1 < x2 then (k_X10_fitsPace_34 sh d) else ((xon 10 sh q0 (f_X10_passes sh q0 (1 : Int32) (0 : Int32) d)).bind fun d1 => (xon 10 sh q0 (f_X10_isSo sh q0 x2 d1)).bind fun z2 => if z2.1 = 0 then (k_X10_fitsPace_26 sh z2.2) else (rec7 q0 x1 (x2 + 1) z2.2))
def f_X10_fitsPace (sh : List xSh) (q0 : Nat) (x1 : Int32) (d : xD) : Option (Int32 × xD) :=
  (xon 10 sh q0 (f_X10_starts sh q0 (1 : Int32) d)).bind fun d3 => xloop (fun _ _ _ _ => none) (b_X10_fitsPace_7 sh) xF q0 x1 (1 : Int32) d3
set_option maxHeartbeats 4000000 in
set_option maxRecDepth 100000 in
theorem mt_X10_fitsPace (l : Launch) (D : va_G) (cid : FieldType → ClassId) (b : Nat) (ex : Bool) (sa sv B0 : Nat) (sh : List xSh) (q0 : Nat) (x1 : Int32) (d : xD) (r : Int32) (dz : xD) (hf : f_X10_fitsPace sh q0 x1 d = some (r, dz)) : xMet l yX10_fitsPace cX10_fitsPace 3 (some .boolean) 6 0 0 D cid b ex sa sv B0 [.ref (b + q0), .int x1] sh d (some (.int r)) sh dz := by
  refine xMet.of (by decide) (Nat.le_of_ble_eq_true rfl) ?_
  intro p e s m below meth c ls A S hr hin G hl
  have hl : lv_has ls 3 [(0, .ref (b + q0)), (1, .int x1)] := hl
  generalize ([.ref (b + q0), .int x1] : List Value).toArray = av at S ⊢
  have hx := S.1
  have hb := S.2.1
  have hml := S.2.2.1
  have hown := S.2.2.2.1
  have hts := S.2.2.2.2.1
  have K34 : ∀ (d : xD), k_X10_fitsPace_34 sh d = some (r, dz) → ∀ (H : Heap) (locs : List Loc) (ls : Array Slot), lv_has ls 3 [] → xG D cid b A sh d s H locs → W p l e (xRm 6 0 0) s m av below meth c H locs 0 0 (MQ below (xQ D cid b ex A (some (.int r)) sh dz) av s 0 0 A) (F0 m 34 ls []) := by
    intro d hf H locs ls hl G
    unfold k_X10_fitsPace_34 at hf
    refine lv_iconst (v := (1 : Int32)) hx hb dX10_fitsPace_34 (by decide) ?_
    cases hf
    exact xr_zret S G (fun _ => rfl) hr (by decide) dX10_fitsPace_35
  have K26 : ∀ (d : xD), k_X10_fitsPace_26 sh d = some (r, dz) → ∀ (H : Heap) (locs : List Loc) (ls : Array Slot), lv_has ls 3 [] → xG D cid b A sh d s H locs → W p l e (xRm 6 0 0) s m av below meth c H locs 0 0 (MQ below (xQ D cid b ex A (some (.int r)) sh dz) av s 0 0 A) (F0 m 26 ls []) := by
    intro d hf H locs ls hl G
    unfold k_X10_fitsPace_26 at hf
    refine lv_iconst (v := (0 : Int32)) hx hb dX10_fitsPace_26 (by decide) ?_
    cases hf
    exact xr_zret S G (fun _ => rfl) hr (by decide) dX10_fitsPace_27
  have K7 : ∀ (n : Nat) (q0 : Nat) (x1 : Int32) (x2 : Int32) (d : xD), xloop (fun _ _ _ _ => none) (b_X10_fitsPace_7 sh) n q0 x1 x2 d = some (r, dz) → ∀ (H : Heap) (locs : List Loc) (ls : Array Slot), lv_has ls 3 [(0, .ref (b + q0)), (1, .int x1), (2, .int x2)] → xG D cid b A sh d s H locs → W p l e (xRm 6 0 0) s m av below meth c H locs 0 0 (MQ below (xQ D cid b ex A (some (.int r)) sh dz) av s 0 0 A) (F0 m 7 ls []) := by
    intro n
    induction n with
    | zero =>
      intro q0 x1 x2 d hf
      have hf : (none : Option (Int32 × xD)) = some (r, dz) := hf
      cases hf
    | succ n hrec7 =>
      intro q0 x1 x2 d hf H locs ls hl G
      have hf : b_X10_fitsPace_7 sh (xloop (fun _ _ _ _ => none) (b_X10_fitsPace_7 sh) n) q0 x1 x2 d = some (r, dz) := hf
      unfold b_X10_fitsPace_7 at hf
      refine lv_iload_n hx hb dX10_fitsPace_7 rfl (lv_at hl 2 rfl) ?_
      refine lv_iload_n hx hb dX10_fitsPace_8 rfl (lv_at hl 1 rfl) ?_
      refine lv_icmp_gt (tgt := 34) hx hb dX10_fitsPace_9 (by decide) (fun c => ?_) (fun c => ?_)
      · have hf := x_pos c hf
        exact K34 d hf _ _ ls (lv_sub hl [] rfl) G
      · have hf := x_neg c hf
        refine lv_aload_n hx hb dX10_fitsPace_12 rfl (lv_at hl 0 rfl) ?_
        refine lv_iconst (v := (1 : Int32)) hx hb dX10_fitsPace_13 (by decide) ?_
        refine lv_iconst (v := (0 : Int32)) hx hb dX10_fitsPace_14 (by decide) ?_
        obtain ⟨d1, hd1, hf⟩ := x_ob hf
        obtain ⟨hqd1, hd1⟩ := xon_of hd1
        refine xr_callV (ci := 10) (As := [.int (1 : Int32), .int (0 : Int32)]) (rest := []) (st1 := []) S G hl.1 (fun _ => rfl) (mt_X10_passes l D cid b ex sa sv B0 sh q0 (1 : Int32) (0 : Int32) d _ hd1) hqd1 (by decide) kw_1616 kw_1618 ks_79 kw_17 kw_1619 hd_X10_passes ⟨Nat.le_of_ble_eq_true rfl, Nat.le_of_ble_eq_true rfl⟩ rfl rfl rfl (Nat.le_of_ble_eq_true rfl) ⟨Nat.le_of_ble_eq_true rfl, Nat.le_of_ble_eq_true rfl⟩ dX10_fitsPace_15 (fun H locs G => ?_)
        refine lv_aload_n hx hb dX10_fitsPace_18 rfl (lv_at hl 0 rfl) ?_
        refine lv_iload_n hx hb dX10_fitsPace_19 rfl (lv_at hl 2 rfl) ?_
        obtain ⟨z2, hz2, hf⟩ := x_ob hf
        obtain ⟨hqz2, hz2⟩ := xon_of hz2
        refine xr_callV (ci := 10) (As := [.int x2]) (rest := []) (st1 := [.int z2.1]) S G hl.1 (fun _ => rfl) (mt_X10_isSo l D cid b ex sa sv B0 sh q0 x2 d1 _ _ hz2) hqz2 (by decide) kw_1759 kw_1761 ks_98 kw_17 kw_1762 hd_X10_isSo ⟨Nat.le_of_ble_eq_true rfl, Nat.le_of_ble_eq_true rfl⟩ rfl rfl rfl (Nat.le_of_ble_eq_true rfl) ⟨Nat.le_of_ble_eq_true rfl, Nat.le_of_ble_eq_true rfl⟩ dX10_fitsPace_20 (fun H locs G => ?_)
        refine lv_if_ne (tgt := 28) hx hb dX10_fitsPace_23 (by decide) (fun c => ?_) (fun c => ?_)
        · have hf := x_neg c hf
          refine lv_iinc (v := (x2 + 1)) (lv' := [(2, .int (x2 + 1)), (0, .ref (b + q0)), (1, .int x1)]) hx hb dX10_fitsPace_28 hl (k := 2) rfl rfl (by decide) rfl (fun ls hl => ?_)
          refine lv_goto (tgt := 7) hx hb dX10_fitsPace_31 (by decide) ?_
          exact hrec7 q0 x1 (x2 + 1) z2.2 hf _ _ ls (lv_sub hl [1, 2, 0] rfl) G
        · have hf := x_pos c hf
          exact K26 z2.2 hf _ _ ls (lv_sub hl [] rfl) G
  unfold f_X10_fitsPace at hf
  refine lv_aload_n hx hb dX10_fitsPace_0 rfl (lv_at hl 0 rfl) ?_
  refine lv_iconst (v := (1 : Int32)) hx hb dX10_fitsPace_1 (by decide) ?_
  obtain ⟨d3, hd3, hf⟩ := x_ob hf
  obtain ⟨hqd3, hd3⟩ := xon_of hd3
  refine xr_callV (ci := 10) (As := [.int (1 : Int32)]) (rest := []) (st1 := []) S G hl.1 (fun _ => rfl) (mt_X10_starts l D cid b ex sa sv B0 sh q0 (1 : Int32) d _ hd3) hqd3 (by decide) kw_1164 kw_1166 ks_36 kw_17 kw_1167 hd_X10_starts ⟨Nat.le_of_ble_eq_true rfl, Nat.le_of_ble_eq_true rfl⟩ rfl rfl rfl (Nat.le_of_ble_eq_true rfl) ⟨Nat.le_of_ble_eq_true rfl, Nat.le_of_ble_eq_true rfl⟩ dX10_fitsPace_2 (fun H locs G => ?_)
  refine lv_iconst (v := (1 : Int32)) hx hb dX10_fitsPace_5 (by decide) ?_
  refine lv_istore_n (lv' := [(2, .int (1 : Int32)), (0, .ref (b + q0)), (1, .int x1)]) hx hb dX10_fitsPace_6 rfl hl (by decide) rfl (fun ls hl => ?_)
  exact K7 xF q0 x1 (1 : Int32) d3 hf _ _ ls (lv_sub hl [1, 2, 0] rfl) G
-- HalfLandingsModel.paces(I)I
theorem dX10_paces_0 : decode cX10_paces 0 = .ok (.aload_n 0, 1) := by decide +kernel
theorem dX10_paces_1 : decode cX10_paces 1 = .ok (.iconst 0, 1) := by decide +kernel
theorem dX10_paces_2 : decode cX10_paces 2 = .ok (.putfield 145, 3) := by decide +kernel
theorem dX10_paces_5 : decode cX10_paces 5 = .ok (.aload_n 0, 1) := by decide +kernel
theorem dX10_paces_6 : decode cX10_paces 6 = .ok (.iload_n 1, 1) := by decide +kernel
theorem dX10_paces_7 : decode cX10_paces 7 = .ok (.invokevirtual 419, 3) := by decide +kernel
theorem dX10_paces_10 : decode cX10_paces 10 = .ok (.ifCond .ne 5, 3) := by decide +kernel
theorem dX10_paces_13 : decode cX10_paces 13 = .ok (.iconst (-1), 1) := by decide +kernel
theorem dX10_paces_14 : decode cX10_paces 14 = .ok (.ireturn, 1) := by decide +kernel
theorem dX10_paces_15 : decode cX10_paces 15 = .ok (.iconst 0, 1) := by decide +kernel
theorem dX10_paces_16 : decode cX10_paces 16 = .ok (.istore_n 2, 1) := by decide +kernel
theorem dX10_paces_17 : decode cX10_paces 17 = .ok (.iconst 0, 1) := by decide +kernel
theorem dX10_paces_18 : decode cX10_paces 18 = .ok (.istore_n 3, 1) := by decide +kernel
theorem dX10_paces_19 : decode cX10_paces 19 = .ok (.iload_n 3, 1) := by decide +kernel
theorem dX10_paces_20 : decode cX10_paces 20 = .ok (.aload_n 0, 1) := by decide +kernel
theorem dX10_paces_21 : decode cX10_paces 21 = .ok (.invokevirtual 474, 3) := by decide +kernel
theorem dX10_paces_24 : decode cX10_paces 24 = .ok (.if_icmp .ge 16, 3) := by decide +kernel
theorem dX10_paces_27 : decode cX10_paces 27 = .ok (.aload_n 0, 1) := by decide +kernel
theorem dX10_paces_28 : decode cX10_paces 28 = .ok (.getfield 139, 3) := by decide +kernel
theorem dX10_paces_31 : decode cX10_paces 31 = .ok (.iload_n 3, 1) := by decide +kernel
theorem dX10_paces_32 : decode cX10_paces 32 = .ok (.iconst 0, 1) := by decide +kernel
theorem dX10_paces_33 : decode cX10_paces 33 = .ok (.bastore, 1) := by decide +kernel
theorem dX10_paces_34 : decode cX10_paces 34 = .ok (.iinc 3 1, 3) := by decide +kernel
theorem dX10_paces_37 : decode cX10_paces 37 = .ok (.goto (-18), 3) := by decide +kernel
theorem dX10_paces_40 : decode cX10_paces 40 = .ok (.aload_n 0, 1) := by decide +kernel
theorem dX10_paces_41 : decode cX10_paces 41 = .ok (.invokevirtual 474, 3) := by decide +kernel
theorem dX10_paces_44 : decode cX10_paces 44 = .ok (.iconst 1, 1) := by decide +kernel
theorem dX10_paces_45 : decode cX10_paces 45 = .ok (.isub, 1) := by decide +kernel
theorem dX10_paces_46 : decode cX10_paces 46 = .ok (.istore_n 3, 1) := by decide +kernel
theorem dX10_paces_47 : decode cX10_paces 47 = .ok (.iload_n 3, 1) := by decide +kernel
theorem dX10_paces_48 : decode cX10_paces 48 = .ok (.ifCond .lt 40, 3) := by decide +kernel
theorem dX10_paces_51 : decode cX10_paces 51 = .ok (.aload_n 0, 1) := by decide +kernel
theorem dX10_paces_52 : decode cX10_paces 52 = .ok (.getfield 139, 3) := by decide +kernel
theorem dX10_paces_55 : decode cX10_paces 55 = .ok (.iload_n 3, 1) := by decide +kernel
theorem dX10_paces_56 : decode cX10_paces 56 = .ok (.baload, 1) := by decide +kernel
theorem dX10_paces_57 : decode cX10_paces 57 = .ok (.ifCond .ne 25, 3) := by decide +kernel
theorem dX10_paces_60 : decode cX10_paces 60 = .ok (.aload_n 0, 1) := by decide +kernel
theorem dX10_paces_61 : decode cX10_paces 61 = .ok (.getfield 136, 3) := by decide +kernel
theorem dX10_paces_64 : decode cX10_paces 64 = .ok (.iload_n 3, 1) := by decide +kernel
theorem dX10_paces_65 : decode cX10_paces 65 = .ok (.iaload, 1) := by decide +kernel
theorem dX10_paces_66 : decode cX10_paces 66 = .ok (.iconst (-1), 1) := by decide +kernel
theorem dX10_paces_67 : decode cX10_paces 67 = .ok (.if_icmp .eq 15, 3) := by decide +kernel
theorem dX10_paces_70 : decode cX10_paces 70 = .ok (.aload_n 0, 1) := by decide +kernel
theorem dX10_paces_71 : decode cX10_paces 71 = .ok (.getfield 139, 3) := by decide +kernel
theorem dX10_paces_74 : decode cX10_paces 74 = .ok (.aload_n 0, 1) := by decide +kernel
theorem dX10_paces_75 : decode cX10_paces 75 = .ok (.getfield 136, 3) := by decide +kernel
theorem dX10_paces_78 : decode cX10_paces 78 = .ok (.iload_n 3, 1) := by decide +kernel
theorem dX10_paces_79 : decode cX10_paces 79 = .ok (.iaload, 1) := by decide +kernel
theorem dX10_paces_80 : decode cX10_paces 80 = .ok (.iconst 1, 1) := by decide +kernel
theorem dX10_paces_81 : decode cX10_paces 81 = .ok (.bastore, 1) := by decide +kernel
theorem dX10_paces_82 : decode cX10_paces 82 = .ok (.iinc 3 (-1), 3) := by decide +kernel
theorem dX10_paces_85 : decode cX10_paces 85 = .ok (.goto (-38), 3) := by decide +kernel
theorem dX10_paces_88 : decode cX10_paces 88 = .ok (.iconst 0, 1) := by decide +kernel
theorem dX10_paces_89 : decode cX10_paces 89 = .ok (.istore_n 3, 1) := by decide +kernel
theorem dX10_paces_90 : decode cX10_paces 90 = .ok (.iload_n 3, 1) := by decide +kernel
theorem dX10_paces_91 : decode cX10_paces 91 = .ok (.aload_n 0, 1) := by decide +kernel
theorem dX10_paces_92 : decode cX10_paces 92 = .ok (.invokevirtual 474, 3) := by decide +kernel
theorem dX10_paces_95 : decode cX10_paces 95 = .ok (.if_icmp .ge 39, 3) := by decide +kernel
theorem dX10_paces_98 : decode cX10_paces 98 = .ok (.aload_n 0, 1) := by decide +kernel
theorem dX10_paces_99 : decode cX10_paces 99 = .ok (.getfield 139, 3) := by decide +kernel
theorem dX10_paces_102 : decode cX10_paces 102 = .ok (.iload_n 3, 1) := by decide +kernel
theorem dX10_paces_103 : decode cX10_paces 103 = .ok (.baload, 1) := by decide +kernel
theorem dX10_paces_104 : decode cX10_paces 104 = .ok (.ifCond .ne 24, 3) := by decide +kernel
theorem dX10_paces_107 : decode cX10_paces 107 = .ok (.aload_n 0, 1) := by decide +kernel
theorem dX10_paces_108 : decode cX10_paces 108 = .ok (.getfield 136, 3) := by decide +kernel
theorem dX10_paces_111 : decode cX10_paces 111 = .ok (.iload_n 3, 1) := by decide +kernel
theorem dX10_paces_112 : decode cX10_paces 112 = .ok (.iaload, 1) := by decide +kernel
theorem dX10_paces_113 : decode cX10_paces 113 = .ok (.iconst (-1), 1) := by decide +kernel
theorem dX10_paces_114 : decode cX10_paces 114 = .ok (.if_icmp .ne 14, 3) := by decide +kernel
theorem dX10_paces_117 : decode cX10_paces 117 = .ok (.iload_n 2, 1) := by decide +kernel
theorem dX10_paces_118 : decode cX10_paces 118 = .ok (.aload_n 0, 1) := by decide +kernel
theorem dX10_paces_119 : decode cX10_paces 119 = .ok (.getfield 123, 3) := by decide +kernel
theorem dX10_paces_122 : decode cX10_paces 122 = .ok (.iload_n 3, 1) := by decide +kernel
theorem dX10_paces_123 : decode cX10_paces 123 = .ok (.iaload, 1) := by decide +kernel
theorem dX10_paces_124 : decode cX10_paces 124 = .ok (.invokestatic 480, 3) := by decide +kernel
theorem dX10_paces_127 : decode cX10_paces 127 = .ok (.istore_n 2, 1) := by decide +kernel
theorem dX10_paces_128 : decode cX10_paces 128 = .ok (.iinc 3 1, 3) := by decide +kernel
theorem dX10_paces_131 : decode cX10_paces 131 = .ok (.goto (-41), 3) := by decide +kernel
theorem dX10_paces_134 : decode cX10_paces 134 = .ok (.iconst 0, 1) := by decide +kernel
theorem dX10_paces_135 : decode cX10_paces 135 = .ok (.istore_n 3, 1) := by decide +kernel
theorem dX10_paces_136 : decode cX10_paces 136 = .ok (.aload_n 0, 1) := by decide +kernel
theorem dX10_paces_137 : decode cX10_paces 137 = .ok (.iload_n 1, 1) := by decide +kernel
theorem dX10_paces_138 : decode cX10_paces 138 = .ok (.putfield 111, 3) := by decide +kernel
theorem dX10_paces_141 : decode cX10_paces 141 = .ok (.iconst 0, 1) := by decide +kernel
theorem dX10_paces_142 : decode cX10_paces 142 = .ok (.istore 4, 2) := by decide +kernel
theorem dX10_paces_144 : decode cX10_paces 144 = .ok (.iload 4, 2) := by decide +kernel
theorem dX10_paces_146 : decode cX10_paces 146 = .ok (.bipush 9, 2) := by decide +kernel
theorem dX10_paces_148 : decode cX10_paces 148 = .ok (.if_icmp .ge 36, 3) := by decide +kernel
theorem dX10_paces_151 : decode cX10_paces 151 = .ok (.aload_n 0, 1) := by decide +kernel
theorem dX10_paces_152 : decode cX10_paces 152 = .ok (.iload 4, 2) := by decide +kernel
theorem dX10_paces_154 : decode cX10_paces 154 = .ok (.iconst 1, 1) := by decide +kernel
theorem dX10_paces_155 : decode cX10_paces 155 = .ok (.iadd, 1) := by decide +kernel
theorem dX10_paces_156 : decode cX10_paces 156 = .ok (.putfield 328, 3) := by decide +kernel
theorem dX10_paces_159 : decode cX10_paces 159 = .ok (.iload_n 3, 1) := by decide +kernel
theorem dX10_paces_160 : decode cX10_paces 160 = .ok (.aload_n 0, 1) := by decide +kernel
theorem dX10_paces_161 : decode cX10_paces 161 = .ok (.iload_n 2, 1) := by decide +kernel
theorem dX10_paces_162 : decode cX10_paces 162 = .ok (.invokevirtual 482, 3) := by decide +kernel
theorem dX10_paces_165 : decode cX10_paces 165 = .ok (.ifCond .eq 10, 3) := by decide +kernel
theorem dX10_paces_168 : decode cX10_paces 168 = .ok (.iconst 1, 1) := by decide +kernel
theorem dX10_paces_169 : decode cX10_paces 169 = .ok (.iload 4, 2) := by decide +kernel
theorem dX10_paces_171 : decode cX10_paces 171 = .ok (.ishl, 1) := by decide +kernel
theorem dX10_paces_172 : decode cX10_paces 172 = .ok (.goto 4, 3) := by decide +kernel
theorem dX10_paces_175 : decode cX10_paces 175 = .ok (.iconst 0, 1) := by decide +kernel
theorem dX10_paces_176 : decode cX10_paces 176 = .ok (.ior, 1) := by decide +kernel
theorem dX10_paces_177 : decode cX10_paces 177 = .ok (.istore_n 3, 1) := by decide +kernel
theorem dX10_paces_178 : decode cX10_paces 178 = .ok (.iinc 4 1, 3) := by decide +kernel
theorem dX10_paces_181 : decode cX10_paces 181 = .ok (.goto (-37), 3) := by decide +kernel
theorem dX10_paces_184 : decode cX10_paces 184 = .ok (.aload_n 0, 1) := by decide +kernel
theorem dX10_paces_185 : decode cX10_paces 185 = .ok (.iconst (-1), 1) := by decide +kernel
theorem dX10_paces_186 : decode cX10_paces 186 = .ok (.putfield 111, 3) := by decide +kernel
theorem dX10_paces_189 : decode cX10_paces 189 = .ok (.iload_n 3, 1) := by decide +kernel
theorem dX10_paces_190 : decode cX10_paces 190 = .ok (.ireturn, 1) := by decide +kernel
theorem hd_X10_paces : yX10_paces.cls = xCn 10 ∧ yX10_paces.cls ≠ "java/lang/invoke/MethodHandle" ∧ yX10_paces.cls ≠ "java/lang/invoke/VarHandle" ∧ (parseMethodDescriptor yX10_paces.desc).map (fun d => d.parameters.length) = some 1 := by decide +kernel
def k_X10_paces_184 (sh : List xSh) (q0 : Nat) (x3 : Int32) (d : xD) : Option (Int32 × xD) :=
  (xpI 10 sh d q0 51 (-1 : Int32)).bind fun d1 => some (x3, d1)
def k_X10_paces_176 (sh : List xSh) (rec144 : Nat → Int32 → Int32 → Int32 → xD → Option (Int32 × xD)) (q0 : Nat) (x2 : Int32) (x4 : Int32) (y0 : Int32) (y1 : Int32) (d : xD) : Option (Int32 × xD) :=
  rec144 q0 x2 (y0 ||| y1) (x4 + 1) d
def b_X10_paces_144 (sh : List xSh) (rec144 : Nat → Int32 → Int32 → Int32 → xD → Option (Int32 × xD)) (q0 : Nat) (x2 : Int32) (x3 : Int32) (x4 : Int32) (d : xD) : Option (Int32 × xD) :=
  if (9 : Int32) ≤ x4 then (k_X10_paces_184 sh q0 x3 d) else ((xpI 10 sh d q0 52 (x4 + (1 : Int32))).bind fun d2 => (xon 10 sh q0 (f_X10_fitsPace sh q0 x2 d2)).bind fun z3 => if z3.1 = 0 then (k_X10_paces_176 sh rec144 q0 x2 x4 x3 (0 : Int32) z3.2) else (k_X10_paces_176 sh rec144 q0 x2 x4 x3 ((1 : Int32) <<< (x4 &&& 31)) z3.2))
def k_X10_paces_134 (sh : List xSh) (q0 : Nat) (x1 : Int32) (x2 : Int32) (d : xD) : Option (Int32 × xD) :=
  (xpI 10 sh d q0 51 x1).bind fun d4 => xloop (fun _ _ _ _ _ => none) (b_X10_paces_144 sh) xF q0 x2 (0 : Int32) (0 : Int32) d4
def k_X10_paces_128 (sh : List xSh) (rec90 : Nat → Int32 → Int32 → Int32 → xD → Option (Int32 × xD)) (q0 : Nat) (x1 : Int32) (x2 : Int32) (x3 : Int32) (d : xD) : Option (Int32 × xD) :=
  rec90 q0 x1 x2 (x3 + 1) d
def b_X10_paces_90 (sh : List xSh) (rec90 : Nat → Int32 → Int32 → Int32 → xD → Option (Int32 × xD)) (q0 : Nat) (x1 : Int32) (x2 : Int32) (x3 : Int32) (d : xD) : Option (Int32 × xD) :=
  (xon 10 sh q0 (f_X10_knownMany sh q0 d)).bind fun z5 => if z5.1 ≤ x3 then (k_X10_paces_134 sh q0 x1 x2 z5.2) else ((xgR 10 sh z5.2 q0 64).bind fun v6 => (xaI .boolean sh z5.2 v6 x3).bind fun v7 => if v7 = 0 then ((xgR 10 sh z5.2 q0 63).bind fun v8 => (xaI .int sh z5.2 v8 x3).bind fun v9 => if v9 = (-1 : Int32) then ((xgR 10 sh z5.2 q0 59).bind fun v10 => (xaI .int sh z5.2 v10 x3).bind fun v11 => k_X10_paces_128 sh rec90 q0 x1 (if x2 < v11 then v11 else x2) x3 z5.2) else (k_X10_paces_128 sh rec90 q0 x1 x2 x3 z5.2)) else (k_X10_paces_128 sh rec90 q0 x1 x2 x3 z5.2))
def k_X10_paces_88 (sh : List xSh) (q0 : Nat) (x1 : Int32) (x2 : Int32) (d : xD) : Option (Int32 × xD) :=
  xloop (fun _ _ _ _ _ => none) (b_X10_paces_90 sh) xF q0 x1 x2 (0 : Int32) d
def k_X10_paces_82 (sh : List xSh) (rec47 : Nat → Int32 → Int32 → Int32 → xD → Option (Int32 × xD)) (q0 : Nat) (x1 : Int32) (x2 : Int32) (x3 : Int32) (d : xD) : Option (Int32 × xD) :=
  rec47 q0 x1 x2 (x3 + (-1)) d
def b_X10_paces_47 (sh : List xSh) (rec47 : Nat → Int32 → Int32 → Int32 → xD → Option (Int32 × xD)) (q0 : Nat) (x1 : Int32) (x2 : Int32) (x3 : Int32) (d : xD) : Option (Int32 × xD) :=
  if x3 < 0 then (k_X10_paces_88 sh q0 x1 x2 d) else ((xgR 10 sh d q0 64).bind fun v12 => (xaI .boolean sh d v12 x3).bind fun v13 => if v13 = 0 then ((xgR 10 sh d q0 63).bind fun v14 => (xaI .int sh d v14 x3).bind fun v15 => if v15 = (-1 : Int32) then (k_X10_paces_82 sh rec47 q0 x1 x2 x3 d) else ((xgR 10 sh d q0 64).bind fun v16 => (xgR 10 sh d q0 63).bind fun v17 => (xaI .int sh d v17 x3).bind fun v18 => (xsI .boolean sh d v16 v18 (1 : Int32)).bind fun d19 => k_X10_paces_82 sh rec47 q0 x1 x2 x3 d19)) else (k_X10_paces_82 sh rec47 q0 x1 x2 x3 d))
def k_X10_paces_40 (sh : List xSh) (q0 : Nat) (x1 : Int32) (x2 : Int32) (d : xD) : Option (Int32 × xD) :=
  (xon 10 sh q0 (f_X10_knownMany sh q0 d)).bind fun z20 => xloop (fun _ _ _ _ _ => none) (b_X10_paces_47 sh) xF q0 x1 x2 (z20.1 - (1 : Int32)) z20.2
def b_X10_paces_19 (sh : List xSh) (rec19 : Nat → Int32 → Int32 → Int32 → xD → Option (Int32 × xD)) (q0 : Nat) (x1 : Int32) (x2 : Int32) (x3 : Int32) (d : xD) : Option (Int32 × xD) :=
  (xon 10 sh q0 (f_X10_knownMany sh q0 d)).bind fun z21 => if z21.1 ≤ x3 then (k_X10_paces_40 sh q0 x1 x2 z21.2) else ((xgR 10 sh z21.2 q0 64).bind fun v22 => (xsI .boolean sh z21.2 v22 x3 (0 : Int32)).bind fun d23 => rec19 q0 x1 x2 (x3 + 1) d23)
def f_X10_paces (sh : List xSh) (q0 : Nat) (x1 : Int32) (d : xD) : Option (Int32 × xD) :=
  (xpI 10 sh d q0 0 (0 : Int32)).bind fun d24 => (xon 10 sh q0 (f_X10_isWalker sh q0 x1 d24)).bind fun z25 => if z25.1 = 0 then (some ((-1 : Int32), z25.2)) else (xloop (fun _ _ _ _ _ => none) (b_X10_paces_19 sh) xF q0 x1 (0 : Int32) (0 : Int32) z25.2)
set_option maxHeartbeats 4000000 in
set_option maxRecDepth 100000 in
theorem mt_X10_paces (l : Launch) (D : va_G) (cid : FieldType → ClassId) (b : Nat) (ex : Bool) (sa sv B0 : Nat) (sh : List xSh) (q0 : Nat) (x1 : Int32) (d : xD) (r : Int32) (dz : xD) (hf : f_X10_paces sh q0 x1 d = some (r, dz)) : xMet l yX10_paces cX10_paces 5 (some .int) 7 0 0 D cid b ex sa sv B0 [.ref (b + q0), .int x1] sh d (some (.int r)) sh dz := by
  refine xMet.of (by decide) (Nat.le_of_ble_eq_true rfl) ?_
  intro p e s m below meth c ls A S hr hin G hl
  have hl : lv_has ls 5 [(0, .ref (b + q0)), (1, .int x1)] := hl
  generalize ([.ref (b + q0), .int x1] : List Value).toArray = av at S ⊢
  have hx := S.1
  have hb := S.2.1
  have hml := S.2.2.1
  have hown := S.2.2.2.1
  have hts := S.2.2.2.2.1
  have K184 : ∀ (q0 : Nat) (x3 : Int32) (d : xD), k_X10_paces_184 sh q0 x3 d = some (r, dz) → ∀ (H : Heap) (locs : List Loc) (ls : Array Slot), lv_has ls 5 [(0, .ref (b + q0)), (3, .int x3)] → xG D cid b A sh d s H locs → W p l e (xRm 7 0 0) s m av below meth c H locs 0 0 (MQ below (xQ D cid b ex A (some (.int r)) sh dz) av s 0 0 A) (F0 m 184 ls []) := by
    intro q0 x3 d hf H locs ls hl G
    unfold k_X10_paces_184 at hf
    refine lv_aload_n hx hb dX10_paces_184 rfl (lv_at hl 0 rfl) ?_
    refine lv_iconst (v := (-1 : Int32)) hx hb dX10_paces_185 (by decide) ?_
    obtain ⟨d1, hd1, hf⟩ := x_ob hf
    refine xr_putI (ci := 10) (k := 51) S G hd1 rfl kw_1219 dX10_paces_186 (fun H locs G => ?_)
    refine lv_iload_n hx hb dX10_paces_189 rfl (lv_at hl 1 rfl) ?_
    cases hf
    exact xr_iret S G (fun _ => rfl) hr dX10_paces_190
  have K176 : ∀ (rec144 : Nat → Int32 → Int32 → Int32 → xD → Option (Int32 × xD)) (hrec144 : ∀ (q0 : Nat) (x2 : Int32) (x3 : Int32) (x4 : Int32) (d : xD), rec144 q0 x2 x3 x4 d = some (r, dz) → ∀ (H : Heap) (locs : List Loc) (ls : Array Slot), lv_has ls 5 [(0, .ref (b + q0)), (2, .int x2), (3, .int x3), (4, .int x4)] → xG D cid b A sh d s H locs → W p l e (xRm 7 0 0) s m av below meth c H locs 0 0 (MQ below (xQ D cid b ex A (some (.int r)) sh dz) av s 0 0 A) (F0 m 144 ls [])) (q0 : Nat) (x2 : Int32) (x4 : Int32) (y0 : Int32) (y1 : Int32) (d : xD), k_X10_paces_176 sh rec144 q0 x2 x4 y0 y1 d = some (r, dz) → ∀ (H : Heap) (locs : List Loc) (ls : Array Slot), lv_has ls 5 [(0, .ref (b + q0)), (2, .int x2), (4, .int x4)] → xG D cid b A sh d s H locs → W p l e (xRm 7 0 0) s m av below meth c H locs 0 0 (MQ below (xQ D cid b ex A (some (.int r)) sh dz) av s 0 0 A) (F0 m 176 ls [.int y1, .int y0]) := by
    intro rec144 hrec144 q0 x2 x4 y0 y1 d hf H locs ls hl G
    unfold k_X10_paces_176 at hf
    refine lv_ior hx hb dX10_paces_176 ?_
    refine lv_istore_n (lv' := [(3, .int (y0 ||| y1)), (0, .ref (b + q0)), (2, .int x2), (4, .int x4)]) hx hb dX10_paces_177 rfl hl (by decide) rfl (fun ls hl => ?_)
    refine lv_iinc (v := (x4 + 1)) (lv' := [(4, .int (x4 + 1)), (3, .int (y0 ||| y1)), (0, .ref (b + q0)), (2, .int x2)]) hx hb dX10_paces_178 hl (k := 3) rfl rfl (by decide) rfl (fun ls hl => ?_)
    refine lv_goto (tgt := 144) hx hb dX10_paces_181 (by decide) ?_
    exact hrec144 q0 x2 (y0 ||| y1) (x4 + 1) d hf _ _ ls (lv_sub hl [2, 3, 1, 0] rfl) G
  have K144 : ∀ (n : Nat) (q0 : Nat) (x2 : Int32) (x3 : Int32) (x4 : Int32) (d : xD), xloop (fun _ _ _ _ _ => none) (b_X10_paces_144 sh) n q0 x2 x3 x4 d = some (r, dz) → ∀ (H : Heap) (locs : List Loc) (ls : Array Slot), lv_has ls 5 [(0, .ref (b + q0)), (2, .int x2), (3, .int x3), (4, .int x4)] → xG D cid b A sh d s H locs → W p l e (xRm 7 0 0) s m av below meth c H locs 0 0 (MQ below (xQ D cid b ex A (some (.int r)) sh dz) av s 0 0 A) (F0 m 144 ls []) := by
    intro n
    induction n with
    | zero =>
      intro q0 x2 x3 x4 d hf
      have hf : (none : Option (Int32 × xD)) = some (r, dz) := hf
      cases hf
    | succ n hrec144 =>
      intro q0 x2 x3 x4 d hf H locs ls hl G
      have hf : b_X10_paces_144 sh (xloop (fun _ _ _ _ _ => none) (b_X10_paces_144 sh) n) q0 x2 x3 x4 d = some (r, dz) := hf
      unfold b_X10_paces_144 at hf
      refine lv_iload hx hb dX10_paces_144 (lv_at hl 3 rfl) ?_
      refine lv_bipush (v := (9 : Int32)) hx hb dX10_paces_146 (by decide) ?_
      refine lv_icmp_ge (tgt := 184) hx hb dX10_paces_148 (by decide) (fun c => ?_) (fun c => ?_)
      · have hf := x_pos c hf
        exact K184 q0 x3 d hf _ _ ls (lv_sub hl [0, 2] rfl) G
      · have hf := x_neg c hf
        refine lv_aload_n hx hb dX10_paces_151 rfl (lv_at hl 0 rfl) ?_
        refine lv_iload hx hb dX10_paces_152 (lv_at hl 3 rfl) ?_
        refine lv_iconst (v := (1 : Int32)) hx hb dX10_paces_154 (by decide) ?_
        refine lv_iadd hx hb dX10_paces_155 ?_
        obtain ⟨d2, hd2, hf⟩ := x_ob hf
        refine xr_putI (ci := 10) (k := 52) S G hd2 rfl kw_1220 dX10_paces_156 (fun H locs G => ?_)
        refine lv_iload_n hx hb dX10_paces_159 rfl (lv_at hl 2 rfl) ?_
        refine lv_aload_n hx hb dX10_paces_160 rfl (lv_at hl 0 rfl) ?_
        refine lv_iload_n hx hb dX10_paces_161 rfl (lv_at hl 1 rfl) ?_
        obtain ⟨z3, hz3, hf⟩ := x_ob hf
        obtain ⟨hqz3, hz3⟩ := xon_of hz3
        refine xr_callV (ci := 10) (As := [.int x2]) (rest := [.int x3]) (st1 := [.int z3.1, .int x3]) S G hl.1 (fun _ => rfl) (mt_X10_fitsPace l D cid b ex sa sv B0 sh q0 x2 d2 _ _ hz3) hqz3 (by decide) kw_1755 kw_1757 ks_97 kw_17 kw_1758 hd_X10_fitsPace ⟨Nat.le_of_ble_eq_true rfl, Nat.le_of_ble_eq_true rfl⟩ rfl rfl rfl (Nat.le_of_ble_eq_true rfl) ⟨Nat.le_of_ble_eq_true rfl, Nat.le_of_ble_eq_true rfl⟩ dX10_paces_162 (fun H locs G => ?_)
        refine lv_if_eq (tgt := 175) hx hb dX10_paces_165 (by decide) (fun c => ?_) (fun c => ?_)
        · have hf := x_pos c hf
          refine lv_iconst (v := (0 : Int32)) hx hb dX10_paces_175 (by decide) ?_
          exact K176 _ hrec144 q0 x2 x4 x3 (0 : Int32) z3.2 hf _ _ ls (lv_sub hl [0, 1, 3] rfl) G
        · have hf := x_neg c hf
          refine lv_iconst (v := (1 : Int32)) hx hb dX10_paces_168 (by decide) ?_
          refine lv_iload hx hb dX10_paces_169 (lv_at hl 3 rfl) ?_
          refine lv_ishl hx hb dX10_paces_171 ?_
          refine lv_goto (tgt := 176) hx hb dX10_paces_172 (by decide) ?_
          exact K176 _ hrec144 q0 x2 x4 x3 ((1 : Int32) <<< (x4 &&& 31)) z3.2 hf _ _ ls (lv_sub hl [0, 1, 3] rfl) G
  have K134 : ∀ (q0 : Nat) (x1 : Int32) (x2 : Int32) (d : xD), k_X10_paces_134 sh q0 x1 x2 d = some (r, dz) → ∀ (H : Heap) (locs : List Loc) (ls : Array Slot), lv_has ls 5 [(0, .ref (b + q0)), (1, .int x1), (2, .int x2)] → xG D cid b A sh d s H locs → W p l e (xRm 7 0 0) s m av below meth c H locs 0 0 (MQ below (xQ D cid b ex A (some (.int r)) sh dz) av s 0 0 A) (F0 m 134 ls []) := by
    intro q0 x1 x2 d hf H locs ls hl G
    unfold k_X10_paces_134 at hf
    refine lv_iconst (v := (0 : Int32)) hx hb dX10_paces_134 (by decide) ?_
    refine lv_istore_n (lv' := [(3, .int (0 : Int32)), (0, .ref (b + q0)), (1, .int x1), (2, .int x2)]) hx hb dX10_paces_135 rfl hl (by decide) rfl (fun ls hl => ?_)
    refine lv_aload_n hx hb dX10_paces_136 rfl (lv_at hl 1 rfl) ?_
    refine lv_iload_n hx hb dX10_paces_137 rfl (lv_at hl 2 rfl) ?_
    obtain ⟨d4, hd4, hf⟩ := x_ob hf
    refine xr_putI (ci := 10) (k := 51) S G hd4 rfl kw_1219 dX10_paces_138 (fun H locs G => ?_)
    refine lv_iconst (v := (0 : Int32)) hx hb dX10_paces_141 (by decide) ?_
    refine lv_istore (lv' := [(4, .int (0 : Int32)), (3, .int (0 : Int32)), (0, .ref (b + q0)), (1, .int x1), (2, .int x2)]) hx hb dX10_paces_142 hl (by decide) rfl (fun ls hl => ?_)
    exact K144 xF q0 x2 (0 : Int32) (0 : Int32) d4 hf _ _ ls (lv_sub hl [2, 4, 1, 0] rfl) G
  have K128 : ∀ (rec90 : Nat → Int32 → Int32 → Int32 → xD → Option (Int32 × xD)) (hrec90 : ∀ (q0 : Nat) (x1 : Int32) (x2 : Int32) (x3 : Int32) (d : xD), rec90 q0 x1 x2 x3 d = some (r, dz) → ∀ (H : Heap) (locs : List Loc) (ls : Array Slot), lv_has ls 5 [(0, .ref (b + q0)), (1, .int x1), (2, .int x2), (3, .int x3)] → xG D cid b A sh d s H locs → W p l e (xRm 7 0 0) s m av below meth c H locs 0 0 (MQ below (xQ D cid b ex A (some (.int r)) sh dz) av s 0 0 A) (F0 m 90 ls [])) (q0 : Nat) (x1 : Int32) (x2 : Int32) (x3 : Int32) (d : xD), k_X10_paces_128 sh rec90 q0 x1 x2 x3 d = some (r, dz) → ∀ (H : Heap) (locs : List Loc) (ls : Array Slot), lv_has ls 5 [(0, .ref (b + q0)), (1, .int x1), (2, .int x2), (3, .int x3)] → xG D cid b A sh d s H locs → W p l e (xRm 7 0 0) s m av below meth c H locs 0 0 (MQ below (xQ D cid b ex A (some (.int r)) sh dz) av s 0 0 A) (F0 m 128 ls []) := by
    intro rec90 hrec90 q0 x1 x2 x3 d hf H locs ls hl G
    unfold k_X10_paces_128 at hf
    refine lv_iinc (v := (x3 + 1)) (lv' := [(3, .int (x3 + 1)), (0, .ref (b + q0)), (1, .int x1), (2, .int x2)]) hx hb dX10_paces_128 hl (k := 3) rfl rfl (by decide) rfl (fun ls hl => ?_)
    refine lv_goto (tgt := 90) hx hb dX10_paces_131 (by decide) ?_
    exact hrec90 q0 x1 x2 (x3 + 1) d hf _ _ ls (lv_sub hl [1, 2, 3, 0] rfl) G
  have K90 : ∀ (n : Nat) (q0 : Nat) (x1 : Int32) (x2 : Int32) (x3 : Int32) (d : xD), xloop (fun _ _ _ _ _ => none) (b_X10_paces_90 sh) n q0 x1 x2 x3 d = some (r, dz) → ∀ (H : Heap) (locs : List Loc) (ls : Array Slot), lv_has ls 5 [(0, .ref (b + q0)), (1, .int x1), (2, .int x2), (3, .int x3)] → xG D cid b A sh d s H locs → W p l e (xRm 7 0 0) s m av below meth c H locs 0 0 (MQ below (xQ D cid b ex A (some (.int r)) sh dz) av s 0 0 A) (F0 m 90 ls []) := by
    intro n
    induction n with
    | zero =>
      intro q0 x1 x2 x3 d hf
      have hf : (none : Option (Int32 × xD)) = some (r, dz) := hf
      cases hf
    | succ n hrec90 =>
      intro q0 x1 x2 x3 d hf H locs ls hl G
      have hf : b_X10_paces_90 sh (xloop (fun _ _ _ _ _ => none) (b_X10_paces_90 sh) n) q0 x1 x2 x3 d = some (r, dz) := hf
      unfold b_X10_paces_90 at hf
      refine lv_iload_n hx hb dX10_paces_90 rfl (lv_at hl 3 rfl) ?_
      refine lv_aload_n hx hb dX10_paces_91 rfl (lv_at hl 0 rfl) ?_
      obtain ⟨z5, hz5, hf⟩ := x_ob hf
      obtain ⟨hqz5, hz5⟩ := xon_of hz5
      refine xr_callV (ci := 10) (As := []) (rest := [.int x3]) (st1 := [.int z5.1, .int x3]) S G hl.1 (fun _ => rfl) (mt_X10_knownMany l D cid b ex sa sv B0 sh q0 d _ _ hz5) hqz5 (by decide) kw_1750 kw_1752 ks_96 kw_17 kw_1753 hd_X10_knownMany ⟨Nat.le_of_ble_eq_true rfl, Nat.le_of_ble_eq_true rfl⟩ rfl rfl rfl (Nat.le_of_ble_eq_true rfl) ⟨Nat.le_of_ble_eq_true rfl, Nat.le_of_ble_eq_true rfl⟩ dX10_paces_92 (fun H locs G => ?_)
      refine lv_icmp_ge (tgt := 134) hx hb dX10_paces_95 (by decide) (fun c => ?_) (fun c => ?_)
      · have hf := x_pos c hf
        exact K134 q0 x1 x2 z5.2 hf _ _ ls (lv_sub hl [0, 1, 2] rfl) G
      · have hf := x_neg c hf
        refine lv_aload_n hx hb dX10_paces_98 rfl (lv_at hl 0 rfl) ?_
        obtain ⟨v6, hv6, hf⟩ := x_ob hf
        refine xr_getR (ci := 10) (k := 64) S G hv6 rfl kw_1232 dX10_paces_99 ?_
        refine lv_iload_n hx hb dX10_paces_102 rfl (lv_at hl 3 rfl) ?_
        obtain ⟨v7, hv7, hf⟩ := x_ob hf
        refine xr_zald S G hv7 dX10_paces_103 ?_
        refine lv_if_ne (tgt := 128) hx hb dX10_paces_104 (by decide) (fun c => ?_) (fun c => ?_)
        · have hf := x_neg c hf
          exact K128 _ hrec90 q0 x1 x2 x3 z5.2 hf _ _ ls (lv_sub hl [0, 1, 2, 3] rfl) G
        · have hf := x_pos c hf
          refine lv_aload_n hx hb dX10_paces_107 rfl (lv_at hl 0 rfl) ?_
          obtain ⟨v8, hv8, hf⟩ := x_ob hf
          refine xr_getR (ci := 10) (k := 63) S G hv8 rfl kw_1231 dX10_paces_108 ?_
          refine lv_iload_n hx hb dX10_paces_111 rfl (lv_at hl 3 rfl) ?_
          obtain ⟨v9, hv9, hf⟩ := x_ob hf
          refine xr_iald S G hv9 dX10_paces_112 ?_
          refine lv_iconst (v := (-1 : Int32)) hx hb dX10_paces_113 (by decide) ?_
          refine lv_icmp_ne (tgt := 128) hx hb dX10_paces_114 (by decide) (fun c => ?_) (fun c => ?_)
          · have hf := x_neg c hf
            exact K128 _ hrec90 q0 x1 x2 x3 z5.2 hf _ _ ls (lv_sub hl [0, 1, 2, 3] rfl) G
          · have hf := x_pos c hf
            refine lv_iload_n hx hb dX10_paces_117 rfl (lv_at hl 2 rfl) ?_
            refine lv_aload_n hx hb dX10_paces_118 rfl (lv_at hl 0 rfl) ?_
            obtain ⟨v10, hv10, hf⟩ := x_ob hf
            refine xr_getR (ci := 10) (k := 59) S G hv10 rfl kw_1227 dX10_paces_119 ?_
            refine lv_iload_n hx hb dX10_paces_122 rfl (lv_at hl 3 rfl) ?_
            obtain ⟨v11, hv11, hf⟩ := x_ob hf
            refine xr_iald S G hv11 dX10_paces_123 ?_
            refine va_mmax hx hb (hml.trans hl.1.symm) hown (hts _ kw_1754) (hts _ kw_1018) (hts _ kw_18) (hts _ kp_mmax) (Nat.le_of_ble_eq_true rfl) (Nat.le_of_ble_eq_true rfl) (Nat.le_refl _) (Nat.le_refl _) dX10_paces_124 ?_
            refine lv_istore_n (lv' := [(2, .int (if x2 < v11 then v11 else x2)), (0, .ref (b + q0)), (1, .int x1), (3, .int x3)]) hx hb dX10_paces_127 rfl hl (by decide) rfl (fun ls hl => ?_)
            exact K128 _ hrec90 q0 x1 (if x2 < v11 then v11 else x2) x3 z5.2 hf _ _ ls (lv_sub hl [1, 2, 0, 3] rfl) G
  have K88 : ∀ (q0 : Nat) (x1 : Int32) (x2 : Int32) (d : xD), k_X10_paces_88 sh q0 x1 x2 d = some (r, dz) → ∀ (H : Heap) (locs : List Loc) (ls : Array Slot), lv_has ls 5 [(0, .ref (b + q0)), (1, .int x1), (2, .int x2)] → xG D cid b A sh d s H locs → W p l e (xRm 7 0 0) s m av below meth c H locs 0 0 (MQ below (xQ D cid b ex A (some (.int r)) sh dz) av s 0 0 A) (F0 m 88 ls []) := by
    intro q0 x1 x2 d hf H locs ls hl G
    unfold k_X10_paces_88 at hf
    refine lv_iconst (v := (0 : Int32)) hx hb dX10_paces_88 (by decide) ?_
    refine lv_istore_n (lv' := [(3, .int (0 : Int32)), (0, .ref (b + q0)), (1, .int x1), (2, .int x2)]) hx hb dX10_paces_89 rfl hl (by decide) rfl (fun ls hl => ?_)
    exact K90 xF q0 x1 x2 (0 : Int32) d hf _ _ ls (lv_sub hl [1, 2, 3, 0] rfl) G
  have K82 : ∀ (rec47 : Nat → Int32 → Int32 → Int32 → xD → Option (Int32 × xD)) (hrec47 : ∀ (q0 : Nat) (x1 : Int32) (x2 : Int32) (x3 : Int32) (d : xD), rec47 q0 x1 x2 x3 d = some (r, dz) → ∀ (H : Heap) (locs : List Loc) (ls : Array Slot), lv_has ls 5 [(0, .ref (b + q0)), (1, .int x1), (2, .int x2), (3, .int x3)] → xG D cid b A sh d s H locs → W p l e (xRm 7 0 0) s m av below meth c H locs 0 0 (MQ below (xQ D cid b ex A (some (.int r)) sh dz) av s 0 0 A) (F0 m 47 ls [])) (q0 : Nat) (x1 : Int32) (x2 : Int32) (x3 : Int32) (d : xD), k_X10_paces_82 sh rec47 q0 x1 x2 x3 d = some (r, dz) → ∀ (H : Heap) (locs : List Loc) (ls : Array Slot), lv_has ls 5 [(0, .ref (b + q0)), (1, .int x1), (2, .int x2), (3, .int x3)] → xG D cid b A sh d s H locs → W p l e (xRm 7 0 0) s m av below meth c H locs 0 0 (MQ below (xQ D cid b ex A (some (.int r)) sh dz) av s 0 0 A) (F0 m 82 ls []) := by
    intro rec47 hrec47 q0 x1 x2 x3 d hf H locs ls hl G
    unfold k_X10_paces_82 at hf
    refine lv_iinc (v := (x3 + (-1))) (lv' := [(3, .int (x3 + (-1))), (0, .ref (b + q0)), (1, .int x1), (2, .int x2)]) hx hb dX10_paces_82 hl (k := 3) rfl rfl (by decide) rfl (fun ls hl => ?_)
    refine lv_goto (tgt := 47) hx hb dX10_paces_85 (by decide) ?_
    exact hrec47 q0 x1 x2 (x3 + (-1)) d hf _ _ ls (lv_sub hl [1, 2, 3, 0] rfl) G
  have K47 : ∀ (n : Nat) (q0 : Nat) (x1 : Int32) (x2 : Int32) (x3 : Int32) (d : xD), xloop (fun _ _ _ _ _ => none) (b_X10_paces_47 sh) n q0 x1 x2 x3 d = some (r, dz) → ∀ (H : Heap) (locs : List Loc) (ls : Array Slot), lv_has ls 5 [(0, .ref (b + q0)), (1, .int x1), (2, .int x2), (3, .int x3)] → xG D cid b A sh d s H locs → W p l e (xRm 7 0 0) s m av below meth c H locs 0 0 (MQ below (xQ D cid b ex A (some (.int r)) sh dz) av s 0 0 A) (F0 m 47 ls []) := by
    intro n
    induction n with
    | zero =>
      intro q0 x1 x2 x3 d hf
      have hf : (none : Option (Int32 × xD)) = some (r, dz) := hf
      cases hf
    | succ n hrec47 =>
      intro q0 x1 x2 x3 d hf H locs ls hl G
      have hf : b_X10_paces_47 sh (xloop (fun _ _ _ _ _ => none) (b_X10_paces_47 sh) n) q0 x1 x2 x3 d = some (r, dz) := hf
      unfold b_X10_paces_47 at hf
      refine lv_iload_n hx hb dX10_paces_47 rfl (lv_at hl 3 rfl) ?_
      refine lv_if_lt (tgt := 88) hx hb dX10_paces_48 (by decide) (fun c => ?_) (fun c => ?_)
      · have hf := x_pos c hf
        exact K88 q0 x1 x2 d hf _ _ ls (lv_sub hl [0, 1, 2] rfl) G
      · have hf := x_neg c hf
        refine lv_aload_n hx hb dX10_paces_51 rfl (lv_at hl 0 rfl) ?_
        obtain ⟨v12, hv12, hf⟩ := x_ob hf
        refine xr_getR (ci := 10) (k := 64) S G hv12 rfl kw_1232 dX10_paces_52 ?_
        refine lv_iload_n hx hb dX10_paces_55 rfl (lv_at hl 3 rfl) ?_
        obtain ⟨v13, hv13, hf⟩ := x_ob hf
        refine xr_zald S G hv13 dX10_paces_56 ?_
        refine lv_if_ne (tgt := 82) hx hb dX10_paces_57 (by decide) (fun c => ?_) (fun c => ?_)
        · have hf := x_neg c hf
          exact K82 _ hrec47 q0 x1 x2 x3 d hf _ _ ls (lv_sub hl [0, 1, 2, 3] rfl) G
        · have hf := x_pos c hf
          refine lv_aload_n hx hb dX10_paces_60 rfl (lv_at hl 0 rfl) ?_
          obtain ⟨v14, hv14, hf⟩ := x_ob hf
          refine xr_getR (ci := 10) (k := 63) S G hv14 rfl kw_1231 dX10_paces_61 ?_
          refine lv_iload_n hx hb dX10_paces_64 rfl (lv_at hl 3 rfl) ?_
          obtain ⟨v15, hv15, hf⟩ := x_ob hf
          refine xr_iald S G hv15 dX10_paces_65 ?_
          refine lv_iconst (v := (-1 : Int32)) hx hb dX10_paces_66 (by decide) ?_
          refine lv_icmp_eq (tgt := 82) hx hb dX10_paces_67 (by decide) (fun c => ?_) (fun c => ?_)
          · have hf := x_pos c hf
            exact K82 _ hrec47 q0 x1 x2 x3 d hf _ _ ls (lv_sub hl [0, 1, 2, 3] rfl) G
          · have hf := x_neg c hf
            refine lv_aload_n hx hb dX10_paces_70 rfl (lv_at hl 0 rfl) ?_
            obtain ⟨v16, hv16, hf⟩ := x_ob hf
            refine xr_getR (ci := 10) (k := 64) S G hv16 rfl kw_1232 dX10_paces_71 ?_
            refine lv_aload_n hx hb dX10_paces_74 rfl (lv_at hl 0 rfl) ?_
            obtain ⟨v17, hv17, hf⟩ := x_ob hf
            refine xr_getR (ci := 10) (k := 63) S G hv17 rfl kw_1231 dX10_paces_75 ?_
            refine lv_iload_n hx hb dX10_paces_78 rfl (lv_at hl 3 rfl) ?_
            obtain ⟨v18, hv18, hf⟩ := x_ob hf
            refine xr_iald S G hv18 dX10_paces_79 ?_
            refine lv_iconst (v := (1 : Int32)) hx hb dX10_paces_80 (by decide) ?_
            obtain ⟨d19, hd19, hf⟩ := x_ob hf
            refine xr_zast S G hd19 dX10_paces_81 (fun H locs G => ?_)
            exact K82 _ hrec47 q0 x1 x2 x3 d19 hf _ _ ls (lv_sub hl [0, 1, 2, 3] rfl) G
  have K40 : ∀ (q0 : Nat) (x1 : Int32) (x2 : Int32) (d : xD), k_X10_paces_40 sh q0 x1 x2 d = some (r, dz) → ∀ (H : Heap) (locs : List Loc) (ls : Array Slot), lv_has ls 5 [(0, .ref (b + q0)), (1, .int x1), (2, .int x2)] → xG D cid b A sh d s H locs → W p l e (xRm 7 0 0) s m av below meth c H locs 0 0 (MQ below (xQ D cid b ex A (some (.int r)) sh dz) av s 0 0 A) (F0 m 40 ls []) := by
    intro q0 x1 x2 d hf H locs ls hl G
    unfold k_X10_paces_40 at hf
    refine lv_aload_n hx hb dX10_paces_40 rfl (lv_at hl 0 rfl) ?_
    obtain ⟨z20, hz20, hf⟩ := x_ob hf
    obtain ⟨hqz20, hz20⟩ := xon_of hz20
    refine xr_callV (ci := 10) (As := []) (rest := []) (st1 := [.int z20.1]) S G hl.1 (fun _ => rfl) (mt_X10_knownMany l D cid b ex sa sv B0 sh q0 d _ _ hz20) hqz20 (by decide) kw_1750 kw_1752 ks_96 kw_17 kw_1753 hd_X10_knownMany ⟨Nat.le_of_ble_eq_true rfl, Nat.le_of_ble_eq_true rfl⟩ rfl rfl rfl (Nat.le_of_ble_eq_true rfl) ⟨Nat.le_of_ble_eq_true rfl, Nat.le_of_ble_eq_true rfl⟩ dX10_paces_41 (fun H locs G => ?_)
    refine lv_iconst (v := (1 : Int32)) hx hb dX10_paces_44 (by decide) ?_
    refine lv_isub hx hb dX10_paces_45 ?_
    refine lv_istore_n (lv' := [(3, .int (z20.1 - (1 : Int32))), (0, .ref (b + q0)), (1, .int x1), (2, .int x2)]) hx hb dX10_paces_46 rfl hl (by decide) rfl (fun ls hl => ?_)
    exact K47 xF q0 x1 x2 (z20.1 - (1 : Int32)) z20.2 hf _ _ ls (lv_sub hl [1, 2, 3, 0] rfl) G
  have K19 : ∀ (n : Nat) (q0 : Nat) (x1 : Int32) (x2 : Int32) (x3 : Int32) (d : xD), xloop (fun _ _ _ _ _ => none) (b_X10_paces_19 sh) n q0 x1 x2 x3 d = some (r, dz) → ∀ (H : Heap) (locs : List Loc) (ls : Array Slot), lv_has ls 5 [(0, .ref (b + q0)), (1, .int x1), (2, .int x2), (3, .int x3)] → xG D cid b A sh d s H locs → W p l e (xRm 7 0 0) s m av below meth c H locs 0 0 (MQ below (xQ D cid b ex A (some (.int r)) sh dz) av s 0 0 A) (F0 m 19 ls []) := by
    intro n
    induction n with
    | zero =>
      intro q0 x1 x2 x3 d hf
      have hf : (none : Option (Int32 × xD)) = some (r, dz) := hf
      cases hf
    | succ n hrec19 =>
      intro q0 x1 x2 x3 d hf H locs ls hl G
      have hf : b_X10_paces_19 sh (xloop (fun _ _ _ _ _ => none) (b_X10_paces_19 sh) n) q0 x1 x2 x3 d = some (r, dz) := hf
      unfold b_X10_paces_19 at hf
      refine lv_iload_n hx hb dX10_paces_19 rfl (lv_at hl 3 rfl) ?_
      refine lv_aload_n hx hb dX10_paces_20 rfl (lv_at hl 0 rfl) ?_
      obtain ⟨z21, hz21, hf⟩ := x_ob hf
      obtain ⟨hqz21, hz21⟩ := xon_of hz21
      refine xr_callV (ci := 10) (As := []) (rest := [.int x3]) (st1 := [.int z21.1, .int x3]) S G hl.1 (fun _ => rfl) (mt_X10_knownMany l D cid b ex sa sv B0 sh q0 d _ _ hz21) hqz21 (by decide) kw_1750 kw_1752 ks_96 kw_17 kw_1753 hd_X10_knownMany ⟨Nat.le_of_ble_eq_true rfl, Nat.le_of_ble_eq_true rfl⟩ rfl rfl rfl (Nat.le_of_ble_eq_true rfl) ⟨Nat.le_of_ble_eq_true rfl, Nat.le_of_ble_eq_true rfl⟩ dX10_paces_21 (fun H locs G => ?_)
      refine lv_icmp_ge (tgt := 40) hx hb dX10_paces_24 (by decide) (fun c => ?_) (fun c => ?_)
      · have hf := x_pos c hf
        exact K40 q0 x1 x2 z21.2 hf _ _ ls (lv_sub hl [0, 1, 2] rfl) G
      · have hf := x_neg c hf
        refine lv_aload_n hx hb dX10_paces_27 rfl (lv_at hl 0 rfl) ?_
        obtain ⟨v22, hv22, hf⟩ := x_ob hf
        refine xr_getR (ci := 10) (k := 64) S G hv22 rfl kw_1232 dX10_paces_28 ?_
        refine lv_iload_n hx hb dX10_paces_31 rfl (lv_at hl 3 rfl) ?_
        refine lv_iconst (v := (0 : Int32)) hx hb dX10_paces_32 (by decide) ?_
        obtain ⟨d23, hd23, hf⟩ := x_ob hf
        refine xr_zast S G hd23 dX10_paces_33 (fun H locs G => ?_)
        refine lv_iinc (v := (x3 + 1)) (lv' := [(3, .int (x3 + 1)), (0, .ref (b + q0)), (1, .int x1), (2, .int x2)]) hx hb dX10_paces_34 hl (k := 3) rfl rfl (by decide) rfl (fun ls hl => ?_)
        refine lv_goto (tgt := 19) hx hb dX10_paces_37 (by decide) ?_
        exact hrec19 q0 x1 x2 (x3 + 1) d23 hf _ _ ls (lv_sub hl [1, 2, 3, 0] rfl) G
  unfold f_X10_paces at hf
  refine lv_aload_n hx hb dX10_paces_0 rfl (lv_at hl 0 rfl) ?_
  refine lv_iconst (v := (0 : Int32)) hx hb dX10_paces_1 (by decide) ?_
  obtain ⟨d24, hd24, hf⟩ := x_ob hf
  refine xr_putI (ci := 10) (k := 0) S G hd24 rfl kw_1168 dX10_paces_2 (fun H locs G => ?_)
  refine lv_aload_n hx hb dX10_paces_5 rfl (lv_at hl 0 rfl) ?_
  refine lv_iload_n hx hb dX10_paces_6 rfl (lv_at hl 1 rfl) ?_
  obtain ⟨z25, hz25, hf⟩ := x_ob hf
  obtain ⟨hqz25, hz25⟩ := xon_of hz25
  refine xr_callV (ci := 10) (As := [.int x1]) (rest := []) (st1 := [.int z25.1]) S G hl.1 (fun _ => rfl) (mt_X10_isWalker l D cid b ex sa sv B0 sh q0 x1 d24 _ _ hz25) hqz25 (by decide) kw_1504 kw_1506 ks_62 kw_17 kw_1507 hd_X10_isWalker ⟨Nat.le_of_ble_eq_true rfl, Nat.le_of_ble_eq_true rfl⟩ rfl rfl rfl (Nat.le_of_ble_eq_true rfl) ⟨Nat.le_of_ble_eq_true rfl, Nat.le_of_ble_eq_true rfl⟩ dX10_paces_7 (fun H locs G => ?_)
  refine lv_if_ne (tgt := 15) hx hb dX10_paces_10 (by decide) (fun c => ?_) (fun c => ?_)
  · have hf := x_neg c hf
    refine lv_iconst (v := (0 : Int32)) hx hb dX10_paces_15 (by decide) ?_
    refine lv_istore_n (lv' := [(2, .int (0 : Int32)), (0, .ref (b + q0)), (1, .int x1)]) hx hb dX10_paces_16 rfl hl (by decide) rfl (fun ls hl => ?_)
    refine lv_iconst (v := (0 : Int32)) hx hb dX10_paces_17 (by decide) ?_
    refine lv_istore_n (lv' := [(3, .int (0 : Int32)), (2, .int (0 : Int32)), (0, .ref (b + q0)), (1, .int x1)]) hx hb dX10_paces_18 rfl hl (by decide) rfl (fun ls hl => ?_)
    exact K19 xF q0 x1 (0 : Int32) (0 : Int32) z25.2 hf _ _ ls (lv_sub hl [2, 3, 1, 0] rfl) G
  · have hf := x_pos c hf
    refine lv_iconst (v := (-1 : Int32)) hx hb dX10_paces_13 (by decide) ?_
    cases hf
    exact xr_iret S G (fun _ => rfl) hr dX10_paces_14
-- HalfLandingsModel.chance(III)I
theorem dX10_chance_0 : decode cX10_chance 0 = .ok (.aload_n 0, 1) := by decide +kernel
theorem dX10_chance_1 : decode cX10_chance 1 = .ok (.iconst 0, 1) := by decide +kernel
theorem dX10_chance_2 : decode cX10_chance 2 = .ok (.putfield 145, 3) := by decide +kernel
theorem dX10_chance_5 : decode cX10_chance 5 = .ok (.iload_n 1, 1) := by decide +kernel
theorem dX10_chance_6 : decode cX10_chance 6 = .ok (.ifCond .lt 25, 3) := by decide +kernel
theorem dX10_chance_9 : decode cX10_chance 9 = .ok (.iload_n 2, 1) := by decide +kernel
theorem dX10_chance_10 : decode cX10_chance 10 = .ok (.iconst 1, 1) := by decide +kernel
theorem dX10_chance_11 : decode cX10_chance 11 = .ok (.if_icmp .lt 20, 3) := by decide +kernel
theorem dX10_chance_14 : decode cX10_chance 14 = .ok (.iload_n 2, 1) := by decide +kernel
theorem dX10_chance_15 : decode cX10_chance 15 = .ok (.bipush 99, 2) := by decide +kernel
theorem dX10_chance_17 : decode cX10_chance 17 = .ok (.if_icmp .gt 14, 3) := by decide +kernel
theorem dX10_chance_20 : decode cX10_chance 20 = .ok (.iload_n 3, 1) := by decide +kernel
theorem dX10_chance_21 : decode cX10_chance 21 = .ok (.ifCond .lt 10, 3) := by decide +kernel
theorem dX10_chance_24 : decode cX10_chance 24 = .ok (.iload_n 3, 1) := by decide +kernel
theorem dX10_chance_25 : decode cX10_chance 25 = .ok (.sipush 9999, 3) := by decide +kernel
theorem dX10_chance_28 : decode cX10_chance 28 = .ok (.if_icmp .le 5, 3) := by decide +kernel
theorem dX10_chance_31 : decode cX10_chance 31 = .ok (.iconst (-1), 1) := by decide +kernel
theorem dX10_chance_32 : decode cX10_chance 32 = .ok (.ireturn, 1) := by decide +kernel
theorem dX10_chance_33 : decode cX10_chance 33 = .ok (.iload_n 1, 1) := by decide +kernel
theorem dX10_chance_34 : decode cX10_chance 34 = .ok (.istore 4, 2) := by decide +kernel
theorem dX10_chance_36 : decode cX10_chance 36 = .ok (.iconst 0, 1) := by decide +kernel
theorem dX10_chance_37 : decode cX10_chance 37 = .ok (.istore 5, 2) := by decide +kernel
theorem dX10_chance_39 : decode cX10_chance 39 = .ok (.iconst 0, 1) := by decide +kernel
theorem dX10_chance_40 : decode cX10_chance 40 = .ok (.istore 6, 2) := by decide +kernel
theorem dX10_chance_42 : decode cX10_chance 42 = .ok (.iload 6, 2) := by decide +kernel
theorem dX10_chance_44 : decode cX10_chance 44 = .ok (.bipush 10, 2) := by decide +kernel
theorem dX10_chance_46 : decode cX10_chance 46 = .ok (.if_icmp .ge 79, 3) := by decide +kernel
theorem dX10_chance_49 : decode cX10_chance 49 = .ok (.aload_n 0, 1) := by decide +kernel
theorem dX10_chance_50 : decode cX10_chance 50 = .ok (.iconst 1, 1) := by decide +kernel
theorem dX10_chance_51 : decode cX10_chance 51 = .ok (.iconst 0, 1) := by decide +kernel
theorem dX10_chance_52 : decode cX10_chance 52 = .ok (.invokevirtual 413, 3) := by decide +kernel
theorem dX10_chance_55 : decode cX10_chance 55 = .ok (.aload_n 0, 1) := by decide +kernel
theorem dX10_chance_56 : decode cX10_chance 56 = .ok (.getfield 75, 3) := by decide +kernel
theorem dX10_chance_59 : decode cX10_chance 59 = .ok (.iconst 1, 1) := by decide +kernel
theorem dX10_chance_60 : decode cX10_chance 60 = .ok (.iload 4, 2) := by decide +kernel
theorem dX10_chance_62 : decode cX10_chance 62 = .ok (.iastore, 1) := by decide +kernel
theorem dX10_chance_63 : decode cX10_chance 63 = .ok (.iconst 0, 1) := by decide +kernel
theorem dX10_chance_64 : decode cX10_chance 64 = .ok (.istore 7, 2) := by decide +kernel
theorem dX10_chance_66 : decode cX10_chance 66 = .ok (.iload 7, 2) := by decide +kernel
theorem dX10_chance_68 : decode cX10_chance 68 = .ok (.iload_n 2, 1) := by decide +kernel
theorem dX10_chance_69 : decode cX10_chance 69 = .ok (.if_icmp .ge 15, 3) := by decide +kernel
theorem dX10_chance_72 : decode cX10_chance 72 = .ok (.aload_n 0, 1) := by decide +kernel
theorem dX10_chance_73 : decode cX10_chance 73 = .ok (.iconst 1, 1) := by decide +kernel
theorem dX10_chance_74 : decode cX10_chance 74 = .ok (.iconst 1, 1) := by decide +kernel
theorem dX10_chance_75 : decode cX10_chance 75 = .ok (.invokevirtual 409, 3) := by decide +kernel
theorem dX10_chance_78 : decode cX10_chance 78 = .ok (.iinc 7 1, 3) := by decide +kernel
theorem dX10_chance_81 : decode cX10_chance 81 = .ok (.goto (-15), 3) := by decide +kernel
theorem dX10_chance_84 : decode cX10_chance 84 = .ok (.aload_n 0, 1) := by decide +kernel
theorem dX10_chance_85 : decode cX10_chance 85 = .ok (.getfield 75, 3) := by decide +kernel
theorem dX10_chance_88 : decode cX10_chance 88 = .ok (.iconst 1, 1) := by decide +kernel
theorem dX10_chance_89 : decode cX10_chance 89 = .ok (.iaload, 1) := by decide +kernel
theorem dX10_chance_90 : decode cX10_chance 90 = .ok (.istore 4, 2) := by decide +kernel
theorem dX10_chance_92 : decode cX10_chance 92 = .ok (.iload 5, 2) := by decide +kernel
theorem dX10_chance_94 : decode cX10_chance 94 = .ok (.aload_n 0, 1) := by decide +kernel
theorem dX10_chance_95 : decode cX10_chance 95 = .ok (.getfield 78, 3) := by decide +kernel
theorem dX10_chance_98 : decode cX10_chance 98 = .ok (.iconst 1, 1) := by decide +kernel
theorem dX10_chance_99 : decode cX10_chance 99 = .ok (.iaload, 1) := by decide +kernel
theorem dX10_chance_100 : decode cX10_chance 100 = .ok (.aload_n 0, 1) := by decide +kernel
theorem dX10_chance_101 : decode cX10_chance 101 = .ok (.getfield 78, 3) := by decide +kernel
theorem dX10_chance_104 : decode cX10_chance 104 = .ok (.iconst 0, 1) := by decide +kernel
theorem dX10_chance_105 : decode cX10_chance 105 = .ok (.iaload, 1) := by decide +kernel
theorem dX10_chance_106 : decode cX10_chance 106 = .ok (.isub, 1) := by decide +kernel
theorem dX10_chance_107 : decode cX10_chance 107 = .ok (.iload_n 3, 1) := by decide +kernel
theorem dX10_chance_108 : decode cX10_chance 108 = .ok (.if_icmp .lt 7, 3) := by decide +kernel
theorem dX10_chance_111 : decode cX10_chance 111 = .ok (.iconst 1, 1) := by decide +kernel
theorem dX10_chance_112 : decode cX10_chance 112 = .ok (.goto 4, 3) := by decide +kernel
theorem dX10_chance_115 : decode cX10_chance 115 = .ok (.iconst 0, 1) := by decide +kernel
theorem dX10_chance_116 : decode cX10_chance 116 = .ok (.iadd, 1) := by decide +kernel
theorem dX10_chance_117 : decode cX10_chance 117 = .ok (.istore 5, 2) := by decide +kernel
theorem dX10_chance_119 : decode cX10_chance 119 = .ok (.iinc 6 1, 3) := by decide +kernel
theorem dX10_chance_122 : decode cX10_chance 122 = .ok (.goto (-80), 3) := by decide +kernel
theorem dX10_chance_125 : decode cX10_chance 125 = .ok (.iload 5, 2) := by decide +kernel
theorem dX10_chance_127 : decode cX10_chance 127 = .ok (.ireturn, 1) := by decide +kernel
theorem hd_X10_chance : yX10_chance.cls = xCn 10 ∧ yX10_chance.cls ≠ "java/lang/invoke/MethodHandle" ∧ yX10_chance.cls ≠ "java/lang/invoke/VarHandle" ∧ (parseMethodDescriptor yX10_chance.desc).map (fun d => d.parameters.length) = some 3 := by decide +kernel
def k_X10_chance_31 (sh : List xSh) (d : xD) : Option (Int32 × xD) :=
  some ((-1 : Int32), d)
def k_X10_chance_125 (sh : List xSh) (x5 : Int32) (d : xD) : Option (Int32 × xD) :=
  some (x5, d)
def k_X10_chance_116 (sh : List xSh) (rec42 : Nat → Int32 → Int32 → Int32 → Int32 → Int32 → xD → Option (Int32 × xD)) (q0 : Nat) (x2 : Int32) (x3 : Int32) (x4 : Int32) (x6 : Int32) (y0 : Int32) (y1 : Int32) (d : xD) : Option (Int32 × xD) :=
  rec42 q0 x2 x3 x4 (y0 + y1) (x6 + 1) d
def k_X10_chance_84 (sh : List xSh) (rec42 : Nat → Int32 → Int32 → Int32 → Int32 → Int32 → xD → Option (Int32 × xD)) (q0 : Nat) (x2 : Int32) (x3 : Int32) (x5 : Int32) (x6 : Int32) (d : xD) : Option (Int32 × xD) :=
  (xgR 10 sh d q0 36).bind fun v1 => (xaI .int sh d v1 (1 : Int32)).bind fun v2 => (xgR 10 sh d q0 37).bind fun v3 => (xaI .int sh d v3 (1 : Int32)).bind fun v4 => (xgR 10 sh d q0 37).bind fun v5 => (xaI .int sh d v5 (0 : Int32)).bind fun v6 => if (v4 - v6) < x3 then (k_X10_chance_116 sh rec42 q0 x2 x3 v2 x6 x5 (0 : Int32) d) else (k_X10_chance_116 sh rec42 q0 x2 x3 v2 x6 x5 (1 : Int32) d)
def b_X10_chance_66 (sh : List xSh) (rec42 : Nat → Int32 → Int32 → Int32 → Int32 → Int32 → xD → Option (Int32 × xD)) (rec66 : Nat → Int32 → Int32 → Int32 → Int32 → Int32 → xD → Option (Int32 × xD)) (q0 : Nat) (x2 : Int32) (x3 : Int32) (x5 : Int32) (x6 : Int32) (x7 : Int32) (d : xD) : Option (Int32 × xD) :=
  if x2 ≤ x7 then (k_X10_chance_84 sh rec42 q0 x2 x3 x5 x6 d) else ((xon 10 sh q0 (f_X10_passes sh q0 (1 : Int32) (1 : Int32) d)).bind fun d7 => rec66 q0 x2 x3 x5 x6 (x7 + 1) d7)
def b_X10_chance_42 (sh : List xSh) (rec42 : Nat → Int32 → Int32 → Int32 → Int32 → Int32 → xD → Option (Int32 × xD)) (q0 : Nat) (x2 : Int32) (x3 : Int32) (x4 : Int32) (x5 : Int32) (x6 : Int32) (d : xD) : Option (Int32 × xD) :=
  if (10 : Int32) ≤ x6 then (k_X10_chance_125 sh x5 d) else ((xon 10 sh q0 (f_X10_copies sh q0 (1 : Int32) (0 : Int32) d)).bind fun d8 => (xgR 10 sh d8 q0 36).bind fun v9 => (xsI .int sh d8 v9 (1 : Int32) x4).bind fun d10 => xloop (fun _ _ _ _ _ _ _ => none) (b_X10_chance_66 sh rec42) xF q0 x2 x3 x5 x6 (0 : Int32) d10)
def f_X10_chance (sh : List xSh) (q0 : Nat) (x1 : Int32) (x2 : Int32) (x3 : Int32) (d : xD) : Option (Int32 × xD) :=
  (xpI 10 sh d q0 0 (0 : Int32)).bind fun d11 => if x1 < 0 then (k_X10_chance_31 sh d11) else (if x2 < (1 : Int32) then (k_X10_chance_31 sh d11) else (if (99 : Int32) < x2 then (k_X10_chance_31 sh d11) else (if x3 < 0 then (k_X10_chance_31 sh d11) else (if x3 ≤ (9999 : Int32) then (xloop (fun _ _ _ _ _ _ _ => none) (b_X10_chance_42 sh) xF q0 x2 x3 x1 (0 : Int32) (0 : Int32) d11) else (k_X10_chance_31 sh d11)))))
set_option maxHeartbeats 4000000 in
set_option maxRecDepth 100000 in
theorem mt_X10_chance (l : Launch) (D : va_G) (cid : FieldType → ClassId) (b : Nat) (ex : Bool) (sa sv B0 : Nat) (sh : List xSh) (q0 : Nat) (x1 : Int32) (x2 : Int32) (x3 : Int32) (d : xD) (r : Int32) (dz : xD) (hf : f_X10_chance sh q0 x1 x2 x3 d = some (r, dz)) : xMet l yX10_chance cX10_chance 8 (some .int) 6 0 0 D cid b ex sa sv B0 [.ref (b + q0), .int x1, .int x2, .int x3] sh d (some (.int r)) sh dz := by
  refine xMet.of (by decide) (Nat.le_of_ble_eq_true rfl) ?_
  intro p e s m below meth c ls A S hr hin G hl
  have hl : lv_has ls 8 [(0, .ref (b + q0)), (1, .int x1), (2, .int x2), (3, .int x3)] := hl
  generalize ([.ref (b + q0), .int x1, .int x2, .int x3] : List Value).toArray = av at S ⊢
  have hx := S.1
  have hb := S.2.1
  have hml := S.2.2.1
  have hown := S.2.2.2.1
  have hts := S.2.2.2.2.1
  have K31 : ∀ (d : xD), k_X10_chance_31 sh d = some (r, dz) → ∀ (H : Heap) (locs : List Loc) (ls : Array Slot), lv_has ls 8 [] → xG D cid b A sh d s H locs → W p l e (xRm 6 0 0) s m av below meth c H locs 0 0 (MQ below (xQ D cid b ex A (some (.int r)) sh dz) av s 0 0 A) (F0 m 31 ls []) := by
    intro d hf H locs ls hl G
    unfold k_X10_chance_31 at hf
    refine lv_iconst (v := (-1 : Int32)) hx hb dX10_chance_31 (by decide) ?_
    cases hf
    exact xr_iret S G (fun _ => rfl) hr dX10_chance_32
  have K125 : ∀ (x5 : Int32) (d : xD), k_X10_chance_125 sh x5 d = some (r, dz) → ∀ (H : Heap) (locs : List Loc) (ls : Array Slot), lv_has ls 8 [(5, .int x5)] → xG D cid b A sh d s H locs → W p l e (xRm 6 0 0) s m av below meth c H locs 0 0 (MQ below (xQ D cid b ex A (some (.int r)) sh dz) av s 0 0 A) (F0 m 125 ls []) := by
    intro x5 d hf H locs ls hl G
    unfold k_X10_chance_125 at hf
    refine lv_iload hx hb dX10_chance_125 (lv_at hl 0 rfl) ?_
    cases hf
    exact xr_iret S G (fun _ => rfl) hr dX10_chance_127
  have K116 : ∀ (rec42 : Nat → Int32 → Int32 → Int32 → Int32 → Int32 → xD → Option (Int32 × xD)) (hrec42 : ∀ (q0 : Nat) (x2 : Int32) (x3 : Int32) (x4 : Int32) (x5 : Int32) (x6 : Int32) (d : xD), rec42 q0 x2 x3 x4 x5 x6 d = some (r, dz) → ∀ (H : Heap) (locs : List Loc) (ls : Array Slot), lv_has ls 8 [(0, .ref (b + q0)), (2, .int x2), (3, .int x3), (4, .int x4), (5, .int x5), (6, .int x6)] → xG D cid b A sh d s H locs → W p l e (xRm 6 0 0) s m av below meth c H locs 0 0 (MQ below (xQ D cid b ex A (some (.int r)) sh dz) av s 0 0 A) (F0 m 42 ls [])) (q0 : Nat) (x2 : Int32) (x3 : Int32) (x4 : Int32) (x6 : Int32) (y0 : Int32) (y1 : Int32) (d : xD), k_X10_chance_116 sh rec42 q0 x2 x3 x4 x6 y0 y1 d = some (r, dz) → ∀ (H : Heap) (locs : List Loc) (ls : Array Slot), lv_has ls 8 [(0, .ref (b + q0)), (2, .int x2), (3, .int x3), (4, .int x4), (6, .int x6)] → xG D cid b A sh d s H locs → W p l e (xRm 6 0 0) s m av below meth c H locs 0 0 (MQ below (xQ D cid b ex A (some (.int r)) sh dz) av s 0 0 A) (F0 m 116 ls [.int y1, .int y0]) := by
    intro rec42 hrec42 q0 x2 x3 x4 x6 y0 y1 d hf H locs ls hl G
    unfold k_X10_chance_116 at hf
    refine lv_iadd hx hb dX10_chance_116 ?_
    refine lv_istore (lv' := [(5, .int (y0 + y1)), (0, .ref (b + q0)), (2, .int x2), (3, .int x3), (4, .int x4), (6, .int x6)]) hx hb dX10_chance_117 hl (by decide) rfl (fun ls hl => ?_)
    refine lv_iinc (v := (x6 + 1)) (lv' := [(6, .int (x6 + 1)), (5, .int (y0 + y1)), (0, .ref (b + q0)), (2, .int x2), (3, .int x3), (4, .int x4)]) hx hb dX10_chance_119 hl (k := 5) rfl rfl (by decide) rfl (fun ls hl => ?_)
    refine lv_goto (tgt := 42) hx hb dX10_chance_122 (by decide) ?_
    exact hrec42 q0 x2 x3 x4 (y0 + y1) (x6 + 1) d hf _ _ ls (lv_sub hl [2, 3, 4, 5, 1, 0] rfl) G
  have K84 : ∀ (rec42 : Nat → Int32 → Int32 → Int32 → Int32 → Int32 → xD → Option (Int32 × xD)) (hrec42 : ∀ (q0 : Nat) (x2 : Int32) (x3 : Int32) (x4 : Int32) (x5 : Int32) (x6 : Int32) (d : xD), rec42 q0 x2 x3 x4 x5 x6 d = some (r, dz) → ∀ (H : Heap) (locs : List Loc) (ls : Array Slot), lv_has ls 8 [(0, .ref (b + q0)), (2, .int x2), (3, .int x3), (4, .int x4), (5, .int x5), (6, .int x6)] → xG D cid b A sh d s H locs → W p l e (xRm 6 0 0) s m av below meth c H locs 0 0 (MQ below (xQ D cid b ex A (some (.int r)) sh dz) av s 0 0 A) (F0 m 42 ls [])) (q0 : Nat) (x2 : Int32) (x3 : Int32) (x5 : Int32) (x6 : Int32) (d : xD), k_X10_chance_84 sh rec42 q0 x2 x3 x5 x6 d = some (r, dz) → ∀ (H : Heap) (locs : List Loc) (ls : Array Slot), lv_has ls 8 [(0, .ref (b + q0)), (2, .int x2), (3, .int x3), (5, .int x5), (6, .int x6)] → xG D cid b A sh d s H locs → W p l e (xRm 6 0 0) s m av below meth c H locs 0 0 (MQ below (xQ D cid b ex A (some (.int r)) sh dz) av s 0 0 A) (F0 m 84 ls []) := by
    intro rec42 hrec42 q0 x2 x3 x5 x6 d hf H locs ls hl G
    unfold k_X10_chance_84 at hf
    refine lv_aload_n hx hb dX10_chance_84 rfl (lv_at hl 0 rfl) ?_
    obtain ⟨v1, hv1, hf⟩ := x_ob hf
    refine xr_getR (ci := 10) (k := 36) S G hv1 rfl kw_1204 dX10_chance_85 ?_
    refine lv_iconst (v := (1 : Int32)) hx hb dX10_chance_88 (by decide) ?_
    obtain ⟨v2, hv2, hf⟩ := x_ob hf
    refine xr_iald S G hv2 dX10_chance_89 ?_
    refine lv_istore (lv' := [(4, .int v2), (0, .ref (b + q0)), (2, .int x2), (3, .int x3), (5, .int x5), (6, .int x6)]) hx hb dX10_chance_90 hl (by decide) rfl (fun ls hl => ?_)
    refine lv_iload hx hb dX10_chance_92 (lv_at hl 4 rfl) ?_
    refine lv_aload_n hx hb dX10_chance_94 rfl (lv_at hl 1 rfl) ?_
    obtain ⟨v3, hv3, hf⟩ := x_ob hf
    refine xr_getR (ci := 10) (k := 37) S G hv3 rfl kw_1205 dX10_chance_95 ?_
    refine lv_iconst (v := (1 : Int32)) hx hb dX10_chance_98 (by decide) ?_
    obtain ⟨v4, hv4, hf⟩ := x_ob hf
    refine xr_iald S G hv4 dX10_chance_99 ?_
    refine lv_aload_n hx hb dX10_chance_100 rfl (lv_at hl 1 rfl) ?_
    obtain ⟨v5, hv5, hf⟩ := x_ob hf
    refine xr_getR (ci := 10) (k := 37) S G hv5 rfl kw_1205 dX10_chance_101 ?_
    refine lv_iconst (v := (0 : Int32)) hx hb dX10_chance_104 (by decide) ?_
    obtain ⟨v6, hv6, hf⟩ := x_ob hf
    refine xr_iald S G hv6 dX10_chance_105 ?_
    refine lv_isub hx hb dX10_chance_106 ?_
    refine lv_iload_n hx hb dX10_chance_107 rfl (lv_at hl 3 rfl) ?_
    refine lv_icmp_lt (tgt := 115) hx hb dX10_chance_108 (by decide) (fun c => ?_) (fun c => ?_)
    · have hf := x_pos c hf
      refine lv_iconst (v := (0 : Int32)) hx hb dX10_chance_115 (by decide) ?_
      exact K116 _ hrec42 q0 x2 x3 v2 x6 x5 (0 : Int32) d hf _ _ ls (lv_sub hl [1, 2, 3, 0, 5] rfl) G
    · have hf := x_neg c hf
      refine lv_iconst (v := (1 : Int32)) hx hb dX10_chance_111 (by decide) ?_
      refine lv_goto (tgt := 116) hx hb dX10_chance_112 (by decide) ?_
      exact K116 _ hrec42 q0 x2 x3 v2 x6 x5 (1 : Int32) d hf _ _ ls (lv_sub hl [1, 2, 3, 0, 5] rfl) G
  have K66 : ∀ (rec42 : Nat → Int32 → Int32 → Int32 → Int32 → Int32 → xD → Option (Int32 × xD)) (hrec42 : ∀ (q0 : Nat) (x2 : Int32) (x3 : Int32) (x4 : Int32) (x5 : Int32) (x6 : Int32) (d : xD), rec42 q0 x2 x3 x4 x5 x6 d = some (r, dz) → ∀ (H : Heap) (locs : List Loc) (ls : Array Slot), lv_has ls 8 [(0, .ref (b + q0)), (2, .int x2), (3, .int x3), (4, .int x4), (5, .int x5), (6, .int x6)] → xG D cid b A sh d s H locs → W p l e (xRm 6 0 0) s m av below meth c H locs 0 0 (MQ below (xQ D cid b ex A (some (.int r)) sh dz) av s 0 0 A) (F0 m 42 ls [])) (n : Nat) (q0 : Nat) (x2 : Int32) (x3 : Int32) (x5 : Int32) (x6 : Int32) (x7 : Int32) (d : xD), xloop (fun _ _ _ _ _ _ _ => none) (b_X10_chance_66 sh rec42) n q0 x2 x3 x5 x6 x7 d = some (r, dz) → ∀ (H : Heap) (locs : List Loc) (ls : Array Slot), lv_has ls 8 [(0, .ref (b + q0)), (2, .int x2), (3, .int x3), (5, .int x5), (6, .int x6), (7, .int x7)] → xG D cid b A sh d s H locs → W p l e (xRm 6 0 0) s m av below meth c H locs 0 0 (MQ below (xQ D cid b ex A (some (.int r)) sh dz) av s 0 0 A) (F0 m 66 ls []) := by
    intro rec42 hrec42 n
    induction n with
    | zero =>
      intro q0 x2 x3 x5 x6 x7 d hf
      have hf : (none : Option (Int32 × xD)) = some (r, dz) := hf
      cases hf
    | succ n hrec66 =>
      intro q0 x2 x3 x5 x6 x7 d hf H locs ls hl G
      have hf : b_X10_chance_66 sh rec42 (xloop (fun _ _ _ _ _ _ _ => none) (b_X10_chance_66 sh rec42) n) q0 x2 x3 x5 x6 x7 d = some (r, dz) := hf
      unfold b_X10_chance_66 at hf
      refine lv_iload hx hb dX10_chance_66 (lv_at hl 5 rfl) ?_
      refine lv_iload_n hx hb dX10_chance_68 rfl (lv_at hl 1 rfl) ?_
      refine lv_icmp_ge (tgt := 84) hx hb dX10_chance_69 (by decide) (fun c => ?_) (fun c => ?_)
      · have hf := x_pos c hf
        exact K84 _ hrec42 q0 x2 x3 x5 x6 d hf _ _ ls (lv_sub hl [0, 1, 2, 3, 4] rfl) G
      · have hf := x_neg c hf
        refine lv_aload_n hx hb dX10_chance_72 rfl (lv_at hl 0 rfl) ?_
        refine lv_iconst (v := (1 : Int32)) hx hb dX10_chance_73 (by decide) ?_
        refine lv_iconst (v := (1 : Int32)) hx hb dX10_chance_74 (by decide) ?_
        obtain ⟨d7, hd7, hf⟩ := x_ob hf
        obtain ⟨hqd7, hd7⟩ := xon_of hd7
        refine xr_callV (ci := 10) (As := [.int (1 : Int32), .int (1 : Int32)]) (rest := []) (st1 := []) S G hl.1 (fun _ => rfl) (mt_X10_passes l D cid b ex sa sv B0 sh q0 (1 : Int32) (1 : Int32) d _ hd7) hqd7 (by decide) kw_1616 kw_1618 ks_79 kw_17 kw_1619 hd_X10_passes ⟨Nat.le_of_ble_eq_true rfl, Nat.le_of_ble_eq_true rfl⟩ rfl rfl rfl (Nat.le_of_ble_eq_true rfl) ⟨Nat.le_of_ble_eq_true rfl, Nat.le_of_ble_eq_true rfl⟩ dX10_chance_75 (fun H locs G => ?_)
        refine lv_iinc (v := (x7 + 1)) (lv' := [(7, .int (x7 + 1)), (0, .ref (b + q0)), (2, .int x2), (3, .int x3), (5, .int x5), (6, .int x6)]) hx hb dX10_chance_78 hl (k := 5) rfl rfl (by decide) rfl (fun ls hl => ?_)
        refine lv_goto (tgt := 66) hx hb dX10_chance_81 (by decide) ?_
        exact hrec66 q0 x2 x3 x5 x6 (x7 + 1) d7 hf _ _ ls (lv_sub hl [1, 2, 3, 4, 5, 0] rfl) G
  have K42 : ∀ (n : Nat) (q0 : Nat) (x2 : Int32) (x3 : Int32) (x4 : Int32) (x5 : Int32) (x6 : Int32) (d : xD), xloop (fun _ _ _ _ _ _ _ => none) (b_X10_chance_42 sh) n q0 x2 x3 x4 x5 x6 d = some (r, dz) → ∀ (H : Heap) (locs : List Loc) (ls : Array Slot), lv_has ls 8 [(0, .ref (b + q0)), (2, .int x2), (3, .int x3), (4, .int x4), (5, .int x5), (6, .int x6)] → xG D cid b A sh d s H locs → W p l e (xRm 6 0 0) s m av below meth c H locs 0 0 (MQ below (xQ D cid b ex A (some (.int r)) sh dz) av s 0 0 A) (F0 m 42 ls []) := by
    intro n
    induction n with
    | zero =>
      intro q0 x2 x3 x4 x5 x6 d hf
      have hf : (none : Option (Int32 × xD)) = some (r, dz) := hf
      cases hf
    | succ n hrec42 =>
      intro q0 x2 x3 x4 x5 x6 d hf H locs ls hl G
      have hf : b_X10_chance_42 sh (xloop (fun _ _ _ _ _ _ _ => none) (b_X10_chance_42 sh) n) q0 x2 x3 x4 x5 x6 d = some (r, dz) := hf
      unfold b_X10_chance_42 at hf
      refine lv_iload hx hb dX10_chance_42 (lv_at hl 5 rfl) ?_
      refine lv_bipush (v := (10 : Int32)) hx hb dX10_chance_44 (by decide) ?_
      refine lv_icmp_ge (tgt := 125) hx hb dX10_chance_46 (by decide) (fun c => ?_) (fun c => ?_)
      · have hf := x_pos c hf
        exact K125 x5 d hf _ _ ls (lv_sub hl [4] rfl) G
      · have hf := x_neg c hf
        refine lv_aload_n hx hb dX10_chance_49 rfl (lv_at hl 0 rfl) ?_
        refine lv_iconst (v := (1 : Int32)) hx hb dX10_chance_50 (by decide) ?_
        refine lv_iconst (v := (0 : Int32)) hx hb dX10_chance_51 (by decide) ?_
        obtain ⟨d8, hd8, hf⟩ := x_ob hf
        obtain ⟨hqd8, hd8⟩ := xon_of hd8
        refine xr_callV (ci := 10) (As := [.int (1 : Int32), .int (0 : Int32)]) (rest := []) (st1 := []) S G hl.1 (fun _ => rfl) (mt_X10_copies l D cid b ex sa sv B0 sh q0 (1 : Int32) (0 : Int32) d _ hd8) hqd8 (by decide) kw_1580 kw_1582 ks_73 kw_17 kw_1583 hd_X10_copies ⟨Nat.le_of_ble_eq_true rfl, Nat.le_of_ble_eq_true rfl⟩ rfl rfl rfl (Nat.le_of_ble_eq_true rfl) ⟨Nat.le_of_ble_eq_true rfl, Nat.le_of_ble_eq_true rfl⟩ dX10_chance_52 (fun H locs G => ?_)
        refine lv_aload_n hx hb dX10_chance_55 rfl (lv_at hl 0 rfl) ?_
        obtain ⟨v9, hv9, hf⟩ := x_ob hf
        refine xr_getR (ci := 10) (k := 36) S G hv9 rfl kw_1204 dX10_chance_56 ?_
        refine lv_iconst (v := (1 : Int32)) hx hb dX10_chance_59 (by decide) ?_
        refine lv_iload hx hb dX10_chance_60 (lv_at hl 3 rfl) ?_
        obtain ⟨d10, hd10, hf⟩ := x_ob hf
        refine xr_iast S G hd10 dX10_chance_62 (fun H locs G => ?_)
        refine lv_iconst (v := (0 : Int32)) hx hb dX10_chance_63 (by decide) ?_
        refine lv_istore (lv' := [(7, .int (0 : Int32)), (0, .ref (b + q0)), (2, .int x2), (3, .int x3), (4, .int x4), (5, .int x5), (6, .int x6)]) hx hb dX10_chance_64 hl (by decide) rfl (fun ls hl => ?_)
        exact K66 _ hrec42 xF q0 x2 x3 x5 x6 (0 : Int32) d10 hf _ _ ls (lv_sub hl [1, 2, 3, 5, 6, 0] rfl) G
  unfold f_X10_chance at hf
  refine lv_aload_n hx hb dX10_chance_0 rfl (lv_at hl 0 rfl) ?_
  refine lv_iconst (v := (0 : Int32)) hx hb dX10_chance_1 (by decide) ?_
  obtain ⟨d11, hd11, hf⟩ := x_ob hf
  refine xr_putI (ci := 10) (k := 0) S G hd11 rfl kw_1168 dX10_chance_2 (fun H locs G => ?_)
  refine lv_iload_n hx hb dX10_chance_5 rfl (lv_at hl 1 rfl) ?_
  refine lv_if_lt (tgt := 31) hx hb dX10_chance_6 (by decide) (fun c => ?_) (fun c => ?_)
  · have hf := x_pos c hf
    exact K31 d11 hf _ _ ls (lv_sub hl [] rfl) G
  · have hf := x_neg c hf
    refine lv_iload_n hx hb dX10_chance_9 rfl (lv_at hl 2 rfl) ?_
    refine lv_iconst (v := (1 : Int32)) hx hb dX10_chance_10 (by decide) ?_
    refine lv_icmp_lt (tgt := 31) hx hb dX10_chance_11 (by decide) (fun c => ?_) (fun c => ?_)
    · have hf := x_pos c hf
      exact K31 d11 hf _ _ ls (lv_sub hl [] rfl) G
    · have hf := x_neg c hf
      refine lv_iload_n hx hb dX10_chance_14 rfl (lv_at hl 2 rfl) ?_
      refine lv_bipush (v := (99 : Int32)) hx hb dX10_chance_15 (by decide) ?_
      refine lv_icmp_gt (tgt := 31) hx hb dX10_chance_17 (by decide) (fun c => ?_) (fun c => ?_)
      · have hf := x_pos c hf
        exact K31 d11 hf _ _ ls (lv_sub hl [] rfl) G
      · have hf := x_neg c hf
        refine lv_iload_n hx hb dX10_chance_20 rfl (lv_at hl 3 rfl) ?_
        refine lv_if_lt (tgt := 31) hx hb dX10_chance_21 (by decide) (fun c => ?_) (fun c => ?_)
        · have hf := x_pos c hf
          exact K31 d11 hf _ _ ls (lv_sub hl [] rfl) G
        · have hf := x_neg c hf
          refine lv_iload_n hx hb dX10_chance_24 rfl (lv_at hl 3 rfl) ?_
          refine lv_sipush (v := (9999 : Int32)) hx hb dX10_chance_25 (by decide) ?_
          refine lv_icmp_le (tgt := 33) hx hb dX10_chance_28 (by decide) (fun c => ?_) (fun c => ?_)
          · have hf := x_pos c hf
            refine lv_iload_n hx hb dX10_chance_33 rfl (lv_at hl 1 rfl) ?_
            refine lv_istore (lv' := [(4, .int x1), (0, .ref (b + q0)), (1, .int x1), (2, .int x2), (3, .int x3)]) hx hb dX10_chance_34 hl (by decide) rfl (fun ls hl => ?_)
            refine lv_iconst (v := (0 : Int32)) hx hb dX10_chance_36 (by decide) ?_
            refine lv_istore (lv' := [(5, .int (0 : Int32)), (4, .int x1), (0, .ref (b + q0)), (1, .int x1), (2, .int x2), (3, .int x3)]) hx hb dX10_chance_37 hl (by decide) rfl (fun ls hl => ?_)
            refine lv_iconst (v := (0 : Int32)) hx hb dX10_chance_39 (by decide) ?_
            refine lv_istore (lv' := [(6, .int (0 : Int32)), (5, .int (0 : Int32)), (4, .int x1), (0, .ref (b + q0)), (1, .int x1), (2, .int x2), (3, .int x3)]) hx hb dX10_chance_40 hl (by decide) rfl (fun ls hl => ?_)
            exact K42 xF q0 x2 x3 x1 (0 : Int32) (0 : Int32) d11 hf _ _ ls (lv_sub hl [3, 5, 6, 2, 1, 0] rfl) G
          · have hf := x_neg c hf
            exact K31 d11 hf _ _ ls (lv_sub hl [] rfl) G
-- HalfLandingsModel.tried(III)I
theorem dX10_tried_0 : decode cX10_tried 0 = .ok (.aload_n 0, 1) := by decide +kernel
theorem dX10_tried_1 : decode cX10_tried 1 = .ok (.iconst 0, 1) := by decide +kernel
theorem dX10_tried_2 : decode cX10_tried 2 = .ok (.putfield 145, 3) := by decide +kernel
theorem dX10_tried_5 : decode cX10_tried 5 = .ok (.iload_n 1, 1) := by decide +kernel
theorem dX10_tried_6 : decode cX10_tried 6 = .ok (.iconst 2, 1) := by decide +kernel
theorem dX10_tried_7 : decode cX10_tried 7 = .ok (.if_icmp .ne 11, 3) := by decide +kernel
theorem dX10_tried_10 : decode cX10_tried 10 = .ok (.aload_n 0, 1) := by decide +kernel
theorem dX10_tried_11 : decode cX10_tried 11 = .ok (.iload_n 2, 1) := by decide +kernel
theorem dX10_tried_12 : decode cX10_tried 12 = .ok (.invokevirtual 419, 3) := by decide +kernel
theorem dX10_tried_15 : decode cX10_tried 15 = .ok (.goto 21, 3) := by decide +kernel
theorem dX10_tried_18 : decode cX10_tried 18 = .ok (.iload_n 1, 1) := by decide +kernel
theorem dX10_tried_19 : decode cX10_tried 19 = .ok (.ifCond .lt 16, 3) := by decide +kernel
theorem dX10_tried_22 : decode cX10_tried 22 = .ok (.iload_n 1, 1) := by decide +kernel
theorem dX10_tried_23 : decode cX10_tried 23 = .ok (.iconst 5, 1) := by decide +kernel
theorem dX10_tried_24 : decode cX10_tried 24 = .ok (.if_icmp .gt 11, 3) := by decide +kernel
theorem dX10_tried_27 : decode cX10_tried 27 = .ok (.iload_n 2, 1) := by decide +kernel
theorem dX10_tried_28 : decode cX10_tried 28 = .ok (.ifCond .ne 7, 3) := by decide +kernel
theorem dX10_tried_31 : decode cX10_tried 31 = .ok (.iconst 1, 1) := by decide +kernel
theorem dX10_tried_32 : decode cX10_tried 32 = .ok (.goto 4, 3) := by decide +kernel
theorem dX10_tried_35 : decode cX10_tried 35 = .ok (.iconst 0, 1) := by decide +kernel
theorem dX10_tried_36 : decode cX10_tried 36 = .ok (.istore 4, 2) := by decide +kernel
theorem dX10_tried_38 : decode cX10_tried 38 = .ok (.iload 4, 2) := by decide +kernel
theorem dX10_tried_40 : decode cX10_tried 40 = .ok (.ifCond .eq 14, 3) := by decide +kernel
theorem dX10_tried_43 : decode cX10_tried 43 = .ok (.iload_n 3, 1) := by decide +kernel
theorem dX10_tried_44 : decode cX10_tried 44 = .ok (.ifCond .lt 10, 3) := by decide +kernel
theorem dX10_tried_47 : decode cX10_tried 47 = .ok (.iload_n 3, 1) := by decide +kernel
theorem dX10_tried_48 : decode cX10_tried 48 = .ok (.sipush 200, 3) := by decide +kernel
theorem dX10_tried_51 : decode cX10_tried 51 = .ok (.if_icmp .le 5, 3) := by decide +kernel
theorem dX10_tried_54 : decode cX10_tried 54 = .ok (.iconst (-1), 1) := by decide +kernel
theorem dX10_tried_55 : decode cX10_tried 55 = .ok (.ireturn, 1) := by decide +kernel
theorem dX10_tried_56 : decode cX10_tried 56 = .ok (.aload_n 0, 1) := by decide +kernel
theorem dX10_tried_57 : decode cX10_tried 57 = .ok (.iconst 1, 1) := by decide +kernel
theorem dX10_tried_58 : decode cX10_tried 58 = .ok (.iconst 0, 1) := by decide +kernel
theorem dX10_tried_59 : decode cX10_tried 59 = .ok (.invokevirtual 413, 3) := by decide +kernel
theorem dX10_tried_62 : decode cX10_tried 62 = .ok (.iload_n 1, 1) := by decide +kernel
theorem dX10_tried_63 : decode cX10_tried 63 = .ok (.iconst 2, 1) := by decide +kernel
theorem dX10_tried_64 : decode cX10_tried 64 = .ok (.if_icmp .ne 9, 3) := by decide +kernel
theorem dX10_tried_67 : decode cX10_tried 67 = .ok (.aload_n 0, 1) := by decide +kernel
theorem dX10_tried_68 : decode cX10_tried 68 = .ok (.iconst 1, 1) := by decide +kernel
theorem dX10_tried_69 : decode cX10_tried 69 = .ok (.iload_n 2, 1) := by decide +kernel
theorem dX10_tried_70 : decode cX10_tried 70 = .ok (.invokevirtual 379, 3) := by decide +kernel
theorem dX10_tried_73 : decode cX10_tried 73 = .ok (.iload_n 1, 1) := by decide +kernel
theorem dX10_tried_74 : decode cX10_tried 74 = .ok (.iconst 3, 1) := by decide +kernel
theorem dX10_tried_75 : decode cX10_tried 75 = .ok (.if_icmp .ne 10, 3) := by decide +kernel
theorem dX10_tried_78 : decode cX10_tried 78 = .ok (.aload_n 0, 1) := by decide +kernel
theorem dX10_tried_79 : decode cX10_tried 79 = .ok (.getfield 81, 3) := by decide +kernel
theorem dX10_tried_82 : decode cX10_tried 82 = .ok (.iconst 1, 1) := by decide +kernel
theorem dX10_tried_83 : decode cX10_tried 83 = .ok (.iconst 0, 1) := by decide +kernel
theorem dX10_tried_84 : decode cX10_tried 84 = .ok (.iastore, 1) := by decide +kernel
theorem dX10_tried_85 : decode cX10_tried 85 = .ok (.aload_n 0, 1) := by decide +kernel
theorem dX10_tried_86 : decode cX10_tried 86 = .ok (.iload_n 1, 1) := by decide +kernel
theorem dX10_tried_87 : decode cX10_tried 87 = .ok (.putfield 331, 3) := by decide +kernel
theorem dX10_tried_90 : decode cX10_tried 90 = .ok (.aload_n 0, 1) := by decide +kernel
theorem dX10_tried_91 : decode cX10_tried 91 = .ok (.iload_n 3, 1) := by decide +kernel
theorem dX10_tried_92 : decode cX10_tried 92 = .ok (.invokevirtual 416, 3) := by decide +kernel
theorem dX10_tried_95 : decode cX10_tried 95 = .ok (.aload_n 0, 1) := by decide +kernel
theorem dX10_tried_96 : decode cX10_tried 96 = .ok (.iconst 0, 1) := by decide +kernel
theorem dX10_tried_97 : decode cX10_tried 97 = .ok (.putfield 331, 3) := by decide +kernel
theorem dX10_tried_100 : decode cX10_tried 100 = .ok (.aload_n 0, 1) := by decide +kernel
theorem dX10_tried_101 : decode cX10_tried 101 = .ok (.getfield 78, 3) := by decide +kernel
theorem dX10_tried_104 : decode cX10_tried 104 = .ok (.iconst 1, 1) := by decide +kernel
theorem dX10_tried_105 : decode cX10_tried 105 = .ok (.iaload, 1) := by decide +kernel
theorem dX10_tried_106 : decode cX10_tried 106 = .ok (.aload_n 0, 1) := by decide +kernel
theorem dX10_tried_107 : decode cX10_tried 107 = .ok (.getfield 78, 3) := by decide +kernel
theorem dX10_tried_110 : decode cX10_tried 110 = .ok (.iconst 0, 1) := by decide +kernel
theorem dX10_tried_111 : decode cX10_tried 111 = .ok (.iaload, 1) := by decide +kernel
theorem dX10_tried_112 : decode cX10_tried 112 = .ok (.isub, 1) := by decide +kernel
theorem dX10_tried_113 : decode cX10_tried 113 = .ok (.ireturn, 1) := by decide +kernel
theorem hd_X10_tried : yX10_tried.cls = xCn 10 ∧ yX10_tried.cls ≠ "java/lang/invoke/MethodHandle" ∧ yX10_tried.cls ≠ "java/lang/invoke/VarHandle" ∧ (parseMethodDescriptor yX10_tried.desc).map (fun d => d.parameters.length) = some 3 := by decide +kernel
def k_X10_tried_54 (sh : List xSh) (d : xD) : Option (Int32 × xD) :=
  some ((-1 : Int32), d)
def k_X10_tried_85 (sh : List xSh) (q0 : Nat) (x1 : Int32) (x3 : Int32) (d : xD) : Option (Int32 × xD) :=
  (xpI 10 sh d q0 50 x1).bind fun d1 => (xon 10 sh q0 (f_X10_goesOn sh q0 x3 d1)).bind fun d2 => (xpI 10 sh d2 q0 50 (0 : Int32)).bind fun d3 => (xgR 10 sh d3 q0 37).bind fun v4 => (xaI .int sh d3 v4 (1 : Int32)).bind fun v5 => (xgR 10 sh d3 q0 37).bind fun v6 => (xaI .int sh d3 v6 (0 : Int32)).bind fun v7 => some ((v5 - v7), d3)
def k_X10_tried_73 (sh : List xSh) (q0 : Nat) (x1 : Int32) (x3 : Int32) (d : xD) : Option (Int32 × xD) :=
  if x1 = (3 : Int32) then ((xgR 10 sh d q0 38).bind fun v8 => (xsI .int sh d v8 (1 : Int32) (0 : Int32)).bind fun d9 => k_X10_tried_85 sh q0 x1 x3 d9) else (k_X10_tried_85 sh q0 x1 x3 d)
def k_X10_tried_36 (sh : List xSh) (q0 : Nat) (x1 : Int32) (x2 : Int32) (x3 : Int32) (y0 : Int32) (d : xD) : Option (Int32 × xD) :=
  if y0 = 0 then (k_X10_tried_54 sh d) else (if x3 < 0 then (k_X10_tried_54 sh d) else (if x3 ≤ (200 : Int32) then ((xon 10 sh q0 (f_X10_copies sh q0 (1 : Int32) (0 : Int32) d)).bind fun d10 => if x1 = (2 : Int32) then ((xon 10 sh q0 (f_X10_goesOut sh q0 (1 : Int32) x2 d10)).bind fun d11 => k_X10_tried_73 sh q0 x1 x3 d11) else (k_X10_tried_73 sh q0 x1 x3 d10)) else (k_X10_tried_54 sh d)))
def k_X10_tried_35 (sh : List xSh) (q0 : Nat) (x1 : Int32) (x2 : Int32) (x3 : Int32) (d : xD) : Option (Int32 × xD) :=
  k_X10_tried_36 sh q0 x1 x2 x3 (0 : Int32) d
def f_X10_tried (sh : List xSh) (q0 : Nat) (x1 : Int32) (x2 : Int32) (x3 : Int32) (d : xD) : Option (Int32 × xD) :=
  (xpI 10 sh d q0 0 (0 : Int32)).bind fun d12 => if x1 = (2 : Int32) then ((xon 10 sh q0 (f_X10_isWalker sh q0 x2 d12)).bind fun z13 => k_X10_tried_36 sh q0 x1 x2 x3 z13.1 z13.2) else (if x1 < 0 then (k_X10_tried_35 sh q0 x1 x2 x3 d12) else (if (5 : Int32) < x1 then (k_X10_tried_35 sh q0 x1 x2 x3 d12) else (if x2 = 0 then (k_X10_tried_36 sh q0 x1 x2 x3 (1 : Int32) d12) else (k_X10_tried_35 sh q0 x1 x2 x3 d12))))
set_option maxHeartbeats 4000000 in
set_option maxRecDepth 100000 in
theorem mt_X10_tried (l : Launch) (D : va_G) (cid : FieldType → ClassId) (b : Nat) (ex : Bool) (sa sv B0 : Nat) (sh : List xSh) (q0 : Nat) (x1 : Int32) (x2 : Int32) (x3 : Int32) (d : xD) (r : Int32) (dz : xD) (hf : f_X10_tried sh q0 x1 x2 x3 d = some (r, dz)) : xMet l yX10_tried cX10_tried 5 (some .int) 7 0 0 D cid b ex sa sv B0 [.ref (b + q0), .int x1, .int x2, .int x3] sh d (some (.int r)) sh dz := by
  refine xMet.of (by decide) (Nat.le_of_ble_eq_true rfl) ?_
  intro p e s m below meth c ls A S hr hin G hl
  have hl : lv_has ls 5 [(0, .ref (b + q0)), (1, .int x1), (2, .int x2), (3, .int x3)] := hl
  generalize ([.ref (b + q0), .int x1, .int x2, .int x3] : List Value).toArray = av at S ⊢
  have hx := S.1
  have hb := S.2.1
  have hml := S.2.2.1
  have hown := S.2.2.2.1
  have hts := S.2.2.2.2.1
  have K54 : ∀ (d : xD), k_X10_tried_54 sh d = some (r, dz) → ∀ (H : Heap) (locs : List Loc) (ls : Array Slot), lv_has ls 5 [] → xG D cid b A sh d s H locs → W p l e (xRm 7 0 0) s m av below meth c H locs 0 0 (MQ below (xQ D cid b ex A (some (.int r)) sh dz) av s 0 0 A) (F0 m 54 ls []) := by
    intro d hf H locs ls hl G
    unfold k_X10_tried_54 at hf
    refine lv_iconst (v := (-1 : Int32)) hx hb dX10_tried_54 (by decide) ?_
    cases hf
    exact xr_iret S G (fun _ => rfl) hr dX10_tried_55
  have K85 : ∀ (q0 : Nat) (x1 : Int32) (x3 : Int32) (d : xD), k_X10_tried_85 sh q0 x1 x3 d = some (r, dz) → ∀ (H : Heap) (locs : List Loc) (ls : Array Slot), lv_has ls 5 [(0, .ref (b + q0)), (1, .int x1), (3, .int x3)] → xG D cid b A sh d s H locs → W p l e (xRm 7 0 0) s m av below meth c H locs 0 0 (MQ below (xQ D cid b ex A (some (.int r)) sh dz) av s 0 0 A) (F0 m 85 ls []) := by
    intro q0 x1 x3 d hf H locs ls hl G
    unfold k_X10_tried_85 at hf
    refine lv_aload_n hx hb dX10_tried_85 rfl (lv_at hl 0 rfl) ?_
    refine lv_iload_n hx hb dX10_tried_86 rfl (lv_at hl 1 rfl) ?_
    obtain ⟨d1, hd1, hf⟩ := x_ob hf
    refine xr_putI (ci := 10) (k := 50) S G hd1 rfl kw_1218 dX10_tried_87 (fun H locs G => ?_)
    refine lv_aload_n hx hb dX10_tried_90 rfl (lv_at hl 0 rfl) ?_
    refine lv_iload_n hx hb dX10_tried_91 rfl (lv_at hl 2 rfl) ?_
    obtain ⟨d2, hd2, hf⟩ := x_ob hf
    obtain ⟨hqd2, hd2⟩ := xon_of hd2
    refine xr_callV (ci := 10) (As := [.int x3]) (rest := []) (st1 := []) S G hl.1 (fun _ => rfl) (mt_X10_goesOn l D cid b ex sa sv B0 sh q0 x3 d1 _ hd2) hqd2 (by decide) kw_1661 kw_1663 ks_88 kw_17 kw_1664 hd_X10_goesOn ⟨Nat.le_of_ble_eq_true rfl, Nat.le_of_ble_eq_true rfl⟩ rfl rfl rfl (Nat.le_of_ble_eq_true rfl) ⟨Nat.le_of_ble_eq_true rfl, Nat.le_of_ble_eq_true rfl⟩ dX10_tried_92 (fun H locs G => ?_)
    refine lv_aload_n hx hb dX10_tried_95 rfl (lv_at hl 0 rfl) ?_
    refine lv_iconst (v := (0 : Int32)) hx hb dX10_tried_96 (by decide) ?_
    obtain ⟨d3, hd3, hf⟩ := x_ob hf
    refine xr_putI (ci := 10) (k := 50) S G hd3 rfl kw_1218 dX10_tried_97 (fun H locs G => ?_)
    refine lv_aload_n hx hb dX10_tried_100 rfl (lv_at hl 0 rfl) ?_
    obtain ⟨v4, hv4, hf⟩ := x_ob hf
    refine xr_getR (ci := 10) (k := 37) S G hv4 rfl kw_1205 dX10_tried_101 ?_
    refine lv_iconst (v := (1 : Int32)) hx hb dX10_tried_104 (by decide) ?_
    obtain ⟨v5, hv5, hf⟩ := x_ob hf
    refine xr_iald S G hv5 dX10_tried_105 ?_
    refine lv_aload_n hx hb dX10_tried_106 rfl (lv_at hl 0 rfl) ?_
    obtain ⟨v6, hv6, hf⟩ := x_ob hf
    refine xr_getR (ci := 10) (k := 37) S G hv6 rfl kw_1205 dX10_tried_107 ?_
    refine lv_iconst (v := (0 : Int32)) hx hb dX10_tried_110 (by decide) ?_
    obtain ⟨v7, hv7, hf⟩ := x_ob hf
    refine xr_iald S G hv7 dX10_tried_111 ?_
    refine lv_isub hx hb dX10_tried_112 ?_
    cases hf
    exact xr_iret S G (fun _ => rfl) hr dX10_tried_113
  have K73 : ∀ (q0 : Nat) (x1 : Int32) (x3 : Int32) (d : xD), k_X10_tried_73 sh q0 x1 x3 d = some (r, dz) → ∀ (H : Heap) (locs : List Loc) (ls : Array Slot), lv_has ls 5 [(0, .ref (b + q0)), (1, .int x1), (3, .int x3)] → xG D cid b A sh d s H locs → W p l e (xRm 7 0 0) s m av below meth c H locs 0 0 (MQ below (xQ D cid b ex A (some (.int r)) sh dz) av s 0 0 A) (F0 m 73 ls []) := by
    intro q0 x1 x3 d hf H locs ls hl G
    unfold k_X10_tried_73 at hf
    refine lv_iload_n hx hb dX10_tried_73 rfl (lv_at hl 1 rfl) ?_
    refine lv_iconst (v := (3 : Int32)) hx hb dX10_tried_74 (by decide) ?_
    refine lv_icmp_ne (tgt := 85) hx hb dX10_tried_75 (by decide) (fun c => ?_) (fun c => ?_)
    · have hf := x_neg c hf
      exact K85 q0 x1 x3 d hf _ _ ls (lv_sub hl [0, 1, 2] rfl) G
    · have hf := x_pos c hf
      refine lv_aload_n hx hb dX10_tried_78 rfl (lv_at hl 0 rfl) ?_
      obtain ⟨v8, hv8, hf⟩ := x_ob hf
      refine xr_getR (ci := 10) (k := 38) S G hv8 rfl kw_1206 dX10_tried_79 ?_
      refine lv_iconst (v := (1 : Int32)) hx hb dX10_tried_82 (by decide) ?_
      refine lv_iconst (v := (0 : Int32)) hx hb dX10_tried_83 (by decide) ?_
      obtain ⟨d9, hd9, hf⟩ := x_ob hf
      refine xr_iast S G hd9 dX10_tried_84 (fun H locs G => ?_)
      exact K85 q0 x1 x3 d9 hf _ _ ls (lv_sub hl [0, 1, 2] rfl) G
  have K36 : ∀ (q0 : Nat) (x1 : Int32) (x2 : Int32) (x3 : Int32) (y0 : Int32) (d : xD), k_X10_tried_36 sh q0 x1 x2 x3 y0 d = some (r, dz) → ∀ (H : Heap) (locs : List Loc) (ls : Array Slot), lv_has ls 5 [(0, .ref (b + q0)), (1, .int x1), (2, .int x2), (3, .int x3)] → xG D cid b A sh d s H locs → W p l e (xRm 7 0 0) s m av below meth c H locs 0 0 (MQ below (xQ D cid b ex A (some (.int r)) sh dz) av s 0 0 A) (F0 m 36 ls [.int y0]) := by
    intro q0 x1 x2 x3 y0 d hf H locs ls hl G
    unfold k_X10_tried_36 at hf
    refine lv_istore (lv' := [(4, .int y0), (0, .ref (b + q0)), (1, .int x1), (2, .int x2), (3, .int x3)]) hx hb dX10_tried_36 hl (by decide) rfl (fun ls hl => ?_)
    refine lv_iload hx hb dX10_tried_38 (lv_at hl 0 rfl) ?_
    refine lv_if_eq (tgt := 54) hx hb dX10_tried_40 (by decide) (fun c => ?_) (fun c => ?_)
    · have hf := x_pos c hf
      exact K54 d hf _ _ ls (lv_sub hl [] rfl) G
    · have hf := x_neg c hf
      refine lv_iload_n hx hb dX10_tried_43 rfl (lv_at hl 4 rfl) ?_
      refine lv_if_lt (tgt := 54) hx hb dX10_tried_44 (by decide) (fun c => ?_) (fun c => ?_)
      · have hf := x_pos c hf
        exact K54 d hf _ _ ls (lv_sub hl [] rfl) G
      · have hf := x_neg c hf
        refine lv_iload_n hx hb dX10_tried_47 rfl (lv_at hl 4 rfl) ?_
        refine lv_sipush (v := (200 : Int32)) hx hb dX10_tried_48 (by decide) ?_
        refine lv_icmp_le (tgt := 56) hx hb dX10_tried_51 (by decide) (fun c => ?_) (fun c => ?_)
        · have hf := x_pos c hf
          refine lv_aload_n hx hb dX10_tried_56 rfl (lv_at hl 1 rfl) ?_
          refine lv_iconst (v := (1 : Int32)) hx hb dX10_tried_57 (by decide) ?_
          refine lv_iconst (v := (0 : Int32)) hx hb dX10_tried_58 (by decide) ?_
          obtain ⟨d10, hd10, hf⟩ := x_ob hf
          obtain ⟨hqd10, hd10⟩ := xon_of hd10
          refine xr_callV (ci := 10) (As := [.int (1 : Int32), .int (0 : Int32)]) (rest := []) (st1 := []) S G hl.1 (fun _ => rfl) (mt_X10_copies l D cid b ex sa sv B0 sh q0 (1 : Int32) (0 : Int32) d _ hd10) hqd10 (by decide) kw_1580 kw_1582 ks_73 kw_17 kw_1583 hd_X10_copies ⟨Nat.le_of_ble_eq_true rfl, Nat.le_of_ble_eq_true rfl⟩ rfl rfl rfl (Nat.le_of_ble_eq_true rfl) ⟨Nat.le_of_ble_eq_true rfl, Nat.le_of_ble_eq_true rfl⟩ dX10_tried_59 (fun H locs G => ?_)
          refine lv_iload_n hx hb dX10_tried_62 rfl (lv_at hl 2 rfl) ?_
          refine lv_iconst (v := (2 : Int32)) hx hb dX10_tried_63 (by decide) ?_
          refine lv_icmp_ne (tgt := 73) hx hb dX10_tried_64 (by decide) (fun c => ?_) (fun c => ?_)
          · have hf := x_neg c hf
            exact K73 q0 x1 x3 d10 hf _ _ ls (lv_sub hl [1, 2, 4] rfl) G
          · have hf := x_pos c hf
            refine lv_aload_n hx hb dX10_tried_67 rfl (lv_at hl 1 rfl) ?_
            refine lv_iconst (v := (1 : Int32)) hx hb dX10_tried_68 (by decide) ?_
            refine lv_iload_n hx hb dX10_tried_69 rfl (lv_at hl 3 rfl) ?_
            obtain ⟨d11, hd11, hf⟩ := x_ob hf
            obtain ⟨hqd11, hd11⟩ := xon_of hd11
            refine xr_callV (ci := 10) (As := [.int (1 : Int32), .int x2]) (rest := []) (st1 := []) S G hl.1 (fun _ => rfl) (mt_X10_goesOut l D cid b ex sa sv B0 sh q0 (1 : Int32) x2 d10 _ hd11) hqd11 (by decide) kw_1624 kw_1626 ks_81 kw_17 kw_1627 hd_X10_goesOut ⟨Nat.le_of_ble_eq_true rfl, Nat.le_of_ble_eq_true rfl⟩ rfl rfl rfl (Nat.le_of_ble_eq_true rfl) ⟨Nat.le_of_ble_eq_true rfl, Nat.le_of_ble_eq_true rfl⟩ dX10_tried_70 (fun H locs G => ?_)
            exact K73 q0 x1 x3 d11 hf _ _ ls (lv_sub hl [1, 2, 4] rfl) G
        · have hf := x_neg c hf
          exact K54 d hf _ _ ls (lv_sub hl [] rfl) G
  have K35 : ∀ (q0 : Nat) (x1 : Int32) (x2 : Int32) (x3 : Int32) (d : xD), k_X10_tried_35 sh q0 x1 x2 x3 d = some (r, dz) → ∀ (H : Heap) (locs : List Loc) (ls : Array Slot), lv_has ls 5 [(0, .ref (b + q0)), (1, .int x1), (2, .int x2), (3, .int x3)] → xG D cid b A sh d s H locs → W p l e (xRm 7 0 0) s m av below meth c H locs 0 0 (MQ below (xQ D cid b ex A (some (.int r)) sh dz) av s 0 0 A) (F0 m 35 ls []) := by
    intro q0 x1 x2 x3 d hf H locs ls hl G
    unfold k_X10_tried_35 at hf
    refine lv_iconst (v := (0 : Int32)) hx hb dX10_tried_35 (by decide) ?_
    exact K36 q0 x1 x2 x3 (0 : Int32) d hf _ _ ls (lv_sub hl [0, 1, 2, 3] rfl) G
  unfold f_X10_tried at hf
  refine lv_aload_n hx hb dX10_tried_0 rfl (lv_at hl 0 rfl) ?_
  refine lv_iconst (v := (0 : Int32)) hx hb dX10_tried_1 (by decide) ?_
  obtain ⟨d12, hd12, hf⟩ := x_ob hf
  refine xr_putI (ci := 10) (k := 0) S G hd12 rfl kw_1168 dX10_tried_2 (fun H locs G => ?_)
  refine lv_iload_n hx hb dX10_tried_5 rfl (lv_at hl 1 rfl) ?_
  refine lv_iconst (v := (2 : Int32)) hx hb dX10_tried_6 (by decide) ?_
  refine lv_icmp_ne (tgt := 18) hx hb dX10_tried_7 (by decide) (fun c => ?_) (fun c => ?_)
  · have hf := x_neg c hf
    refine lv_iload_n hx hb dX10_tried_18 rfl (lv_at hl 1 rfl) ?_
    refine lv_if_lt (tgt := 35) hx hb dX10_tried_19 (by decide) (fun c => ?_) (fun c => ?_)
    · have hf := x_pos c hf
      exact K35 q0 x1 x2 x3 d12 hf _ _ ls (lv_sub hl [0, 1, 2, 3] rfl) G
    · have hf := x_neg c hf
      refine lv_iload_n hx hb dX10_tried_22 rfl (lv_at hl 1 rfl) ?_
      refine lv_iconst (v := (5 : Int32)) hx hb dX10_tried_23 (by decide) ?_
      refine lv_icmp_gt (tgt := 35) hx hb dX10_tried_24 (by decide) (fun c => ?_) (fun c => ?_)
      · have hf := x_pos c hf
        exact K35 q0 x1 x2 x3 d12 hf _ _ ls (lv_sub hl [0, 1, 2, 3] rfl) G
      · have hf := x_neg c hf
        refine lv_iload_n hx hb dX10_tried_27 rfl (lv_at hl 2 rfl) ?_
        refine lv_if_ne (tgt := 35) hx hb dX10_tried_28 (by decide) (fun c => ?_) (fun c => ?_)
        · have hf := x_neg c hf
          exact K35 q0 x1 x2 x3 d12 hf _ _ ls (lv_sub hl [0, 1, 2, 3] rfl) G
        · have hf := x_pos c hf
          refine lv_iconst (v := (1 : Int32)) hx hb dX10_tried_31 (by decide) ?_
          refine lv_goto (tgt := 36) hx hb dX10_tried_32 (by decide) ?_
          exact K36 q0 x1 x2 x3 (1 : Int32) d12 hf _ _ ls (lv_sub hl [0, 1, 2, 3] rfl) G
  · have hf := x_pos c hf
    refine lv_aload_n hx hb dX10_tried_10 rfl (lv_at hl 0 rfl) ?_
    refine lv_iload_n hx hb dX10_tried_11 rfl (lv_at hl 2 rfl) ?_
    obtain ⟨z13, hz13, hf⟩ := x_ob hf
    obtain ⟨hqz13, hz13⟩ := xon_of hz13
    refine xr_callV (ci := 10) (As := [.int x2]) (rest := []) (st1 := [.int z13.1]) S G hl.1 (fun _ => rfl) (mt_X10_isWalker l D cid b ex sa sv B0 sh q0 x2 d12 _ _ hz13) hqz13 (by decide) kw_1504 kw_1506 ks_62 kw_17 kw_1507 hd_X10_isWalker ⟨Nat.le_of_ble_eq_true rfl, Nat.le_of_ble_eq_true rfl⟩ rfl rfl rfl (Nat.le_of_ble_eq_true rfl) ⟨Nat.le_of_ble_eq_true rfl, Nat.le_of_ble_eq_true rfl⟩ dX10_tried_12 (fun H locs G => ?_)
    refine lv_goto (tgt := 36) hx hb dX10_tried_15 (by decide) ?_
    exact K36 q0 x1 x2 x3 z13.1 z13.2 hf _ _ ls (lv_sub hl [0, 1, 2, 3] rfl) G
-- HalfLandingsModel.undo()I
theorem dX10_undo_0 : decode cX10_undo 0 = .ok (.aload_n 0, 1) := by decide +kernel
theorem dX10_undo_1 : decode cX10_undo 1 = .ok (.iconst 0, 1) := by decide +kernel
theorem dX10_undo_2 : decode cX10_undo 2 = .ok (.putfield 145, 3) := by decide +kernel
theorem dX10_undo_5 : decode cX10_undo 5 = .ok (.aload_n 0, 1) := by decide +kernel
theorem dX10_undo_6 : decode cX10_undo 6 = .ok (.getfield 302, 3) := by decide +kernel
theorem dX10_undo_9 : decode cX10_undo 9 = .ok (.ifCond .ne 5, 3) := by decide +kernel
theorem dX10_undo_12 : decode cX10_undo 12 = .ok (.iconst (-1), 1) := by decide +kernel
theorem dX10_undo_13 : decode cX10_undo 13 = .ok (.ireturn, 1) := by decide +kernel
theorem dX10_undo_14 : decode cX10_undo 14 = .ok (.aload_n 0, 1) := by decide +kernel
theorem dX10_undo_15 : decode cX10_undo 15 = .ok (.dup, 1) := by decide +kernel
theorem dX10_undo_16 : decode cX10_undo 16 = .ok (.getfield 302, 3) := by decide +kernel
theorem dX10_undo_19 : decode cX10_undo 19 = .ok (.iconst 1, 1) := by decide +kernel
theorem dX10_undo_20 : decode cX10_undo 20 = .ok (.isub, 1) := by decide +kernel
theorem dX10_undo_21 : decode cX10_undo 21 = .ok (.putfield 302, 3) := by decide +kernel
theorem dX10_undo_24 : decode cX10_undo 24 = .ok (.aload_n 0, 1) := by decide +kernel
theorem dX10_undo_25 : decode cX10_undo 25 = .ok (.iconst 0, 1) := by decide +kernel
theorem dX10_undo_26 : decode cX10_undo 26 = .ok (.iconst 3, 1) := by decide +kernel
theorem dX10_undo_27 : decode cX10_undo 27 = .ok (.aload_n 0, 1) := by decide +kernel
theorem dX10_undo_28 : decode cX10_undo 28 = .ok (.getfield 302, 3) := by decide +kernel
theorem dX10_undo_31 : decode cX10_undo 31 = .ok (.iadd, 1) := by decide +kernel
theorem dX10_undo_32 : decode cX10_undo 32 = .ok (.invokevirtual 413, 3) := by decide +kernel
theorem dX10_undo_35 : decode cX10_undo 35 = .ok (.aload_n 0, 1) := by decide +kernel
theorem dX10_undo_36 : decode cX10_undo 36 = .ok (.getfield 302, 3) := by decide +kernel
theorem dX10_undo_39 : decode cX10_undo 39 = .ok (.ireturn, 1) := by decide +kernel
theorem hd_X10_undo : yX10_undo.cls = xCn 10 ∧ yX10_undo.cls ≠ "java/lang/invoke/MethodHandle" ∧ yX10_undo.cls ≠ "java/lang/invoke/VarHandle" ∧ (parseMethodDescriptor yX10_undo.desc).map (fun d => d.parameters.length) = some 0 := by decide +kernel
def f_X10_undo (sh : List xSh) (q0 : Nat) (d : xD) : Option (Int32 × xD) :=
  (xpI 10 sh d q0 0 (0 : Int32)).bind fun d1 => (xgI 10 sh d1 q0 49).bind fun v2 => if v2 = 0 then (some ((-1 : Int32), d1)) else ((xgI 10 sh d1 q0 49).bind fun v3 => (xpI 10 sh d1 q0 49 (v3 - (1 : Int32))).bind fun d4 => (xgI 10 sh d4 q0 49).bind fun v5 => (xon 10 sh q0 (f_X10_copies sh q0 (0 : Int32) ((3 : Int32) + v5) d4)).bind fun d6 => (xgI 10 sh d6 q0 49).bind fun v7 => some (v7, d6))
set_option maxHeartbeats 4000000 in
set_option maxRecDepth 100000 in
theorem mt_X10_undo (l : Launch) (D : va_G) (cid : FieldType → ClassId) (b : Nat) (ex : Bool) (sa sv B0 : Nat) (sh : List xSh) (q0 : Nat) (d : xD) (r : Int32) (dz : xD) (hf : f_X10_undo sh q0 d = some (r, dz)) : xMet l yX10_undo cX10_undo 1 (some .int) 1 0 0 D cid b ex sa sv B0 [.ref (b + q0)] sh d (some (.int r)) sh dz := by
  refine xMet.of (by decide) (Nat.le_of_ble_eq_true rfl) ?_
  intro p e s m below meth c ls A S hr hin G hl
  have hl : lv_has ls 1 [(0, .ref (b + q0))] := hl
  generalize ([.ref (b + q0)] : List Value).toArray = av at S ⊢
  have hx := S.1
  have hb := S.2.1
  have hml := S.2.2.1
  have hown := S.2.2.2.1
  have hts := S.2.2.2.2.1
  unfold f_X10_undo at hf
  refine lv_aload_n hx hb dX10_undo_0 rfl (lv_at hl 0 rfl) ?_
  refine lv_iconst (v := (0 : Int32)) hx hb dX10_undo_1 (by decide) ?_
  obtain ⟨d1, hd1, hf⟩ := x_ob hf
  refine xr_putI (ci := 10) (k := 0) S G hd1 rfl kw_1168 dX10_undo_2 (fun H locs G => ?_)
  refine lv_aload_n hx hb dX10_undo_5 rfl (lv_at hl 0 rfl) ?_
  obtain ⟨v2, hv2, hf⟩ := x_ob hf
  refine xr_getI (ci := 10) (k := 49) S G hv2 rfl kw_1217 dX10_undo_6 ?_
  refine lv_if_ne (tgt := 14) hx hb dX10_undo_9 (by decide) (fun c => ?_) (fun c => ?_)
  · have hf := x_neg c hf
    refine lv_aload_n hx hb dX10_undo_14 rfl (lv_at hl 0 rfl) ?_
    refine lv_dup hx hb dX10_undo_15 rfl ?_
    obtain ⟨v3, hv3, hf⟩ := x_ob hf
    refine xr_getI (ci := 10) (k := 49) S G hv3 rfl kw_1217 dX10_undo_16 ?_
    refine lv_iconst (v := (1 : Int32)) hx hb dX10_undo_19 (by decide) ?_
    refine lv_isub hx hb dX10_undo_20 ?_
    obtain ⟨d4, hd4, hf⟩ := x_ob hf
    refine xr_putI (ci := 10) (k := 49) S G hd4 rfl kw_1217 dX10_undo_21 (fun H locs G => ?_)
    refine lv_aload_n hx hb dX10_undo_24 rfl (lv_at hl 0 rfl) ?_
    refine lv_iconst (v := (0 : Int32)) hx hb dX10_undo_25 (by decide) ?_
    refine lv_iconst (v := (3 : Int32)) hx hb dX10_undo_26 (by decide) ?_
    refine lv_aload_n hx hb dX10_undo_27 rfl (lv_at hl 0 rfl) ?_
    obtain ⟨v5, hv5, hf⟩ := x_ob hf
    refine xr_getI (ci := 10) (k := 49) S G hv5 rfl kw_1217 dX10_undo_28 ?_
    refine lv_iadd hx hb dX10_undo_31 ?_
    obtain ⟨d6, hd6, hf⟩ := x_ob hf
    obtain ⟨hqd6, hd6⟩ := xon_of hd6
    refine xr_callV (ci := 10) (As := [.int (0 : Int32), .int ((3 : Int32) + v5)]) (rest := []) (st1 := []) S G hl.1 (fun _ => rfl) (mt_X10_copies l D cid b ex sa sv B0 sh q0 (0 : Int32) ((3 : Int32) + v5) d4 _ hd6) hqd6 (by decide) kw_1580 kw_1582 ks_73 kw_17 kw_1583 hd_X10_copies ⟨Nat.le_of_ble_eq_true rfl, Nat.le_of_ble_eq_true rfl⟩ rfl rfl rfl (Nat.le_of_ble_eq_true rfl) ⟨Nat.le_of_ble_eq_true rfl, Nat.le_of_ble_eq_true rfl⟩ dX10_undo_32 (fun H locs G => ?_)
    refine lv_aload_n hx hb dX10_undo_35 rfl (lv_at hl 0 rfl) ?_
    obtain ⟨v7, hv7, hf⟩ := x_ob hf
    refine xr_getI (ci := 10) (k := 49) S G hv7 rfl kw_1217 dX10_undo_36 ?_
    cases hf
    exact xr_iret S G (fun _ => rfl) hr dX10_undo_39
  · have hf := x_pos c hf
    refine lv_iconst (v := (-1 : Int32)) hx hb dX10_undo_12 (by decide) ?_
    cases hf
    exact xr_iret S G (fun _ => rfl) hr dX10_undo_13
-- HalfLandingsModel.keep()I
theorem dX10_keep_0 : decode cX10_keep 0 = .ok (.aload_n 0, 1) := by decide +kernel
theorem dX10_keep_1 : decode cX10_keep 1 = .ok (.iconst 0, 1) := by decide +kernel
theorem dX10_keep_2 : decode cX10_keep 2 = .ok (.putfield 145, 3) := by decide +kernel
theorem dX10_keep_5 : decode cX10_keep 5 = .ok (.aload_n 0, 1) := by decide +kernel
theorem dX10_keep_6 : decode cX10_keep 6 = .ok (.iconst 2, 1) := by decide +kernel
theorem dX10_keep_7 : decode cX10_keep 7 = .ok (.iconst 0, 1) := by decide +kernel
theorem dX10_keep_8 : decode cX10_keep 8 = .ok (.invokevirtual 413, 3) := by decide +kernel
theorem dX10_keep_11 : decode cX10_keep 11 = .ok (.aload_n 0, 1) := by decide +kernel
theorem dX10_keep_12 : decode cX10_keep 12 = .ok (.iconst 1, 1) := by decide +kernel
theorem dX10_keep_13 : decode cX10_keep 13 = .ok (.putfield 298, 3) := by decide +kernel
theorem dX10_keep_16 : decode cX10_keep 16 = .ok (.aload_n 0, 1) := by decide +kernel
theorem dX10_keep_17 : decode cX10_keep 17 = .ok (.getfield 72, 3) := by decide +kernel
theorem dX10_keep_20 : decode cX10_keep 20 = .ok (.iconst 0, 1) := by decide +kernel
theorem dX10_keep_21 : decode cX10_keep 21 = .ok (.iaload, 1) := by decide +kernel
theorem dX10_keep_22 : decode cX10_keep 22 = .ok (.ireturn, 1) := by decide +kernel
theorem hd_X10_keep : yX10_keep.cls = xCn 10 ∧ yX10_keep.cls ≠ "java/lang/invoke/MethodHandle" ∧ yX10_keep.cls ≠ "java/lang/invoke/VarHandle" ∧ (parseMethodDescriptor yX10_keep.desc).map (fun d => d.parameters.length) = some 0 := by decide +kernel
def f_X10_keep (sh : List xSh) (q0 : Nat) (d : xD) : Option (Int32 × xD) :=
  (xpI 10 sh d q0 0 (0 : Int32)).bind fun d1 => (xon 10 sh q0 (f_X10_copies sh q0 (2 : Int32) (0 : Int32) d1)).bind fun d2 => (xpI 10 sh d2 q0 48 (1 : Int32)).bind fun d3 => (xgR 10 sh d3 q0 35).bind fun v4 => (xaI .int sh d3 v4 (0 : Int32)).bind fun v5 => some (v5, d3)
set_option maxHeartbeats 4000000 in
set_option maxRecDepth 100000 in
theorem mt_X10_keep (l : Launch) (D : va_G) (cid : FieldType → ClassId) (b : Nat) (ex : Bool) (sa sv B0 : Nat) (sh : List xSh) (q0 : Nat) (d : xD) (r : Int32) (dz : xD) (hf : f_X10_keep sh q0 d = some (r, dz)) : xMet l yX10_keep cX10_keep 1 (some .int) 1 0 0 D cid b ex sa sv B0 [.ref (b + q0)] sh d (some (.int r)) sh dz := by
  refine xMet.of (by decide) (Nat.le_of_ble_eq_true rfl) ?_
  intro p e s m below meth c ls A S hr hin G hl
  have hl : lv_has ls 1 [(0, .ref (b + q0))] := hl
  generalize ([.ref (b + q0)] : List Value).toArray = av at S ⊢
  have hx := S.1
  have hb := S.2.1
  have hml := S.2.2.1
  have hown := S.2.2.2.1
  have hts := S.2.2.2.2.1
  unfold f_X10_keep at hf
  refine lv_aload_n hx hb dX10_keep_0 rfl (lv_at hl 0 rfl) ?_
  refine lv_iconst (v := (0 : Int32)) hx hb dX10_keep_1 (by decide) ?_
  obtain ⟨d1, hd1, hf⟩ := x_ob hf
  refine xr_putI (ci := 10) (k := 0) S G hd1 rfl kw_1168 dX10_keep_2 (fun H locs G => ?_)
  refine lv_aload_n hx hb dX10_keep_5 rfl (lv_at hl 0 rfl) ?_
  refine lv_iconst (v := (2 : Int32)) hx hb dX10_keep_6 (by decide) ?_
  refine lv_iconst (v := (0 : Int32)) hx hb dX10_keep_7 (by decide) ?_
  obtain ⟨d2, hd2, hf⟩ := x_ob hf
  obtain ⟨hqd2, hd2⟩ := xon_of hd2
  refine xr_callV (ci := 10) (As := [.int (2 : Int32), .int (0 : Int32)]) (rest := []) (st1 := []) S G hl.1 (fun _ => rfl) (mt_X10_copies l D cid b ex sa sv B0 sh q0 (2 : Int32) (0 : Int32) d1 _ hd2) hqd2 (by decide) kw_1580 kw_1582 ks_73 kw_17 kw_1583 hd_X10_copies ⟨Nat.le_of_ble_eq_true rfl, Nat.le_of_ble_eq_true rfl⟩ rfl rfl rfl (Nat.le_of_ble_eq_true rfl) ⟨Nat.le_of_ble_eq_true rfl, Nat.le_of_ble_eq_true rfl⟩ dX10_keep_8 (fun H locs G => ?_)
  refine lv_aload_n hx hb dX10_keep_11 rfl (lv_at hl 0 rfl) ?_
  refine lv_iconst (v := (1 : Int32)) hx hb dX10_keep_12 (by decide) ?_
  obtain ⟨d3, hd3, hf⟩ := x_ob hf
  refine xr_putI (ci := 10) (k := 48) S G hd3 rfl kw_1216 dX10_keep_13 (fun H locs G => ?_)
  refine lv_aload_n hx hb dX10_keep_16 rfl (lv_at hl 0 rfl) ?_
  obtain ⟨v4, hv4, hf⟩ := x_ob hf
  refine xr_getR (ci := 10) (k := 35) S G hv4 rfl kw_1203 dX10_keep_17 ?_
  refine lv_iconst (v := (0 : Int32)) hx hb dX10_keep_20 (by decide) ?_
  obtain ⟨v5, hv5, hf⟩ := x_ob hf
  refine xr_iald S G hv5 dX10_keep_21 ?_
  cases hf
  exact xr_iret S G (fun _ => rfl) hr dX10_keep_22

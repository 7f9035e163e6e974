-- HalfLandings$Undone.takeBack(LHalfLandings$Scene;)V
theorem dX8_takeBack_0 : decode cX8_takeBack 0 = .ok (.aload_n 0, 1) := by decide +kernel
theorem dX8_takeBack_1 : decode cX8_takeBack 1 = .ok (.dup, 1) := by decide +kernel
theorem dX8_takeBack_2 : decode cX8_takeBack 2 = .ok (.getfield 9, 3) := by decide +kernel
theorem dX8_takeBack_5 : decode cX8_takeBack 5 = .ok (.iconst 1, 1) := by decide +kernel
theorem dX8_takeBack_6 : decode cX8_takeBack 6 = .ok (.isub, 1) := by decide +kernel
theorem dX8_takeBack_7 : decode cX8_takeBack 7 = .ok (.putfield 9, 3) := by decide +kernel
theorem dX8_takeBack_10 : decode cX8_takeBack 10 = .ok (.aload_n 0, 1) := by decide +kernel
theorem dX8_takeBack_11 : decode cX8_takeBack 11 = .ok (.getfield 15, 3) := by decide +kernel
theorem dX8_takeBack_14 : decode cX8_takeBack 14 = .ok (.aload_n 0, 1) := by decide +kernel
theorem dX8_takeBack_15 : decode cX8_takeBack 15 = .ok (.getfield 9, 3) := by decide +kernel
theorem dX8_takeBack_18 : decode cX8_takeBack 18 = .ok (.iaload, 1) := by decide +kernel
theorem dX8_takeBack_19 : decode cX8_takeBack 19 = .ok (.istore_n 2, 1) := by decide +kernel
theorem dX8_takeBack_20 : decode cX8_takeBack 20 = .ok (.iload_n 2, 1) := by decide +kernel
theorem dX8_takeBack_21 : decode cX8_takeBack 21 = .ok (.iconst (-1), 1) := by decide +kernel
theorem dX8_takeBack_22 : decode cX8_takeBack 22 = .ok (.if_icmp .ne 19, 3) := by decide +kernel
theorem dX8_takeBack_25 : decode cX8_takeBack 25 = .ok (.aload_n 1, 1) := by decide +kernel
theorem dX8_takeBack_26 : decode cX8_takeBack 26 = .ok (.aload_n 0, 1) := by decide +kernel
theorem dX8_takeBack_27 : decode cX8_takeBack 27 = .ok (.getfield 19, 3) := by decide +kernel
theorem dX8_takeBack_30 : decode cX8_takeBack 30 = .ok (.aload_n 0, 1) := by decide +kernel
theorem dX8_takeBack_31 : decode cX8_takeBack 31 = .ok (.getfield 9, 3) := by decide +kernel
theorem dX8_takeBack_34 : decode cX8_takeBack 34 = .ok (.iaload, 1) := by decide +kernel
theorem dX8_takeBack_35 : decode cX8_takeBack 35 = .ok (.putfield 28, 3) := by decide +kernel
theorem dX8_takeBack_38 : decode cX8_takeBack 38 = .ok (.goto 37, 3) := by decide +kernel
theorem dX8_takeBack_41 : decode cX8_takeBack 41 = .ok (.aload_n 0, 1) := by decide +kernel
theorem dX8_takeBack_42 : decode cX8_takeBack 42 = .ok (.getfield 19, 3) := by decide +kernel
theorem dX8_takeBack_45 : decode cX8_takeBack 45 = .ok (.aload_n 0, 1) := by decide +kernel
theorem dX8_takeBack_46 : decode cX8_takeBack 46 = .ok (.getfield 9, 3) := by decide +kernel
theorem dX8_takeBack_49 : decode cX8_takeBack 49 = .ok (.iaload, 1) := by decide +kernel
theorem dX8_takeBack_50 : decode cX8_takeBack 50 = .ok (.ifCond .ne 11, 3) := by decide +kernel
theorem dX8_takeBack_53 : decode cX8_takeBack 53 = .ok (.aload_n 1, 1) := by decide +kernel
theorem dX8_takeBack_54 : decode cX8_takeBack 54 = .ok (.iload_n 2, 1) := by decide +kernel
theorem dX8_takeBack_55 : decode cX8_takeBack 55 = .ok (.invokevirtual 33, 3) := by decide +kernel
theorem dX8_takeBack_58 : decode cX8_takeBack 58 = .ok (.goto 17, 3) := by decide +kernel
theorem dX8_takeBack_61 : decode cX8_takeBack 61 = .ok (.aload_n 1, 1) := by decide +kernel
theorem dX8_takeBack_62 : decode cX8_takeBack 62 = .ok (.iload_n 2, 1) := by decide +kernel
theorem dX8_takeBack_63 : decode cX8_takeBack 63 = .ok (.aload_n 0, 1) := by decide +kernel
theorem dX8_takeBack_64 : decode cX8_takeBack 64 = .ok (.getfield 19, 3) := by decide +kernel
theorem dX8_takeBack_67 : decode cX8_takeBack 67 = .ok (.aload_n 0, 1) := by decide +kernel
theorem dX8_takeBack_68 : decode cX8_takeBack 68 = .ok (.getfield 9, 3) := by decide +kernel
theorem dX8_takeBack_71 : decode cX8_takeBack 71 = .ok (.iaload, 1) := by decide +kernel
theorem dX8_takeBack_72 : decode cX8_takeBack 72 = .ok (.invokevirtual 37, 3) := by decide +kernel
theorem dX8_takeBack_75 : decode cX8_takeBack 75 = .ok (.return_, 1) := by decide +kernel
theorem hd_X8_takeBack : yX8_takeBack.cls = xCn 8 ∧ yX8_takeBack.cls ≠ "java/lang/invoke/MethodHandle" ∧ yX8_takeBack.cls ≠ "java/lang/invoke/VarHandle" ∧ (parseMethodDescriptor yX8_takeBack.desc).map (fun d => d.parameters.length) = some 1 := by decide +kernel
def k_X8_takeBack_75 (sh : List xSh) (d : xD) : Option xD :=
  some d
def f_X8_takeBack (sh : List xSh) (q0 : Nat) (q1 : Nat) (d : xD) : Option xD :=
  (xgI 8 sh d q0 0).bind fun v1 => (xpI 8 sh d q0 0 (v1 - (1 : Int32))).bind fun d2 => (xgR 8 sh d2 q0 1).bind fun v3 => (xgI 8 sh d2 q0 0).bind fun v4 => (xaI .int sh d2 v3 v4).bind fun v5 => if v5 = (-1 : Int32) then ((xgR 8 sh d2 q0 2).bind fun v14 => (xgI 8 sh d2 q0 0).bind fun v15 => (xaI .int sh d2 v14 v15).bind fun v16 => (xpI 4 sh d2 q1 2 v16).bind fun d17 => k_X8_takeBack_75 sh d17) else ((xgR 8 sh d2 q0 2).bind fun v6 => (xgI 8 sh d2 q0 0).bind fun v7 => (xaI .int sh d2 v6 v7).bind fun v8 => if v8 = 0 then ((xon 4 sh q1 (f_X4_stand sh q1 v5 d2)).bind fun d13 => k_X8_takeBack_75 sh d13) else ((xgR 8 sh d2 q0 2).bind fun v9 => (xgI 8 sh d2 q0 0).bind fun v10 => (xaI .int sh d2 v9 v10).bind fun v11 => (xon 4 sh q1 (f_X4_seat sh q1 v5 v11 d2)).bind fun d12 => k_X8_takeBack_75 sh d12))
set_option maxHeartbeats 4000000 in
set_option maxRecDepth 100000 in
theorem mt_X8_takeBack (l : Launch) (D : va_G) (cid : FieldType → ClassId) (b : Nat) (ex : Bool) (sa sv B0 : Nat) (sh : List xSh) (q0 : Nat) (q1 : Nat) (d : xD) (dz : xD) (hf : f_X8_takeBack sh q0 q1 d = some dz) : xMet l yX8_takeBack cX8_takeBack 3 none 1 0 0 D cid b ex sa sv B0 [.ref (b + q0), .ref (b + q1)] sh d none sh dz := by
  refine xMet.of (by decide) (Nat.le_of_ble_eq_true rfl) ?_
  intro p e s m below meth c ls A S hr hin G hl
  have hl : lv_has ls 3 [(0, .ref (b + q0)), (1, .ref (b + q1))] := hl
  generalize ([.ref (b + q0), .ref (b + q1)] : List Value).toArray = av at S ⊢
  have hx := S.1
  have hb := S.2.1
  have hml := S.2.2.1
  have hown := S.2.2.2.1
  have hts := S.2.2.2.2.1
  have K75 : ∀ (d : xD), k_X8_takeBack_75 sh d = some dz → ∀ (H : Heap) (locs : List Loc) (ls : Array Slot), lv_has ls 3 [] → xG D cid b A sh d s H locs → W p l e (xRm 1 0 0) s m av below meth c H locs 0 0 (MQ below (xQ D cid b ex A none sh dz) av s 0 0 A) (F0 m 75 ls []) := by
    intro d hf H locs ls hl G
    unfold k_X8_takeBack_75 at hf
    cases hf
    exact xr_vret S G (fun _ => rfl) hr dX8_takeBack_75
  unfold f_X8_takeBack at hf
  refine lv_aload_n hx hb dX8_takeBack_0 rfl (lv_at hl 0 rfl) ?_
  refine lv_dup hx hb dX8_takeBack_1 rfl ?_
  obtain ⟨v1, hv1, hf⟩ := x_ob hf
  refine xr_getI (ci := 8) (k := 0) S G hv1 rfl kw_424 dX8_takeBack_2 ?_
  refine lv_iconst (v := (1 : Int32)) hx hb dX8_takeBack_5 (by decide) ?_
  refine lv_isub hx hb dX8_takeBack_6 ?_
  obtain ⟨d2, hd2, hf⟩ := x_ob hf
  refine xr_putI (ci := 8) (k := 0) S G hd2 rfl kw_424 dX8_takeBack_7 (fun H locs G => ?_)
  refine lv_aload_n hx hb dX8_takeBack_10 rfl (lv_at hl 0 rfl) ?_
  obtain ⟨v3, hv3, hf⟩ := x_ob hf
  refine xr_getR (ci := 8) (k := 1) S G hv3 rfl kw_426 dX8_takeBack_11 ?_
  refine lv_aload_n hx hb dX8_takeBack_14 rfl (lv_at hl 0 rfl) ?_
  obtain ⟨v4, hv4, hf⟩ := x_ob hf
  refine xr_getI (ci := 8) (k := 0) S G hv4 rfl kw_424 dX8_takeBack_15 ?_
  obtain ⟨v5, hv5, hf⟩ := x_ob hf
  refine xr_iald S G hv5 dX8_takeBack_18 ?_
  refine lv_istore_n (lv' := [(2, .int v5), (0, .ref (b + q0)), (1, .ref (b + q1))]) hx hb dX8_takeBack_19 rfl hl (by decide) rfl (fun ls hl => ?_)
  refine lv_iload_n hx hb dX8_takeBack_20 rfl (lv_at hl 0 rfl) ?_
  refine lv_iconst (v := (-1 : Int32)) hx hb dX8_takeBack_21 (by decide) ?_
  refine lv_icmp_ne (tgt := 41) hx hb dX8_takeBack_22 (by decide) (fun c => ?_) (fun c => ?_)
  · have hf := x_neg c hf
    refine lv_aload_n hx hb dX8_takeBack_41 rfl (lv_at hl 1 rfl) ?_
    obtain ⟨v6, hv6, hf⟩ := x_ob hf
    refine xr_getR (ci := 8) (k := 2) S G hv6 rfl kw_427 dX8_takeBack_42 ?_
    refine lv_aload_n hx hb dX8_takeBack_45 rfl (lv_at hl 1 rfl) ?_
    obtain ⟨v7, hv7, hf⟩ := x_ob hf
    refine xr_getI (ci := 8) (k := 0) S G hv7 rfl kw_424 dX8_takeBack_46 ?_
    obtain ⟨v8, hv8, hf⟩ := x_ob hf
    refine xr_iald S G hv8 dX8_takeBack_49 ?_
    refine lv_if_ne (tgt := 61) hx hb dX8_takeBack_50 (by decide) (fun c => ?_) (fun c => ?_)
    · have hf := x_neg c hf
      refine lv_aload_n hx hb dX8_takeBack_61 rfl (lv_at hl 2 rfl) ?_
      refine lv_iload_n hx hb dX8_takeBack_62 rfl (lv_at hl 0 rfl) ?_
      refine lv_aload_n hx hb dX8_takeBack_63 rfl (lv_at hl 1 rfl) ?_
      obtain ⟨v9, hv9, hf⟩ := x_ob hf
      refine xr_getR (ci := 8) (k := 2) S G hv9 rfl kw_427 dX8_takeBack_64 ?_
      refine lv_aload_n hx hb dX8_takeBack_67 rfl (lv_at hl 1 rfl) ?_
      obtain ⟨v10, hv10, hf⟩ := x_ob hf
      refine xr_getI (ci := 8) (k := 0) S G hv10 rfl kw_424 dX8_takeBack_68 ?_
      obtain ⟨v11, hv11, hf⟩ := x_ob hf
      refine xr_iald S G hv11 dX8_takeBack_71 ?_
      obtain ⟨d12, hd12, hf⟩ := x_ob hf
      obtain ⟨hqd12, hd12⟩ := xon_of hd12
      refine xr_callV (ci := 4) (As := [.int v5, .int v11]) (rest := []) (st1 := []) S G hl.1 (fun _ => rfl) (mt_X4_seat l D cid b ex sa sv B0 sh q1 v5 v11 d2 _ hd12) hqd12 (by decide) kw_1046 kw_804 kw_805 kw_12 kw_806 hd_X4_seat ⟨Nat.le_of_ble_eq_true rfl, Nat.le_of_ble_eq_true rfl⟩ rfl rfl rfl (Nat.le_of_ble_eq_true rfl) ⟨Nat.le_of_ble_eq_true rfl, Nat.le_of_ble_eq_true rfl⟩ dX8_takeBack_72 (fun H locs G => ?_)
      exact K75 d12 hf _ _ ls (lv_sub hl [] rfl) G
    · have hf := x_pos c hf
      refine lv_aload_n hx hb dX8_takeBack_53 rfl (lv_at hl 2 rfl) ?_
      refine lv_iload_n hx hb dX8_takeBack_54 rfl (lv_at hl 0 rfl) ?_
      obtain ⟨d13, hd13, hf⟩ := x_ob hf
      obtain ⟨hqd13, hd13⟩ := xon_of hd13
      refine xr_callV (ci := 4) (As := [.int v5]) (rest := []) (st1 := []) S G hl.1 (fun _ => rfl) (mt_X4_stand l D cid b ex sa sv B0 sh q1 v5 d2 _ hd13) hqd13 (by decide) kw_1045 kw_812 kw_813 kw_12 kw_814 hd_X4_stand ⟨Nat.le_of_ble_eq_true rfl, Nat.le_of_ble_eq_true rfl⟩ rfl rfl rfl (Nat.le_of_ble_eq_true rfl) ⟨Nat.le_of_ble_eq_true rfl, Nat.le_of_ble_eq_true rfl⟩ dX8_takeBack_55 (fun H locs G => ?_)
      refine lv_goto (tgt := 75) hx hb dX8_takeBack_58 (by decide) ?_
      exact K75 d13 hf _ _ ls (lv_sub hl [] rfl) G
  · have hf := x_pos c hf
    refine lv_aload_n hx hb dX8_takeBack_25 rfl (lv_at hl 2 rfl) ?_
    refine lv_aload_n hx hb dX8_takeBack_26 rfl (lv_at hl 1 rfl) ?_
    obtain ⟨v14, hv14, hf⟩ := x_ob hf
    refine xr_getR (ci := 8) (k := 2) S G hv14 rfl kw_427 dX8_takeBack_27 ?_
    refine lv_aload_n hx hb dX8_takeBack_30 rfl (lv_at hl 1 rfl) ?_
    obtain ⟨v15, hv15, hf⟩ := x_ob hf
    refine xr_getI (ci := 8) (k := 0) S G hv15 rfl kw_424 dX8_takeBack_31 ?_
    obtain ⟨v16, hv16, hf⟩ := x_ob hf
    refine xr_iald S G hv16 dX8_takeBack_34 ?_
    obtain ⟨d17, hd17, hf⟩ := x_ob hf
    refine xr_putI (ci := 4) (k := 2) S G hd17 rfl kw_320 dX8_takeBack_35 (fun H locs G => ?_)
    refine lv_goto (tgt := 75) hx hb dX8_takeBack_38 (by decide) ?_
    exact K75 d17 hf _ _ ls (lv_sub hl [] rfl) G
-- HalfLandings.putOnTape(I)V
theorem dX9_putOnTape_0 : decode cX9_putOnTape 0 = .ok (.bipush 24, 2) := by decide +kernel
theorem dX9_putOnTape_2 : decode cX9_putOnTape 2 = .ok (.istore_n 2, 1) := by decide +kernel
theorem dX9_putOnTape_3 : decode cX9_putOnTape 3 = .ok (.iload_n 2, 1) := by decide +kernel
theorem dX9_putOnTape_4 : decode cX9_putOnTape 4 = .ok (.ifCond .lt 32, 3) := by decide +kernel
theorem dX9_putOnTape_7 : decode cX9_putOnTape 7 = .ok (.aload_n 0, 1) := by decide +kernel
theorem dX9_putOnTape_8 : decode cX9_putOnTape 8 = .ok (.getfield 11, 3) := by decide +kernel
theorem dX9_putOnTape_11 : decode cX9_putOnTape 11 = .ok (.aload_n 0, 1) := by decide +kernel
theorem dX9_putOnTape_12 : decode cX9_putOnTape 12 = .ok (.getfield 15, 3) := by decide +kernel
theorem dX9_putOnTape_15 : decode cX9_putOnTape 15 = .ok (.iload_n 1, 1) := by decide +kernel
theorem dX9_putOnTape_16 : decode cX9_putOnTape 16 = .ok (.iload_n 2, 1) := by decide +kernel
theorem dX9_putOnTape_17 : decode cX9_putOnTape 17 = .ok (.ishr, 1) := by decide +kernel
theorem dX9_putOnTape_18 : decode cX9_putOnTape 18 = .ok (.i2b, 1) := by decide +kernel
theorem dX9_putOnTape_19 : decode cX9_putOnTape 19 = .ok (.bastore, 1) := by decide +kernel
theorem dX9_putOnTape_20 : decode cX9_putOnTape 20 = .ok (.aload_n 0, 1) := by decide +kernel
theorem dX9_putOnTape_21 : decode cX9_putOnTape 21 = .ok (.dup, 1) := by decide +kernel
theorem dX9_putOnTape_22 : decode cX9_putOnTape 22 = .ok (.getfield 15, 3) := by decide +kernel
theorem dX9_putOnTape_25 : decode cX9_putOnTape 25 = .ok (.iconst 1, 1) := by decide +kernel
theorem dX9_putOnTape_26 : decode cX9_putOnTape 26 = .ok (.iadd, 1) := by decide +kernel
theorem dX9_putOnTape_27 : decode cX9_putOnTape 27 = .ok (.putfield 15, 3) := by decide +kernel
theorem dX9_putOnTape_30 : decode cX9_putOnTape 30 = .ok (.iinc 2 (-8), 3) := by decide +kernel
theorem dX9_putOnTape_33 : decode cX9_putOnTape 33 = .ok (.goto (-30), 3) := by decide +kernel
theorem dX9_putOnTape_36 : decode cX9_putOnTape 36 = .ok (.return_, 1) := by decide +kernel
theorem hd_X9_putOnTape : yX9_putOnTape.cls = xCn 9 ∧ yX9_putOnTape.cls ≠ "java/lang/invoke/MethodHandle" ∧ yX9_putOnTape.cls ≠ "java/lang/invoke/VarHandle" ∧ (parseMethodDescriptor yX9_putOnTape.desc).map (fun d => d.parameters.length) = some 1 := by decide +kernel
def k_X9_putOnTape_36 (sh : List xSh) (d : xD) : Option xD :=
  some d
def b_X9_putOnTape_3 (sh : List xSh) (rec3 : Nat → Int32 → Int32 → xD → Option xD) (q0 : Nat) (x1 : Int32) (x2 : Int32) (d : xD) : Option xD :=
  if x2 < 0 then (k_X9_putOnTape_36 sh d) else ((xgR 9 sh d q0 0).bind fun v1 => (xgI 9 sh d q0 1).bind fun v2 => (xsI .byte sh d v1 v2 (((x1 >>> (x2 &&& 31))).toInt8.toInt32)).bind fun d3 => (xgI 9 sh d3 q0 1).bind fun v4 => (xpI 9 sh d3 q0 1 (v4 + (1 : Int32))).bind fun d5 => rec3 q0 x1 (x2 + (-8)) d5)
def f_X9_putOnTape (sh : List xSh) (q0 : Nat) (x1 : Int32) (d : xD) : Option xD :=
  xloop (fun _ _ _ _ => none) (b_X9_putOnTape_3 sh) xF q0 x1 (24 : Int32) d
set_option maxHeartbeats 4000000 in
set_option maxRecDepth 100000 in
theorem mt_X9_putOnTape (l : Launch) (D : va_G) (cid : FieldType → ClassId) (b : Nat) (ex : Bool) (sa sv B0 : Nat) (sh : List xSh) (q0 : Nat) (x1 : Int32) (d : xD) (dz : xD) (hf : f_X9_putOnTape sh q0 x1 d = some dz) : xMet l yX9_putOnTape cX9_putOnTape 3 none 0 0 0 D cid b ex sa sv B0 [.ref (b + q0), .int x1] sh d none sh dz := by
  refine xMet.of (by decide) (Nat.le_of_ble_eq_true rfl) ?_
  intro p e s m below meth c ls A S hr hin G hl
  have hl : lv_has ls 3 [(0, .ref (b + q0)), (1, .int x1)] := hl
  generalize ([.ref (b + q0), .int x1] : List Value).toArray = av at S ⊢
  have hx := S.1
  have hb := S.2.1
  have hml := S.2.2.1
  have hown := S.2.2.2.1
  have hts := S.2.2.2.2.1
  have K36 : ∀ (d : xD), k_X9_putOnTape_36 sh d = some dz → ∀ (H : Heap) (locs : List Loc) (ls : Array Slot), lv_has ls 3 [] → xG D cid b A sh d s H locs → W p l e (xRm 0 0 0) s m av below meth c H locs 0 0 (MQ below (xQ D cid b ex A none sh dz) av s 0 0 A) (F0 m 36 ls []) := by
    intro d hf H locs ls hl G
    unfold k_X9_putOnTape_36 at hf
    cases hf
    exact xr_vret S G (fun _ => rfl) hr dX9_putOnTape_36
  have K3 : ∀ (n : Nat) (q0 : Nat) (x1 : Int32) (x2 : Int32) (d : xD), xloop (fun _ _ _ _ => none) (b_X9_putOnTape_3 sh) n q0 x1 x2 d = some dz → ∀ (H : Heap) (locs : List Loc) (ls : Array Slot), lv_has ls 3 [(0, .ref (b + q0)), (1, .int x1), (2, .int x2)] → xG D cid b A sh d s H locs → W p l e (xRm 0 0 0) s m av below meth c H locs 0 0 (MQ below (xQ D cid b ex A none sh dz) av s 0 0 A) (F0 m 3 ls []) := by
    intro n
    induction n with
    | zero =>
      intro q0 x1 x2 d hf
      have hf : (none : Option xD) = some dz := hf
      cases hf
    | succ n hrec3 =>
      intro q0 x1 x2 d hf H locs ls hl G
      have hf : b_X9_putOnTape_3 sh (xloop (fun _ _ _ _ => none) (b_X9_putOnTape_3 sh) n) q0 x1 x2 d = some dz := hf
      unfold b_X9_putOnTape_3 at hf
      refine lv_iload_n hx hb dX9_putOnTape_3 rfl (lv_at hl 2 rfl) ?_
      refine lv_if_lt (tgt := 36) hx hb dX9_putOnTape_4 (by decide) (fun c => ?_) (fun c => ?_)
      · have hf := x_pos c hf
        exact K36 d hf _ _ ls (lv_sub hl [] rfl) G
      · have hf := x_neg c hf
        refine lv_aload_n hx hb dX9_putOnTape_7 rfl (lv_at hl 0 rfl) ?_
        obtain ⟨v1, hv1, hf⟩ := x_ob hf
        refine xr_getR (ci := 9) (k := 0) S G hv1 rfl kw_481 dX9_putOnTape_8 ?_
        refine lv_aload_n hx hb dX9_putOnTape_11 rfl (lv_at hl 0 rfl) ?_
        obtain ⟨v2, hv2, hf⟩ := x_ob hf
        refine xr_getI (ci := 9) (k := 1) S G hv2 rfl kw_482 dX9_putOnTape_12 ?_
        refine lv_iload_n hx hb dX9_putOnTape_15 rfl (lv_at hl 1 rfl) ?_
        refine lv_iload_n hx hb dX9_putOnTape_16 rfl (lv_at hl 2 rfl) ?_
        refine lv_ishr hx hb dX9_putOnTape_17 ?_
        refine lv_i2b (v := ((x1 >>> (x2 &&& 31))).toInt8.toInt32) hx hb dX9_putOnTape_18 rfl ?_
        obtain ⟨d3, hd3, hf⟩ := x_ob hf
        refine xr_bast S G hd3 dX9_putOnTape_19 (fun H locs G => ?_)
        refine lv_aload_n hx hb dX9_putOnTape_20 rfl (lv_at hl 0 rfl) ?_
        refine lv_dup hx hb dX9_putOnTape_21 rfl ?_
        obtain ⟨v4, hv4, hf⟩ := x_ob hf
        refine xr_getI (ci := 9) (k := 1) S G hv4 rfl kw_482 dX9_putOnTape_22 ?_
        refine lv_iconst (v := (1 : Int32)) hx hb dX9_putOnTape_25 (by decide) ?_
        refine lv_iadd hx hb dX9_putOnTape_26 ?_
        obtain ⟨d5, hd5, hf⟩ := x_ob hf
        refine xr_putI (ci := 9) (k := 1) S G hd5 rfl kw_482 dX9_putOnTape_27 (fun H locs G => ?_)
        refine lv_iinc (v := (x2 + (-8))) (lv' := [(2, .int (x2 + (-8))), (0, .ref (b + q0)), (1, .int x1)]) hx hb dX9_putOnTape_30 hl (k := 2) rfl rfl (by decide) rfl (fun ls hl => ?_)
        refine lv_goto (tgt := 3) hx hb dX9_putOnTape_33 (by decide) ?_
        exact hrec3 q0 x1 (x2 + (-8)) d5 hf _ _ ls (lv_sub hl [1, 2, 0] rfl) G
  unfold f_X9_putOnTape at hf
  refine lv_bipush (v := (24 : Int32)) hx hb dX9_putOnTape_0 (by decide) ?_
  refine lv_istore_n (lv' := [(2, .int (24 : Int32)), (0, .ref (b + q0)), (1, .int x1)]) hx hb dX9_putOnTape_2 rfl hl (by decide) rfl (fun ls hl => ?_)
  exact K3 xF q0 x1 (24 : Int32) d hf _ _ ls (lv_sub hl [1, 2, 0] rfl) G
-- HalfLandings.feed(IIIII)I
theorem dX9_feed_0 : decode cX9_feed 0 = .ok (.aload_n 0, 1) := by decide +kernel
theorem dX9_feed_1 : decode cX9_feed 1 = .ok (.getfield 15, 3) := by decide +kernel
theorem dX9_feed_4 : decode cX9_feed 4 = .ok (.bipush 20, 2) := by decide +kernel
theorem dX9_feed_6 : decode cX9_feed 6 = .ok (.iadd, 1) := by decide +kernel
theorem dX9_feed_7 : decode cX9_feed 7 = .ok (.sipush 700, 3) := by decide +kernel
theorem dX9_feed_10 : decode cX9_feed 10 = .ok (.if_icmp .le 5, 3) := by decide +kernel
theorem dX9_feed_13 : decode cX9_feed 13 = .ok (.iconst (-1), 1) := by decide +kernel
theorem dX9_feed_14 : decode cX9_feed 14 = .ok (.ireturn, 1) := by decide +kernel
theorem dX9_feed_15 : decode cX9_feed 15 = .ok (.aload_n 0, 1) := by decide +kernel
theorem dX9_feed_16 : decode cX9_feed 16 = .ok (.iload_n 1, 1) := by decide +kernel
theorem dX9_feed_17 : decode cX9_feed 17 = .ok (.invokevirtual 96, 3) := by decide +kernel
theorem dX9_feed_20 : decode cX9_feed 20 = .ok (.aload_n 0, 1) := by decide +kernel
theorem dX9_feed_21 : decode cX9_feed 21 = .ok (.iload_n 2, 1) := by decide +kernel
theorem dX9_feed_22 : decode cX9_feed 22 = .ok (.invokevirtual 96, 3) := by decide +kernel
theorem dX9_feed_25 : decode cX9_feed 25 = .ok (.aload_n 0, 1) := by decide +kernel
theorem dX9_feed_26 : decode cX9_feed 26 = .ok (.iload_n 3, 1) := by decide +kernel
theorem dX9_feed_27 : decode cX9_feed 27 = .ok (.invokevirtual 96, 3) := by decide +kernel
theorem dX9_feed_30 : decode cX9_feed 30 = .ok (.aload_n 0, 1) := by decide +kernel
theorem dX9_feed_31 : decode cX9_feed 31 = .ok (.iload 4, 2) := by decide +kernel
theorem dX9_feed_33 : decode cX9_feed 33 = .ok (.invokevirtual 96, 3) := by decide +kernel
theorem dX9_feed_36 : decode cX9_feed 36 = .ok (.aload_n 0, 1) := by decide +kernel
theorem dX9_feed_37 : decode cX9_feed 37 = .ok (.iload 5, 2) := by decide +kernel
theorem dX9_feed_39 : decode cX9_feed 39 = .ok (.invokevirtual 96, 3) := by decide +kernel
theorem dX9_feed_42 : decode cX9_feed 42 = .ok (.aload_n 0, 1) := by decide +kernel
theorem dX9_feed_43 : decode cX9_feed 43 = .ok (.getfield 15, 3) := by decide +kernel
theorem dX9_feed_46 : decode cX9_feed 46 = .ok (.ireturn, 1) := by decide +kernel
theorem hd_X9_feed : yX9_feed.cls = xCn 9 ∧ yX9_feed.cls ≠ "java/lang/invoke/MethodHandle" ∧ yX9_feed.cls ≠ "java/lang/invoke/VarHandle" ∧ (parseMethodDescriptor yX9_feed.desc).map (fun d => d.parameters.length) = some 5 := by decide +kernel
def f_X9_feed (sh : List xSh) (q0 : Nat) (x1 : Int32) (x2 : Int32) (x3 : Int32) (x4 : Int32) (x5 : Int32) (d : xD) : Option (Int32 × xD) :=
  (xgI 9 sh d q0 1).bind fun v1 => if (v1 + (20 : Int32)) ≤ (700 : Int32) then ((xon 9 sh q0 (f_X9_putOnTape sh q0 x1 d)).bind fun d2 => (xon 9 sh q0 (f_X9_putOnTape sh q0 x2 d2)).bind fun d3 => (xon 9 sh q0 (f_X9_putOnTape sh q0 x3 d3)).bind fun d4 => (xon 9 sh q0 (f_X9_putOnTape sh q0 x4 d4)).bind fun d5 => (xon 9 sh q0 (f_X9_putOnTape sh q0 x5 d5)).bind fun d6 => (xgI 9 sh d6 q0 1).bind fun v7 => some (v7, d6)) else (some ((-1 : Int32), d))
set_option maxHeartbeats 4000000 in
set_option maxRecDepth 100000 in
theorem mt_X9_feed (l : Launch) (D : va_G) (cid : FieldType → ClassId) (b : Nat) (ex : Bool) (sa sv B0 : Nat) (sh : List xSh) (q0 : Nat) (x1 : Int32) (x2 : Int32) (x3 : Int32) (x4 : Int32) (x5 : Int32) (d : xD) (r : Int32) (dz : xD) (hf : f_X9_feed sh q0 x1 x2 x3 x4 x5 d = some (r, dz)) : xMet l yX9_feed cX9_feed 6 (some .int) 1 0 0 D cid b ex sa sv B0 [.ref (b + q0), .int x1, .int x2, .int x3, .int x4, .int x5] sh d (some (.int r)) sh dz := by
  refine xMet.of (by decide) (Nat.le_of_ble_eq_true rfl) ?_
  intro p e s m below meth c ls A S hr hin G hl
  have hl : lv_has ls 6 [(0, .ref (b + q0)), (1, .int x1), (2, .int x2), (3, .int x3), (4, .int x4), (5, .int x5)] := hl
  generalize ([.ref (b + q0), .int x1, .int x2, .int x3, .int x4, .int x5] : List Value).toArray = av at S ⊢
  have hx := S.1
  have hb := S.2.1
  have hml := S.2.2.1
  have hown := S.2.2.2.1
  have hts := S.2.2.2.2.1
  unfold f_X9_feed at hf
  refine lv_aload_n hx hb dX9_feed_0 rfl (lv_at hl 0 rfl) ?_
  obtain ⟨v1, hv1, hf⟩ := x_ob hf
  refine xr_getI (ci := 9) (k := 1) S G hv1 rfl kw_482 dX9_feed_1 ?_
  refine lv_bipush (v := (20 : Int32)) hx hb dX9_feed_4 (by decide) ?_
  refine lv_iadd hx hb dX9_feed_6 ?_
  refine lv_sipush (v := (700 : Int32)) hx hb dX9_feed_7 (by decide) ?_
  refine lv_icmp_le (tgt := 15) hx hb dX9_feed_10 (by decide) (fun c => ?_) (fun c => ?_)
  · have hf := x_pos c hf
    refine lv_aload_n hx hb dX9_feed_15 rfl (lv_at hl 0 rfl) ?_
    refine lv_iload_n hx hb dX9_feed_16 rfl (lv_at hl 1 rfl) ?_
    obtain ⟨d2, hd2, hf⟩ := x_ob hf
    obtain ⟨hqd2, hd2⟩ := xon_of hd2
    refine xr_callV (ci := 9) (As := [.int x1]) (rest := []) (st1 := []) S G hl.1 (fun _ => rfl) (mt_X9_putOnTape l D cid b ex sa sv B0 sh q0 x1 d _ hd2) hqd2 (by decide) kw_531 kw_533 ks_0 kw_1 kw_534 hd_X9_putOnTape ⟨Nat.le_of_ble_eq_true rfl, Nat.le_of_ble_eq_true rfl⟩ rfl rfl rfl (Nat.le_of_ble_eq_true rfl) ⟨Nat.le_of_ble_eq_true rfl, Nat.le_of_ble_eq_true rfl⟩ dX9_feed_17 (fun H locs G => ?_)
    refine lv_aload_n hx hb dX9_feed_20 rfl (lv_at hl 0 rfl) ?_
    refine lv_iload_n hx hb dX9_feed_21 rfl (lv_at hl 2 rfl) ?_
    obtain ⟨d3, hd3, hf⟩ := x_ob hf
    obtain ⟨hqd3, hd3⟩ := xon_of hd3
    refine xr_callV (ci := 9) (As := [.int x2]) (rest := []) (st1 := []) S G hl.1 (fun _ => rfl) (mt_X9_putOnTape l D cid b ex sa sv B0 sh q0 x2 d2 _ hd3) hqd3 (by decide) kw_531 kw_533 ks_0 kw_1 kw_534 hd_X9_putOnTape ⟨Nat.le_of_ble_eq_true rfl, Nat.le_of_ble_eq_true rfl⟩ rfl rfl rfl (Nat.le_of_ble_eq_true rfl) ⟨Nat.le_of_ble_eq_true rfl, Nat.le_of_ble_eq_true rfl⟩ dX9_feed_22 (fun H locs G => ?_)
    refine lv_aload_n hx hb dX9_feed_25 rfl (lv_at hl 0 rfl) ?_
    refine lv_iload_n hx hb dX9_feed_26 rfl (lv_at hl 3 rfl) ?_
    obtain ⟨d4, hd4, hf⟩ := x_ob hf
    obtain ⟨hqd4, hd4⟩ := xon_of hd4
    refine xr_callV (ci := 9) (As := [.int x3]) (rest := []) (st1 := []) S G hl.1 (fun _ => rfl) (mt_X9_putOnTape l D cid b ex sa sv B0 sh q0 x3 d3 _ hd4) hqd4 (by decide) kw_531 kw_533 ks_0 kw_1 kw_534 hd_X9_putOnTape ⟨Nat.le_of_ble_eq_true rfl, Nat.le_of_ble_eq_true rfl⟩ rfl rfl rfl (Nat.le_of_ble_eq_true rfl) ⟨Nat.le_of_ble_eq_true rfl, Nat.le_of_ble_eq_true rfl⟩ dX9_feed_27 (fun H locs G => ?_)
    refine lv_aload_n hx hb dX9_feed_30 rfl (lv_at hl 0 rfl) ?_
    refine lv_iload hx hb dX9_feed_31 (lv_at hl 4 rfl) ?_
    obtain ⟨d5, hd5, hf⟩ := x_ob hf
    obtain ⟨hqd5, hd5⟩ := xon_of hd5
    refine xr_callV (ci := 9) (As := [.int x4]) (rest := []) (st1 := []) S G hl.1 (fun _ => rfl) (mt_X9_putOnTape l D cid b ex sa sv B0 sh q0 x4 d4 _ hd5) hqd5 (by decide) kw_531 kw_533 ks_0 kw_1 kw_534 hd_X9_putOnTape ⟨Nat.le_of_ble_eq_true rfl, Nat.le_of_ble_eq_true rfl⟩ rfl rfl rfl (Nat.le_of_ble_eq_true rfl) ⟨Nat.le_of_ble_eq_true rfl, Nat.le_of_ble_eq_true rfl⟩ dX9_feed_33 (fun H locs G => ?_)
    refine lv_aload_n hx hb dX9_feed_36 rfl (lv_at hl 0 rfl) ?_
    refine lv_iload hx hb dX9_feed_37 (lv_at hl 5 rfl) ?_
    obtain ⟨d6, hd6, hf⟩ := x_ob hf
    obtain ⟨hqd6, hd6⟩ := xon_of hd6
    refine xr_callV (ci := 9) (As := [.int x5]) (rest := []) (st1 := []) S G hl.1 (fun _ => rfl) (mt_X9_putOnTape l D cid b ex sa sv B0 sh q0 x5 d5 _ hd6) hqd6 (by decide) kw_531 kw_533 ks_0 kw_1 kw_534 hd_X9_putOnTape ⟨Nat.le_of_ble_eq_true rfl, Nat.le_of_ble_eq_true rfl⟩ rfl rfl rfl (Nat.le_of_ble_eq_true rfl) ⟨Nat.le_of_ble_eq_true rfl, Nat.le_of_ble_eq_true rfl⟩ dX9_feed_39 (fun H locs G => ?_)
    refine lv_aload_n hx hb dX9_feed_42 rfl (lv_at hl 0 rfl) ?_
    obtain ⟨v7, hv7, hf⟩ := x_ob hf
    refine xr_getI (ci := 9) (k := 1) S G hv7 rfl kw_482 dX9_feed_43 ?_
    cases hf
    exact xr_iret S G (fun _ => rfl) hr dX9_feed_46
  · have hf := x_neg c hf
    refine lv_iconst (v := (-1 : Int32)) hx hb dX9_feed_13 (by decide) ?_
    cases hf
    exact xr_iret S G (fun _ => rfl) hr dX9_feed_14
-- HalfLandings.text(I)I
theorem dX9_text_0 : decode cX9_text 0 = .ok (.iload_n 1, 1) := by decide +kernel
theorem dX9_text_1 : decode cX9_text 1 = .ok (.ifCond .lt 11, 3) := by decide +kernel
theorem dX9_text_4 : decode cX9_text 4 = .ok (.iload_n 1, 1) := by decide +kernel
theorem dX9_text_5 : decode cX9_text 5 = .ok (.aload_n 0, 1) := by decide +kernel
theorem dX9_text_6 : decode cX9_text 6 = .ok (.getfield 15, 3) := by decide +kernel
theorem dX9_text_9 : decode cX9_text 9 = .ok (.if_icmp .le 6, 3) := by decide +kernel
theorem dX9_text_12 : decode cX9_text 12 = .ok (.bipush (-2), 2) := by decide +kernel
theorem dX9_text_14 : decode cX9_text 14 = .ok (.ireturn, 1) := by decide +kernel
theorem dX9_text_15 : decode cX9_text 15 = .ok (.aload_n 0, 1) := by decide +kernel
theorem dX9_text_16 : decode cX9_text 16 = .ok (.iconst 0, 1) := by decide +kernel
theorem dX9_text_17 : decode cX9_text 17 = .ok (.putfield 15, 3) := by decide +kernel
theorem dX9_text_20 : decode cX9_text 20 = .ok (.aload_n 0, 1) := by decide +kernel
theorem dX9_text_21 : decode cX9_text 21 = .ok (.getfield 32, 3) := by decide +kernel
theorem dX9_text_24 : decode cX9_text 24 = .ok (.invokevirtual 100, 3) := by decide +kernel
theorem dX9_text_27 : decode cX9_text 27 = .ok (.aload_n 0, 1) := by decide +kernel
theorem dX9_text_28 : decode cX9_text 28 = .ok (.getfield 49, 3) := by decide +kernel
theorem dX9_text_31 : decode cX9_text 31 = .ok (.iload_n 1, 1) := by decide +kernel
theorem dX9_text_32 : decode cX9_text 32 = .ok (.aload_n 0, 1) := by decide +kernel
theorem dX9_text_33 : decode cX9_text 33 = .ok (.getfield 32, 3) := by decide +kernel
theorem dX9_text_36 : decode cX9_text 36 = .ok (.invokevirtual 103, 3) := by decide +kernel
theorem dX9_text_39 : decode cX9_text 39 = .ok (.istore_n 2, 1) := by decide +kernel
theorem dX9_text_40 : decode cX9_text 40 = .ok (.aload_n 0, 1) := by decide +kernel
theorem dX9_text_41 : decode cX9_text 41 = .ok (.aload_n 0, 1) := by decide +kernel
theorem dX9_text_42 : decode cX9_text 42 = .ok (.getfield 40, 3) := by decide +kernel
theorem dX9_text_45 : decode cX9_text 45 = .ok (.getfield 107, 3) := by decide +kernel
theorem dX9_text_48 : decode cX9_text 48 = .ok (.putfield 19, 3) := by decide +kernel
theorem dX9_text_51 : decode cX9_text 51 = .ok (.aload_n 0, 1) := by decide +kernel
theorem dX9_text_52 : decode cX9_text 52 = .ok (.aload_n 0, 1) := by decide +kernel
theorem dX9_text_53 : decode cX9_text 53 = .ok (.getfield 40, 3) := by decide +kernel
theorem dX9_text_56 : decode cX9_text 56 = .ok (.getfield 110, 3) := by decide +kernel
theorem dX9_text_59 : decode cX9_text 59 = .ok (.putfield 22, 3) := by decide +kernel
theorem dX9_text_62 : decode cX9_text 62 = .ok (.iload_n 2, 1) := by decide +kernel
theorem dX9_text_63 : decode cX9_text 63 = .ok (.iconst (-1), 1) := by decide +kernel
theorem dX9_text_64 : decode cX9_text 64 = .ok (.if_icmp .ne 5, 3) := by decide +kernel
theorem dX9_text_67 : decode cX9_text 67 = .ok (.iconst (-1), 1) := by decide +kernel
theorem dX9_text_68 : decode cX9_text 68 = .ok (.ireturn, 1) := by decide +kernel
theorem dX9_text_69 : decode cX9_text 69 = .ok (.aload_n 0, 1) := by decide +kernel
theorem dX9_text_70 : decode cX9_text 70 = .ok (.getfield 28, 3) := by decide +kernel
theorem dX9_text_73 : decode cX9_text 73 = .ok (.astore_n 3, 1) := by decide +kernel
theorem dX9_text_74 : decode cX9_text 74 = .ok (.aload_n 0, 1) := by decide +kernel
theorem dX9_text_75 : decode cX9_text 75 = .ok (.aload_n 0, 1) := by decide +kernel
theorem dX9_text_76 : decode cX9_text 76 = .ok (.getfield 32, 3) := by decide +kernel
theorem dX9_text_79 : decode cX9_text 79 = .ok (.putfield 28, 3) := by decide +kernel
theorem dX9_text_82 : decode cX9_text 82 = .ok (.aload_n 0, 1) := by decide +kernel
theorem dX9_text_83 : decode cX9_text 83 = .ok (.aload_n 3, 1) := by decide +kernel
theorem dX9_text_84 : decode cX9_text 84 = .ok (.putfield 32, 3) := by decide +kernel
theorem dX9_text_87 : decode cX9_text 87 = .ok (.aload_n 0, 1) := by decide +kernel
theorem dX9_text_88 : decode cX9_text 88 = .ok (.getfield 75, 3) := by decide +kernel
theorem dX9_text_91 : decode cX9_text 91 = .ok (.aload_n 0, 1) := by decide +kernel
theorem dX9_text_92 : decode cX9_text 92 = .ok (.getfield 28, 3) := by decide +kernel
theorem dX9_text_95 : decode cX9_text 95 = .ok (.putfield 111, 3) := by decide +kernel
theorem dX9_text_98 : decode cX9_text 98 = .ok (.aload_n 0, 1) := by decide +kernel
theorem dX9_text_99 : decode cX9_text 99 = .ok (.getfield 56, 3) := by decide +kernel
theorem dX9_text_102 : decode cX9_text 102 = .ok (.aload_n 0, 1) := by decide +kernel
theorem dX9_text_103 : decode cX9_text 103 = .ok (.getfield 28, 3) := by decide +kernel
theorem dX9_text_106 : decode cX9_text 106 = .ok (.invokevirtual 93, 3) := by decide +kernel
theorem dX9_text_109 : decode cX9_text 109 = .ok (.aload_n 0, 1) := by decide +kernel
theorem dX9_text_110 : decode cX9_text 110 = .ok (.iconst 0, 1) := by decide +kernel
theorem dX9_text_111 : decode cX9_text 111 = .ok (.putfield 66, 3) := by decide +kernel
theorem dX9_text_114 : decode cX9_text 114 = .ok (.aload_n 0, 1) := by decide +kernel
theorem dX9_text_115 : decode cX9_text 115 = .ok (.getfield 82, 3) := by decide +kernel
theorem dX9_text_118 : decode cX9_text 118 = .ok (.invokevirtual 112, 3) := by decide +kernel
theorem dX9_text_121 : decode cX9_text 121 = .ok (.aload_n 0, 1) := by decide +kernel
theorem dX9_text_122 : decode cX9_text 122 = .ok (.getfield 89, 3) := by decide +kernel
theorem dX9_text_125 : decode cX9_text 125 = .ok (.invokevirtual 113, 3) := by decide +kernel
theorem dX9_text_128 : decode cX9_text 128 = .ok (.iload_n 2, 1) := by decide +kernel
theorem dX9_text_129 : decode cX9_text 129 = .ok (.ireturn, 1) := by decide +kernel
theorem hd_X9_text : yX9_text.cls = xCn 9 ∧ yX9_text.cls ≠ "java/lang/invoke/MethodHandle" ∧ yX9_text.cls ≠ "java/lang/invoke/VarHandle" ∧ (parseMethodDescriptor yX9_text.desc).map (fun d => d.parameters.length) = some 1 := by decide +kernel
def k_X9_text_12 (sh : List xSh) (d : xD) : Option (Int32 × xD) :=
  some ((-2 : Int32), d)
def f_X9_text (sh : List xSh) (q0 : Nat) (x1 : Int32) (d : xD) : Option (Int32 × xD) :=
  if x1 < 0 then (k_X9_text_12 sh d) else ((xgI 9 sh d q0 1).bind fun v1 => if x1 ≤ v1 then ((xpI 9 sh d q0 1 (0 : Int32)).bind fun d2 => (xgR 9 sh d2 q0 5).bind fun v3 => (xon 3 sh v3 (f_X3_clear sh v3 d2)).bind fun d4 => (xgR 9 sh d4 q0 7).bind fun v5 => (xgR 9 sh d4 q0 5).bind fun v6 => (xon 6 sh v5 (f_X6_read sh v5 x1 v6 d4)).bind fun z7 => (xgR 9 sh z7.2 q0 6).bind fun v8 => (xgI 7 sh z7.2 v8 3).bind fun v9 => (xpI 9 sh z7.2 q0 2 v9).bind fun d10 => (xgR 9 sh d10 q0 6).bind fun v11 => (xgI 7 sh d10 v11 4).bind fun v12 => (xpI 9 sh d10 q0 3 v12).bind fun d13 => if z7.1 = (-1 : Int32) then (some ((-1 : Int32), d13)) else ((xgR 9 sh d13 q0 4).bind fun v14 => (xgR 9 sh d13 q0 5).bind fun v15 => (xpR 9 sh d13 q0 4 v15).bind fun d16 => (xpR 9 sh d16 q0 5 v14).bind fun d17 => (xgR 9 sh d17 q0 12).bind fun v18 => (xgR 9 sh d17 q0 4).bind fun v19 => (xpR 2 sh d17 v18 0 v19).bind fun d20 => (xgR 9 sh d20 q0 8).bind fun v21 => (xgR 9 sh d20 q0 4).bind fun v22 => (xon 4 sh v21 (f_X4_begin sh v21 v22 d20)).bind fun d23 => (xpI 9 sh d23 q0 11 (0 : Int32)).bind fun d24 => (xgR 9 sh d24 q0 13).bind fun v25 => (xon 8 sh v25 (f_X8_clear sh v25 d24)).bind fun d26 => (xgR 9 sh d26 q0 14).bind fun v27 => (xon 5 sh v27 (f_X5_clear sh v27 d26)).bind fun d28 => some (z7.1, d28))) else (k_X9_text_12 sh d))
set_option maxHeartbeats 4000000 in
set_option maxRecDepth 100000 in
theorem mt_X9_text (l : Launch) (D : va_G) (cid : FieldType → ClassId) (b : Nat) (ex : Bool) (sa sv B0 : Nat) (sh : List xSh) (q0 : Nat) (x1 : Int32) (d : xD) (r : Int32) (dz : xD) (hf : f_X9_text sh q0 x1 d = some (r, dz)) : xMet l yX9_text cX9_text 4 (some .int) 7 0 0 D cid b ex sa sv B0 [.ref (b + q0), .int x1] sh d (some (.int r)) sh dz := by
  refine xMet.of (by decide) (Nat.le_of_ble_eq_true rfl) ?_
  intro p e s m below meth c ls A S hr hin G hl
  have hl : lv_has ls 4 [(0, .ref (b + q0)), (1, .int x1)] := hl
  generalize ([.ref (b + q0), .int x1] : List Value).toArray = av at S ⊢
  have hx := S.1
  have hb := S.2.1
  have hml := S.2.2.1
  have hown := S.2.2.2.1
  have hts := S.2.2.2.2.1
  have K12 : ∀ (d : xD), k_X9_text_12 sh d = some (r, dz) → ∀ (H : Heap) (locs : List Loc) (ls : Array Slot), lv_has ls 4 [] → xG D cid b A sh d s H locs → W p l e (xRm 7 0 0) s m av below meth c H locs 0 0 (MQ below (xQ D cid b ex A (some (.int r)) sh dz) av s 0 0 A) (F0 m 12 ls []) := by
    intro d hf H locs ls hl G
    unfold k_X9_text_12 at hf
    refine lv_bipush (v := (-2 : Int32)) hx hb dX9_text_12 (by decide) ?_
    cases hf
    exact xr_iret S G (fun _ => rfl) hr dX9_text_14
  unfold f_X9_text at hf
  refine lv_iload_n hx hb dX9_text_0 rfl (lv_at hl 1 rfl) ?_
  refine lv_if_lt (tgt := 12) hx hb dX9_text_1 (by decide) (fun c => ?_) (fun c => ?_)
  · have hf := x_pos c hf
    exact K12 d hf _ _ ls (lv_sub hl [] rfl) G
  · have hf := x_neg c hf
    refine lv_iload_n hx hb dX9_text_4 rfl (lv_at hl 1 rfl) ?_
    refine lv_aload_n hx hb dX9_text_5 rfl (lv_at hl 0 rfl) ?_
    obtain ⟨v1, hv1, hf⟩ := x_ob hf
    refine xr_getI (ci := 9) (k := 1) S G hv1 rfl kw_482 dX9_text_6 ?_
    refine lv_icmp_le (tgt := 15) hx hb dX9_text_9 (by decide) (fun c => ?_) (fun c => ?_)
    · have hf := x_pos c hf
      refine lv_aload_n hx hb dX9_text_15 rfl (lv_at hl 0 rfl) ?_
      refine lv_iconst (v := (0 : Int32)) hx hb dX9_text_16 (by decide) ?_
      obtain ⟨d2, hd2, hf⟩ := x_ob hf
      refine xr_putI (ci := 9) (k := 1) S G hd2 rfl kw_482 dX9_text_17 (fun H locs G => ?_)
      refine lv_aload_n hx hb dX9_text_20 rfl (lv_at hl 0 rfl) ?_
      obtain ⟨v3, hv3, hf⟩ := x_ob hf
      refine xr_getR (ci := 9) (k := 5) S G hv3 rfl kw_486 dX9_text_21 ?_
      obtain ⟨d4, hd4, hf⟩ := x_ob hf
      obtain ⟨hqd4, hd4⟩ := xon_of hd4
      refine xr_callV (ci := 3) (As := []) (rest := []) (st1 := []) S G hl.1 (fun _ => rfl) (mt_X3_clear l D cid b ex sa sv B0 sh v3 d2 _ hd4) hqd4 (by decide) kw_539 kw_540 kw_541 kw_2 kw_542 hd_X3_clear ⟨Nat.le_of_ble_eq_true rfl, Nat.le_of_ble_eq_true rfl⟩ rfl rfl rfl (Nat.le_of_ble_eq_true rfl) ⟨Nat.le_of_ble_eq_true rfl, Nat.le_of_ble_eq_true rfl⟩ dX9_text_24 (fun H locs G => ?_)
      refine lv_aload_n hx hb dX9_text_27 rfl (lv_at hl 0 rfl) ?_
      obtain ⟨v5, hv5, hf⟩ := x_ob hf
      refine xr_getR (ci := 9) (k := 7) S G hv5 rfl kw_488 dX9_text_28 ?_
      refine lv_iload_n hx hb dX9_text_31 rfl (lv_at hl 1 rfl) ?_
      refine lv_aload_n hx hb dX9_text_32 rfl (lv_at hl 0 rfl) ?_
      obtain ⟨v6, hv6, hf⟩ := x_ob hf
      refine xr_getR (ci := 9) (k := 5) S G hv6 rfl kw_486 dX9_text_33 ?_
      obtain ⟨z7, hz7, hf⟩ := x_ob hf
      obtain ⟨hqz7, hz7⟩ := xon_of hz7
      refine xr_callV (ci := 6) (As := [.int x1, .ref (b + v6)]) (rest := []) (st1 := [.int z7.1]) S G hl.1 (fun _ => rfl) (mt_X6_read l D cid b ex sa sv B0 sh v5 x1 v6 d4 _ _ hz7) hqz7 (by decide) kw_547 kw_548 kw_549 kw_10 kw_550 hd_X6_read ⟨Nat.le_of_ble_eq_true rfl, Nat.le_of_ble_eq_true rfl⟩ rfl rfl rfl (Nat.le_of_ble_eq_true rfl) ⟨Nat.le_of_ble_eq_true rfl, Nat.le_of_ble_eq_true rfl⟩ dX9_text_36 (fun H locs G => ?_)
      refine lv_istore_n (lv' := [(2, .int z7.1), (0, .ref (b + q0)), (1, .int x1)]) hx hb dX9_text_39 rfl hl (by decide) rfl (fun ls hl => ?_)
      refine lv_aload_n hx hb dX9_text_40 rfl (lv_at hl 1 rfl) ?_
      refine lv_aload_n hx hb dX9_text_41 rfl (lv_at hl 1 rfl) ?_
      obtain ⟨v8, hv8, hf⟩ := x_ob hf
      refine xr_getR (ci := 9) (k := 6) S G hv8 rfl kw_487 dX9_text_42 ?_
      obtain ⟨v9, hv9, hf⟩ := x_ob hf
      refine xr_getI (ci := 7) (k := 3) S G hv9 rfl kw_237 dX9_text_45 ?_
      obtain ⟨d10, hd10, hf⟩ := x_ob hf
      refine xr_putI (ci := 9) (k := 2) S G hd10 rfl kw_483 dX9_text_48 (fun H locs G => ?_)
      refine lv_aload_n hx hb dX9_text_51 rfl (lv_at hl 1 rfl) ?_
      refine lv_aload_n hx hb dX9_text_52 rfl (lv_at hl 1 rfl) ?_
      obtain ⟨v11, hv11, hf⟩ := x_ob hf
      refine xr_getR (ci := 9) (k := 6) S G hv11 rfl kw_487 dX9_text_53 ?_
      obtain ⟨v12, hv12, hf⟩ := x_ob hf
      refine xr_getI (ci := 7) (k := 4) S G hv12 rfl kw_239 dX9_text_56 ?_
      obtain ⟨d13, hd13, hf⟩ := x_ob hf
      refine xr_putI (ci := 9) (k := 3) S G hd13 rfl kw_484 dX9_text_59 (fun H locs G => ?_)
      refine lv_iload_n hx hb dX9_text_62 rfl (lv_at hl 0 rfl) ?_
      refine lv_iconst (v := (-1 : Int32)) hx hb dX9_text_63 (by decide) ?_
      refine lv_icmp_ne (tgt := 69) hx hb dX9_text_64 (by decide) (fun c => ?_) (fun c => ?_)
      · have hf := x_neg c hf
        refine lv_aload_n hx hb dX9_text_69 rfl (lv_at hl 1 rfl) ?_
        obtain ⟨v14, hv14, hf⟩ := x_ob hf
        refine xr_getR (ci := 9) (k := 4) S G hv14 rfl kw_485 dX9_text_70 ?_
        refine lv_astore_n (lv' := [(3, .ref (b + v14)), (2, .int z7.1), (0, .ref (b + q0)), (1, .int x1)]) hx hb dX9_text_73 rfl hl (by decide) rfl (fun ls hl => ?_)
        refine lv_aload_n hx hb dX9_text_74 rfl (lv_at hl 2 rfl) ?_
        refine lv_aload_n hx hb dX9_text_75 rfl (lv_at hl 2 rfl) ?_
        obtain ⟨v15, hv15, hf⟩ := x_ob hf
        refine xr_getR (ci := 9) (k := 5) S G hv15 rfl kw_486 dX9_text_76 ?_
        obtain ⟨d16, hd16, hf⟩ := x_ob hf
        refine xr_putR (ci := 9) (k := 4) S G hd16 rfl kw_485 dX9_text_79 (fun H locs G => ?_)
        refine lv_aload_n hx hb dX9_text_82 rfl (lv_at hl 2 rfl) ?_
        refine lv_aload_n hx hb dX9_text_83 rfl (lv_at hl 0 rfl) ?_
        obtain ⟨d17, hd17, hf⟩ := x_ob hf
        refine xr_putR (ci := 9) (k := 5) S G hd17 rfl kw_486 dX9_text_84 (fun H locs G => ?_)
        refine lv_aload_n hx hb dX9_text_87 rfl (lv_at hl 2 rfl) ?_
        obtain ⟨v18, hv18, hf⟩ := x_ob hf
        refine xr_getR (ci := 9) (k := 12) S G hv18 rfl kw_493 dX9_text_88 ?_
        refine lv_aload_n hx hb dX9_text_91 rfl (lv_at hl 2 rfl) ?_
        obtain ⟨v19, hv19, hf⟩ := x_ob hf
        refine xr_getR (ci := 9) (k := 4) S G hv19 rfl kw_485 dX9_text_92 ?_
        obtain ⟨d20, hd20, hf⟩ := x_ob hf
        refine xr_putR (ci := 2) (k := 0) S G hd20 rfl kw_411 dX9_text_95 (fun H locs G => ?_)
        refine lv_aload_n hx hb dX9_text_98 rfl (lv_at hl 2 rfl) ?_
        obtain ⟨v21, hv21, hf⟩ := x_ob hf
        refine xr_getR (ci := 9) (k := 8) S G hv21 rfl kw_489 dX9_text_99 ?_
        refine lv_aload_n hx hb dX9_text_102 rfl (lv_at hl 2 rfl) ?_
        obtain ⟨v22, hv22, hf⟩ := x_ob hf
        refine xr_getR (ci := 9) (k := 4) S G hv22 rfl kw_485 dX9_text_103 ?_
        obtain ⟨d23, hd23, hf⟩ := x_ob hf
        obtain ⟨hqd23, hd23⟩ := xon_of hd23
        refine xr_callV (ci := 4) (As := [.ref (b + v22)]) (rest := []) (st1 := []) S G hl.1 (fun _ => rfl) (mt_X4_begin l D cid b ex sa sv B0 sh v21 v22 d20 _ hd23) hqd23 (by decide) kw_469 kw_470 kw_471 kw_12 kw_472 hd_X4_begin ⟨Nat.le_of_ble_eq_true rfl, Nat.le_of_ble_eq_true rfl⟩ rfl rfl rfl (Nat.le_of_ble_eq_true rfl) ⟨Nat.le_of_ble_eq_true rfl, Nat.le_of_ble_eq_true rfl⟩ dX9_text_106 (fun H locs G => ?_)
        refine lv_aload_n hx hb dX9_text_109 rfl (lv_at hl 2 rfl) ?_
        refine lv_iconst (v := (0 : Int32)) hx hb dX9_text_110 (by decide) ?_
        obtain ⟨d24, hd24, hf⟩ := x_ob hf
        refine xr_putI (ci := 9) (k := 11) S G hd24 rfl kw_492 dX9_text_111 (fun H locs G => ?_)
        refine lv_aload_n hx hb dX9_text_114 rfl (lv_at hl 2 rfl) ?_
        obtain ⟨v25, hv25, hf⟩ := x_ob hf
        refine xr_getR (ci := 9) (k := 13) S G hv25 rfl kw_494 dX9_text_115 ?_
        obtain ⟨d26, hd26, hf⟩ := x_ob hf
        obtain ⟨hqd26, hd26⟩ := xon_of hd26
        refine xr_callV (ci := 8) (As := []) (rest := []) (st1 := []) S G hl.1 (fun _ => rfl) (mt_X8_clear l D cid b ex sa sv B0 sh v25 d24 _ hd26) hqd26 (by decide) kw_710 kw_711 kw_712 kw_14 kw_713 hd_X8_clear ⟨Nat.le_of_ble_eq_true rfl, Nat.le_of_ble_eq_true rfl⟩ rfl rfl rfl (Nat.le_of_ble_eq_true rfl) ⟨Nat.le_of_ble_eq_true rfl, Nat.le_of_ble_eq_true rfl⟩ dX9_text_118 (fun H locs G => ?_)
        refine lv_aload_n hx hb dX9_text_121 rfl (lv_at hl 2 rfl) ?_
        obtain ⟨v27, hv27, hf⟩ := x_ob hf
        refine xr_getR (ci := 9) (k := 14) S G hv27 rfl kw_495 dX9_text_122 ?_
        obtain ⟨d28, hd28, hf⟩ := x_ob hf
        obtain ⟨hqd28, hd28⟩ := xon_of hd28
        refine xr_callV (ci := 5) (As := []) (rest := []) (st1 := []) S G hl.1 (fun _ => rfl) (mt_X5_clear l D cid b ex sa sv B0 sh v27 d26 _ hd28) hqd28 (by decide) kw_714 kw_715 kw_716 kw_15 kw_717 hd_X5_clear ⟨Nat.le_of_ble_eq_true rfl, Nat.le_of_ble_eq_true rfl⟩ rfl rfl rfl (Nat.le_of_ble_eq_true rfl) ⟨Nat.le_of_ble_eq_true rfl, Nat.le_of_ble_eq_true rfl⟩ dX9_text_125 (fun H locs G => ?_)
        refine lv_iload_n hx hb dX9_text_128 rfl (lv_at hl 1 rfl) ?_
        cases hf
        exact xr_iret S G (fun _ => rfl) hr dX9_text_129
      · have hf := x_pos c hf
        refine lv_iconst (v := (-1 : Int32)) hx hb dX9_text_67 (by decide) ?_
        cases hf
        exact xr_iret S G (fun _ => rfl) hr dX9_text_68
    · have hf := x_neg c hf
      exact K12 d hf _ _ ls (lv_sub hl [] rfl) G
-- HalfLandings.fault(I)I
theorem dX9_fault_0 : decode cX9_fault 0 = .ok (.iload_n 1, 1) := by decide +kernel
theorem dX9_fault_1 : decode cX9_fault 1 = .ok (.ifCond .ne 8, 3) := by decide +kernel
theorem dX9_fault_4 : decode cX9_fault 4 = .ok (.aload_n 0, 1) := by decide +kernel
theorem dX9_fault_5 : decode cX9_fault 5 = .ok (.getfield 19, 3) := by decide +kernel
theorem dX9_fault_8 : decode cX9_fault 8 = .ok (.ireturn, 1) := by decide +kernel
theorem dX9_fault_9 : decode cX9_fault 9 = .ok (.iload_n 1, 1) := by decide +kernel
theorem dX9_fault_10 : decode cX9_fault 10 = .ok (.iconst 1, 1) := by decide +kernel
theorem dX9_fault_11 : decode cX9_fault 11 = .ok (.if_icmp .ne 10, 3) := by decide +kernel
theorem dX9_fault_14 : decode cX9_fault 14 = .ok (.aload_n 0, 1) := by decide +kernel
theorem dX9_fault_15 : decode cX9_fault 15 = .ok (.getfield 22, 3) := by decide +kernel
theorem dX9_fault_18 : decode cX9_fault 18 = .ok (.goto 4, 3) := by decide +kernel
theorem dX9_fault_21 : decode cX9_fault 21 = .ok (.iconst (-1), 1) := by decide +kernel
theorem dX9_fault_22 : decode cX9_fault 22 = .ok (.ireturn, 1) := by decide +kernel
theorem hd_X9_fault : yX9_fault.cls = xCn 9 ∧ yX9_fault.cls ≠ "java/lang/invoke/MethodHandle" ∧ yX9_fault.cls ≠ "java/lang/invoke/VarHandle" ∧ (parseMethodDescriptor yX9_fault.desc).map (fun d => d.parameters.length) = some 1 := by decide +kernel
def k_X9_fault_22 (sh : List xSh) (y0 : Int32) (d : xD) : Option (Int32 × xD) :=
  some (y0, d)
def f_X9_fault (sh : List xSh) (q0 : Nat) (x1 : Int32) (d : xD) : Option (Int32 × xD) :=
  if x1 = 0 then ((xgI 9 sh d q0 2).bind fun v2 => some (v2, d)) else (if x1 = (1 : Int32) then ((xgI 9 sh d q0 3).bind fun v1 => k_X9_fault_22 sh v1 d) else (k_X9_fault_22 sh (-1 : Int32) d))
set_option maxHeartbeats 4000000 in
set_option maxRecDepth 100000 in
theorem mt_X9_fault (l : Launch) (D : va_G) (cid : FieldType → ClassId) (b : Nat) (ex : Bool) (sa sv B0 : Nat) (sh : List xSh) (q0 : Nat) (x1 : Int32) (d : xD) (r : Int32) (dz : xD) (hf : f_X9_fault sh q0 x1 d = some (r, dz)) : xMet l yX9_fault cX9_fault 2 (some .int) 0 0 0 D cid b ex sa sv B0 [.ref (b + q0), .int x1] sh d (some (.int r)) sh dz := by
  refine xMet.of (by decide) (Nat.le_of_ble_eq_true rfl) ?_
  intro p e s m below meth c ls A S hr hin G hl
  have hl : lv_has ls 2 [(0, .ref (b + q0)), (1, .int x1)] := hl
  generalize ([.ref (b + q0), .int x1] : List Value).toArray = av at S ⊢
  have hx := S.1
  have hb := S.2.1
  have hml := S.2.2.1
  have hown := S.2.2.2.1
  have hts := S.2.2.2.2.1
  have K22 : ∀ (y0 : Int32) (d : xD), k_X9_fault_22 sh y0 d = some (r, dz) → ∀ (H : Heap) (locs : List Loc) (ls : Array Slot), lv_has ls 2 [] → xG D cid b A sh d s H locs → W p l e (xRm 0 0 0) s m av below meth c H locs 0 0 (MQ below (xQ D cid b ex A (some (.int r)) sh dz) av s 0 0 A) (F0 m 22 ls [.int y0]) := by
    intro y0 d hf H locs ls hl G
    unfold k_X9_fault_22 at hf
    cases hf
    exact xr_iret S G (fun _ => rfl) hr dX9_fault_22
  unfold f_X9_fault at hf
  refine lv_iload_n hx hb dX9_fault_0 rfl (lv_at hl 1 rfl) ?_
  refine lv_if_ne (tgt := 9) hx hb dX9_fault_1 (by decide) (fun c => ?_) (fun c => ?_)
  · have hf := x_neg c hf
    refine lv_iload_n hx hb dX9_fault_9 rfl (lv_at hl 1 rfl) ?_
    refine lv_iconst (v := (1 : Int32)) hx hb dX9_fault_10 (by decide) ?_
    refine lv_icmp_ne (tgt := 21) hx hb dX9_fault_11 (by decide) (fun c => ?_) (fun c => ?_)
    · have hf := x_neg c hf
      refine lv_iconst (v := (-1 : Int32)) hx hb dX9_fault_21 (by decide) ?_
      exact K22 (-1 : Int32) d hf _ _ ls (lv_sub hl [] rfl) G
    · have hf := x_pos c hf
      refine lv_aload_n hx hb dX9_fault_14 rfl (lv_at hl 0 rfl) ?_
      obtain ⟨v1, hv1, hf⟩ := x_ob hf
      refine xr_getI (ci := 9) (k := 3) S G hv1 rfl kw_484 dX9_fault_15 ?_
      refine lv_goto (tgt := 22) hx hb dX9_fault_18 (by decide) ?_
      exact K22 v1 d hf _ _ ls (lv_sub hl [] rfl) G
  · have hf := x_pos c hf
    refine lv_aload_n hx hb dX9_fault_4 rfl (lv_at hl 0 rfl) ?_
    obtain ⟨v2, hv2, hf⟩ := x_ob hf
    refine xr_getI (ci := 9) (k := 2) S G hv2 rfl kw_483 dX9_fault_5 ?_
    cases hf
    exact xr_iret S G (fun _ => rfl) hr dX9_fault_8
-- HalfLandings.named(II)I
theorem dX9_named_0 : decode cX9_named 0 = .ok (.iload_n 1, 1) := by decide +kernel
theorem dX9_named_1 : decode cX9_named 1 = .ok (.ifCond .ne 12, 3) := by decide +kernel
theorem dX9_named_4 : decode cX9_named 4 = .ok (.aload_n 0, 1) := by decide +kernel
theorem dX9_named_5 : decode cX9_named 5 = .ok (.getfield 28, 3) := by decide +kernel
theorem dX9_named_8 : decode cX9_named 8 = .ok (.iload_n 2, 1) := by decide +kernel
theorem dX9_named_9 : decode cX9_named 9 = .ok (.invokevirtual 114, 3) := by decide +kernel
theorem dX9_named_12 : decode cX9_named 12 = .ok (.ireturn, 1) := by decide +kernel
theorem dX9_named_13 : decode cX9_named 13 = .ok (.iload_n 1, 1) := by decide +kernel
theorem dX9_named_14 : decode cX9_named 14 = .ok (.iconst 1, 1) := by decide +kernel
theorem dX9_named_15 : decode cX9_named 15 = .ok (.if_icmp .ne 14, 3) := by decide +kernel
theorem dX9_named_18 : decode cX9_named 18 = .ok (.aload_n 0, 1) := by decide +kernel
theorem dX9_named_19 : decode cX9_named 19 = .ok (.getfield 28, 3) := by decide +kernel
theorem dX9_named_22 : decode cX9_named 22 = .ok (.iload_n 2, 1) := by decide +kernel
theorem dX9_named_23 : decode cX9_named 23 = .ok (.invokevirtual 118, 3) := by decide +kernel
theorem dX9_named_26 : decode cX9_named 26 = .ok (.goto 4, 3) := by decide +kernel
theorem dX9_named_29 : decode cX9_named 29 = .ok (.iconst (-1), 1) := by decide +kernel
theorem dX9_named_30 : decode cX9_named 30 = .ok (.ireturn, 1) := by decide +kernel
theorem hd_X9_named : yX9_named.cls = xCn 9 ∧ yX9_named.cls ≠ "java/lang/invoke/MethodHandle" ∧ yX9_named.cls ≠ "java/lang/invoke/VarHandle" ∧ (parseMethodDescriptor yX9_named.desc).map (fun d => d.parameters.length) = some 2 := by decide +kernel
def k_X9_named_30 (sh : List xSh) (y0 : Int32) (d : xD) : Option (Int32 × xD) :=
  some (y0, d)
def f_X9_named (sh : List xSh) (q0 : Nat) (x1 : Int32) (x2 : Int32) (d : xD) : Option (Int32 × xD) :=
  if x1 = 0 then ((xgR 9 sh d q0 4).bind fun v3 => (xon 3 sh v3 (f_X3_benchNamed sh v3 x2 d)).bind fun z4 => some (z4.1, z4.2)) else (if x1 = (1 : Int32) then ((xgR 9 sh d q0 4).bind fun v1 => (xon 3 sh v1 (f_X3_walkerNamed sh v1 x2 d)).bind fun z2 => k_X9_named_30 sh z2.1 z2.2) else (k_X9_named_30 sh (-1 : Int32) d))
set_option maxHeartbeats 4000000 in
set_option maxRecDepth 100000 in
theorem mt_X9_named (l : Launch) (D : va_G) (cid : FieldType → ClassId) (b : Nat) (ex : Bool) (sa sv B0 : Nat) (sh : List xSh) (q0 : Nat) (x1 : Int32) (x2 : Int32) (d : xD) (r : Int32) (dz : xD) (hf : f_X9_named sh q0 x1 x2 d = some (r, dz)) : xMet l yX9_named cX9_named 3 (some .int) 2 0 0 D cid b ex sa sv B0 [.ref (b + q0), .int x1, .int x2] sh d (some (.int r)) sh dz := by
  refine xMet.of (by decide) (Nat.le_of_ble_eq_true rfl) ?_
  intro p e s m below meth c ls A S hr hin G hl
  have hl : lv_has ls 3 [(0, .ref (b + q0)), (1, .int x1), (2, .int x2)] := hl
  generalize ([.ref (b + q0), .int x1, .int x2] : List Value).toArray = av at S ⊢
  have hx := S.1
  have hb := S.2.1
  have hml := S.2.2.1
  have hown := S.2.2.2.1
  have hts := S.2.2.2.2.1
  have K30 : ∀ (y0 : Int32) (d : xD), k_X9_named_30 sh y0 d = some (r, dz) → ∀ (H : Heap) (locs : List Loc) (ls : Array Slot), lv_has ls 3 [] → xG D cid b A sh d s H locs → W p l e (xRm 2 0 0) s m av below meth c H locs 0 0 (MQ below (xQ D cid b ex A (some (.int r)) sh dz) av s 0 0 A) (F0 m 30 ls [.int y0]) := by
    intro y0 d hf H locs ls hl G
    unfold k_X9_named_30 at hf
    cases hf
    exact xr_iret S G (fun _ => rfl) hr dX9_named_30
  unfold f_X9_named at hf
  refine lv_iload_n hx hb dX9_named_0 rfl (lv_at hl 1 rfl) ?_
  refine lv_if_ne (tgt := 13) hx hb dX9_named_1 (by decide) (fun c => ?_) (fun c => ?_)
  · have hf := x_neg c hf
    refine lv_iload_n hx hb dX9_named_13 rfl (lv_at hl 1 rfl) ?_
    refine lv_iconst (v := (1 : Int32)) hx hb dX9_named_14 (by decide) ?_
    refine lv_icmp_ne (tgt := 29) hx hb dX9_named_15 (by decide) (fun c => ?_) (fun c => ?_)
    · have hf := x_neg c hf
      refine lv_iconst (v := (-1 : Int32)) hx hb dX9_named_29 (by decide) ?_
      exact K30 (-1 : Int32) d hf _ _ ls (lv_sub hl [] rfl) G
    · have hf := x_pos c hf
      refine lv_aload_n hx hb dX9_named_18 rfl (lv_at hl 0 rfl) ?_
      obtain ⟨v1, hv1, hf⟩ := x_ob hf
      refine xr_getR (ci := 9) (k := 4) S G hv1 rfl kw_485 dX9_named_19 ?_
      refine lv_iload_n hx hb dX9_named_22 rfl (lv_at hl 2 rfl) ?_
      obtain ⟨z2, hz2, hf⟩ := x_ob hf
      obtain ⟨hqz2, hz2⟩ := xon_of hz2
      refine xr_callV (ci := 3) (As := [.int x2]) (rest := []) (st1 := [.int z2.1]) S G hl.1 (fun _ => rfl) (mt_X3_walkerNamed l D cid b ex sa sv B0 sh v1 x2 d _ _ hz2) hqz2 (by decide) kw_727 kw_637 kw_638 kw_2 kw_639 hd_X3_walkerNamed ⟨Nat.le_of_ble_eq_true rfl, Nat.le_of_ble_eq_true rfl⟩ rfl rfl rfl (Nat.le_of_ble_eq_true rfl) ⟨Nat.le_of_ble_eq_true rfl, Nat.le_of_ble_eq_true rfl⟩ dX9_named_23 (fun H locs G => ?_)
      refine lv_goto (tgt := 30) hx hb dX9_named_26 (by decide) ?_
      exact K30 z2.1 z2.2 hf _ _ ls (lv_sub hl [] rfl) G
  · have hf := x_pos c hf
    refine lv_aload_n hx hb dX9_named_4 rfl (lv_at hl 0 rfl) ?_
    obtain ⟨v3, hv3, hf⟩ := x_ob hf
    refine xr_getR (ci := 9) (k := 4) S G hv3 rfl kw_485 dX9_named_5 ?_
    refine lv_iload_n hx hb dX9_named_8 rfl (lv_at hl 2 rfl) ?_
    obtain ⟨z4, hz4, hf⟩ := x_ob hf
    obtain ⟨hqz4, hz4⟩ := xon_of hz4
    refine xr_callV (ci := 3) (As := [.int x2]) (rest := []) (st1 := [.int z4.1]) S G hl.1 (fun _ => rfl) (mt_X3_benchNamed l D cid b ex sa sv B0 sh v3 x2 d _ _ hz4) hqz4 (by decide) kw_726 kw_614 kw_615 kw_2 kw_616 hd_X3_benchNamed ⟨Nat.le_of_ble_eq_true rfl, Nat.le_of_ble_eq_true rfl⟩ rfl rfl rfl (Nat.le_of_ble_eq_true rfl) ⟨Nat.le_of_ble_eq_true rfl, Nat.le_of_ble_eq_true rfl⟩ dX9_named_9 (fun H locs G => ?_)
    cases hf
    exact xr_iret S G (fun _ => rfl) hr dX9_named_12
-- HalfLandings.bench(II)I
theorem dX9_bench_0 : decode cX9_bench 0 = .ok (.aload_n 0, 1) := by decide +kernel
theorem dX9_bench_1 : decode cX9_bench 1 = .ok (.getfield 28, 3) := by decide +kernel
theorem dX9_bench_4 : decode cX9_bench 4 = .ok (.iload_n 1, 1) := by decide +kernel
theorem dX9_bench_5 : decode cX9_bench 5 = .ok (.invokevirtual 159, 3) := by decide +kernel
theorem dX9_bench_8 : decode cX9_bench 8 = .ok (.ifCond .ne 5, 3) := by decide +kernel
theorem dX9_bench_11 : decode cX9_bench 11 = .ok (.iconst (-1), 1) := by decide +kernel
theorem dX9_bench_12 : decode cX9_bench 12 = .ok (.ireturn, 1) := by decide +kernel
theorem dX9_bench_13 : decode cX9_bench 13 = .ok (.aload_n 0, 1) := by decide +kernel
theorem dX9_bench_14 : decode cX9_bench 14 = .ok (.getfield 28, 3) := by decide +kernel
theorem dX9_bench_17 : decode cX9_bench 17 = .ok (.getfield 162, 3) := by decide +kernel
theorem dX9_bench_20 : decode cX9_bench 20 = .ok (.iload_n 1, 1) := by decide +kernel
theorem dX9_bench_21 : decode cX9_bench 21 = .ok (.iaload, 1) := by decide +kernel
theorem dX9_bench_22 : decode cX9_bench 22 = .ok (.istore_n 3, 1) := by decide +kernel
theorem dX9_bench_23 : decode cX9_bench 23 = .ok (.iload_n 2, 1) := by decide +kernel
theorem dX9_bench_24 : decode cX9_bench 24 = .ok (.tableswitch 89 0 4 #[36, 38, 48, 58, 67], 36) := by decide +kernel
theorem dX9_bench_60 : decode cX9_bench 60 = .ok (.iload_n 3, 1) := by decide +kernel
theorem dX9_bench_61 : decode cX9_bench 61 = .ok (.ireturn, 1) := by decide +kernel
theorem dX9_bench_62 : decode cX9_bench 62 = .ok (.aload_n 0, 1) := by decide +kernel
theorem dX9_bench_63 : decode cX9_bench 63 = .ok (.getfield 56, 3) := by decide +kernel
theorem dX9_bench_66 : decode cX9_bench 66 = .ok (.getfield 165, 3) := by decide +kernel
theorem dX9_bench_69 : decode cX9_bench 69 = .ok (.iload_n 1, 1) := by decide +kernel
theorem dX9_bench_70 : decode cX9_bench 70 = .ok (.iaload, 1) := by decide +kernel
theorem dX9_bench_71 : decode cX9_bench 71 = .ok (.ireturn, 1) := by decide +kernel
theorem dX9_bench_72 : decode cX9_bench 72 = .ok (.aload_n 0, 1) := by decide +kernel
theorem dX9_bench_73 : decode cX9_bench 73 = .ok (.getfield 56, 3) := by decide +kernel
theorem dX9_bench_76 : decode cX9_bench 76 = .ok (.getfield 168, 3) := by decide +kernel
theorem dX9_bench_79 : decode cX9_bench 79 = .ok (.iload_n 1, 1) := by decide +kernel
theorem dX9_bench_80 : decode cX9_bench 80 = .ok (.iaload, 1) := by decide +kernel
theorem dX9_bench_81 : decode cX9_bench 81 = .ok (.ireturn, 1) := by decide +kernel
theorem dX9_bench_82 : decode cX9_bench 82 = .ok (.aload_n 0, 1) := by decide +kernel
theorem dX9_bench_83 : decode cX9_bench 83 = .ok (.getfield 56, 3) := by decide +kernel
theorem dX9_bench_86 : decode cX9_bench 86 = .ok (.iload_n 3, 1) := by decide +kernel
theorem dX9_bench_87 : decode cX9_bench 87 = .ok (.invokevirtual 171, 3) := by decide +kernel
theorem dX9_bench_90 : decode cX9_bench 90 = .ok (.ireturn, 1) := by decide +kernel
theorem dX9_bench_91 : decode cX9_bench 91 = .ok (.aload_n 0, 1) := by decide +kernel
theorem dX9_bench_92 : decode cX9_bench 92 = .ok (.getfield 56, 3) := by decide +kernel
theorem dX9_bench_95 : decode cX9_bench 95 = .ok (.getfield 165, 3) := by decide +kernel
theorem dX9_bench_98 : decode cX9_bench 98 = .ok (.iload_n 1, 1) := by decide +kernel
theorem dX9_bench_99 : decode cX9_bench 99 = .ok (.iaload, 1) := by decide +kernel
theorem dX9_bench_100 : decode cX9_bench 100 = .ok (.aload_n 0, 1) := by decide +kernel
theorem dX9_bench_101 : decode cX9_bench 101 = .ok (.getfield 56, 3) := by decide +kernel
theorem dX9_bench_104 : decode cX9_bench 104 = .ok (.iload_n 3, 1) := by decide +kernel
theorem dX9_bench_105 : decode cX9_bench 105 = .ok (.invokevirtual 171, 3) := by decide +kernel
theorem dX9_bench_108 : decode cX9_bench 108 = .ok (.invokestatic 174, 3) := by decide +kernel
theorem dX9_bench_111 : decode cX9_bench 111 = .ok (.isub, 1) := by decide +kernel
theorem dX9_bench_112 : decode cX9_bench 112 = .ok (.ireturn, 1) := by decide +kernel
theorem dX9_bench_113 : decode cX9_bench 113 = .ok (.iconst (-1), 1) := by decide +kernel
theorem dX9_bench_114 : decode cX9_bench 114 = .ok (.ireturn, 1) := by decide +kernel
theorem hd_X9_bench : yX9_bench.cls = xCn 9 ∧ yX9_bench.cls ≠ "java/lang/invoke/MethodHandle" ∧ yX9_bench.cls ≠ "java/lang/invoke/VarHandle" ∧ (parseMethodDescriptor yX9_bench.desc).map (fun d => d.parameters.length) = some 2 := by decide +kernel
def f_X9_bench (sh : List xSh) (q0 : Nat) (x1 : Int32) (x2 : Int32) (d : xD) : Option (Int32 × xD) :=
  (xgR 9 sh d q0 4).bind fun v1 => (xon 3 sh v1 (f_X3_hasBench sh v1 x1 d)).bind fun z2 => if z2.1 = 0 then (some ((-1 : Int32), z2.2)) else ((xgR 9 sh z2.2 q0 4).bind fun v3 => (xgR 3 sh z2.2 v3 6).bind fun v4 => (xaI .int sh z2.2 v4 x1).bind fun v5 => if x2 = (0 : Int32) then (some (v5, z2.2)) else (if x2 = (1 : Int32) then ((xgR 9 sh z2.2 q0 8).bind fun v8 => (xgR 4 sh z2.2 v8 12).bind fun v9 => (xaI .int sh z2.2 v9 x1).bind fun v10 => some (v10, z2.2)) else (if x2 = (2 : Int32) then ((xgR 9 sh z2.2 q0 8).bind fun v12 => (xgR 4 sh z2.2 v12 13).bind fun v13 => (xaI .int sh z2.2 v13 x1).bind fun v14 => some (v14, z2.2)) else (if x2 = (3 : Int32) then ((xgR 9 sh z2.2 q0 8).bind fun v16 => (xon 4 sh v16 (f_X4_sittersOn sh v16 v5 z2.2)).bind fun z17 => some (z17.1, z17.2)) else (if x2 = (4 : Int32) then ((xgR 9 sh z2.2 q0 8).bind fun v19 => (xgR 4 sh z2.2 v19 12).bind fun v20 => (xaI .int sh z2.2 v20 x1).bind fun v21 => (xgR 9 sh z2.2 q0 8).bind fun v22 => (xon 4 sh v22 (f_X4_sittersOn sh v22 v5 z2.2)).bind fun z23 => (f_J6_bitCount_0f7a4 sh z23.1 z23.2).bind fun z24 => some ((v21 - z24.1), z24.2)) else (some ((-1 : Int32), z2.2)))))))
set_option maxHeartbeats 4000000 in
set_option maxRecDepth 100000 in
theorem mt_X9_bench (l : Launch) (D : va_G) (cid : FieldType → ClassId) (b : Nat) (ex : Bool) (sa sv B0 : Nat) (sh : List xSh) (q0 : Nat) (x1 : Int32) (x2 : Int32) (d : xD) (r : Int32) (dz : xD) (hf : f_X9_bench sh q0 x1 x2 d = some (r, dz)) : xMet l yX9_bench cX9_bench 4 (some .int) 1 0 0 D cid b ex sa sv B0 [.ref (b + q0), .int x1, .int x2] sh d (some (.int r)) sh dz := by
  refine xMet.of (by decide) (Nat.le_of_ble_eq_true rfl) ?_
  intro p e s m below meth c ls A S hr hin G hl
  have hl : lv_has ls 4 [(0, .ref (b + q0)), (1, .int x1), (2, .int x2)] := hl
  generalize ([.ref (b + q0), .int x1, .int x2] : List Value).toArray = av at S ⊢
  have hx := S.1
  have hb := S.2.1
  have hml := S.2.2.1
  have hown := S.2.2.2.1
  have hts := S.2.2.2.2.1
  unfold f_X9_bench at hf
  refine lv_aload_n hx hb dX9_bench_0 rfl (lv_at hl 0 rfl) ?_
  obtain ⟨v1, hv1, hf⟩ := x_ob hf
  refine xr_getR (ci := 9) (k := 4) S G hv1 rfl kw_485 dX9_bench_1 ?_
  refine lv_iload_n hx hb dX9_bench_4 rfl (lv_at hl 1 rfl) ?_
  obtain ⟨z2, hz2, hf⟩ := x_ob hf
  obtain ⟨hqz2, hz2⟩ := xon_of hz2
  refine xr_callV (ci := 3) (As := [.int x1]) (rest := []) (st1 := [.int z2.1]) S G hl.1 (fun _ => rfl) (mt_X3_hasBench l D cid b ex sa sv B0 sh v1 x1 d _ _ hz2) hqz2 (by decide) kw_732 kw_733 kw_734 kw_2 kw_735 hd_X3_hasBench ⟨Nat.le_of_ble_eq_true rfl, Nat.le_of_ble_eq_true rfl⟩ rfl rfl rfl (Nat.le_of_ble_eq_true rfl) ⟨Nat.le_of_ble_eq_true rfl, Nat.le_of_ble_eq_true rfl⟩ dX9_bench_5 (fun H locs G => ?_)
  refine lv_if_ne (tgt := 13) hx hb dX9_bench_8 (by decide) (fun c => ?_) (fun c => ?_)
  · have hf := x_neg c hf
    refine lv_aload_n hx hb dX9_bench_13 rfl (lv_at hl 0 rfl) ?_
    obtain ⟨v3, hv3, hf⟩ := x_ob hf
    refine xr_getR (ci := 9) (k := 4) S G hv3 rfl kw_485 dX9_bench_14 ?_
    obtain ⟨v4, hv4, hf⟩ := x_ob hf
    refine xr_getR (ci := 3) (k := 6) S G hv4 rfl kw_98 dX9_bench_17 ?_
    refine lv_iload_n hx hb dX9_bench_20 rfl (lv_at hl 1 rfl) ?_
    obtain ⟨v5, hv5, hf⟩ := x_ob hf
    refine xr_iald S G hv5 dX9_bench_21 ?_
    refine lv_istore_n (lv' := [(3, .int v5), (0, .ref (b + q0)), (1, .int x1), (2, .int x2)]) hx hb dX9_bench_22 rfl hl (by decide) rfl (fun ls hl => ?_)
    refine lv_iload_n hx hb dX9_bench_23 rfl (lv_at hl 3 rfl) ?_
    by_cases c6 : x2 = (0 : Int32)
    · have hf := x_pos c6 hf
      refine xr_tab (k := (0 : Int32)) (tgt := 60) hx hb c6 dX9_bench_24 (by decide) (by decide) rfl (by decide) ?_
      refine lv_iload_n hx hb dX9_bench_60 rfl (lv_at hl 0 rfl) ?_
      cases hf
      exact xr_iret S G (fun _ => rfl) hr dX9_bench_61
    · have hf := x_neg c6 hf
      by_cases c7 : x2 = (1 : Int32)
      · have hf := x_pos c7 hf
        refine xr_tab (k := (1 : Int32)) (tgt := 62) hx hb c7 dX9_bench_24 (by decide) (by decide) rfl (by decide) ?_
        refine lv_aload_n hx hb dX9_bench_62 rfl (lv_at hl 1 rfl) ?_
        obtain ⟨v8, hv8, hf⟩ := x_ob hf
        refine xr_getR (ci := 9) (k := 8) S G hv8 rfl kw_489 dX9_bench_63 ?_
        obtain ⟨v9, hv9, hf⟩ := x_ob hf
        refine xr_getR (ci := 4) (k := 12) S G hv9 rfl kw_349 dX9_bench_66 ?_
        refine lv_iload_n hx hb dX9_bench_69 rfl (lv_at hl 2 rfl) ?_
        obtain ⟨v10, hv10, hf⟩ := x_ob hf
        refine xr_iald S G hv10 dX9_bench_70 ?_
        cases hf
        exact xr_iret S G (fun _ => rfl) hr dX9_bench_71
      · have hf := x_neg c7 hf
        by_cases c11 : x2 = (2 : Int32)
        · have hf := x_pos c11 hf
          refine xr_tab (k := (2 : Int32)) (tgt := 72) hx hb c11 dX9_bench_24 (by decide) (by decide) rfl (by decide) ?_
          refine lv_aload_n hx hb dX9_bench_72 rfl (lv_at hl 1 rfl) ?_
          obtain ⟨v12, hv12, hf⟩ := x_ob hf
          refine xr_getR (ci := 9) (k := 8) S G hv12 rfl kw_489 dX9_bench_73 ?_
          obtain ⟨v13, hv13, hf⟩ := x_ob hf
          refine xr_getR (ci := 4) (k := 13) S G hv13 rfl kw_352 dX9_bench_76 ?_
          refine lv_iload_n hx hb dX9_bench_79 rfl (lv_at hl 2 rfl) ?_
          obtain ⟨v14, hv14, hf⟩ := x_ob hf
          refine xr_iald S G hv14 dX9_bench_80 ?_
          cases hf
          exact xr_iret S G (fun _ => rfl) hr dX9_bench_81
        · have hf := x_neg c11 hf
          by_cases c15 : x2 = (3 : Int32)
          · have hf := x_pos c15 hf
            refine xr_tab (k := (3 : Int32)) (tgt := 82) hx hb c15 dX9_bench_24 (by decide) (by decide) rfl (by decide) ?_
            refine lv_aload_n hx hb dX9_bench_82 rfl (lv_at hl 1 rfl) ?_
            obtain ⟨v16, hv16, hf⟩ := x_ob hf
            refine xr_getR (ci := 9) (k := 8) S G hv16 rfl kw_489 dX9_bench_83 ?_
            refine lv_iload_n hx hb dX9_bench_86 rfl (lv_at hl 0 rfl) ?_
            obtain ⟨z17, hz17, hf⟩ := x_ob hf
            obtain ⟨hqz17, hz17⟩ := xon_of hz17
            refine xr_callV (ci := 4) (As := [.int v5]) (rest := []) (st1 := [.int z17.1]) S G hl.1 (fun _ => rfl) (mt_X4_sittersOn l D cid b ex sa sv B0 sh v16 v5 z2.2 _ _ hz17) hqz17 (by decide) kw_736 kw_737 kw_738 kw_12 kw_739 hd_X4_sittersOn ⟨Nat.le_of_ble_eq_true rfl, Nat.le_of_ble_eq_true rfl⟩ rfl rfl rfl (Nat.le_of_ble_eq_true rfl) ⟨Nat.le_of_ble_eq_true rfl, Nat.le_of_ble_eq_true rfl⟩ dX9_bench_87 (fun H locs G => ?_)
            cases hf
            exact xr_iret S G (fun _ => rfl) hr dX9_bench_90
          · have hf := x_neg c15 hf
            by_cases c18 : x2 = (4 : Int32)
            · have hf := x_pos c18 hf
              refine xr_tab (k := (4 : Int32)) (tgt := 91) hx hb c18 dX9_bench_24 (by decide) (by decide) rfl (by decide) ?_
              refine lv_aload_n hx hb dX9_bench_91 rfl (lv_at hl 1 rfl) ?_
              obtain ⟨v19, hv19, hf⟩ := x_ob hf
              refine xr_getR (ci := 9) (k := 8) S G hv19 rfl kw_489 dX9_bench_92 ?_
              obtain ⟨v20, hv20, hf⟩ := x_ob hf
              refine xr_getR (ci := 4) (k := 12) S G hv20 rfl kw_349 dX9_bench_95 ?_
              refine lv_iload_n hx hb dX9_bench_98 rfl (lv_at hl 2 rfl) ?_
              obtain ⟨v21, hv21, hf⟩ := x_ob hf
              refine xr_iald S G hv21 dX9_bench_99 ?_
              refine lv_aload_n hx hb dX9_bench_100 rfl (lv_at hl 1 rfl) ?_
              obtain ⟨v22, hv22, hf⟩ := x_ob hf
              refine xr_getR (ci := 9) (k := 8) S G hv22 rfl kw_489 dX9_bench_101 ?_
              refine lv_iload_n hx hb dX9_bench_104 rfl (lv_at hl 0 rfl) ?_
              obtain ⟨z23, hz23, hf⟩ := x_ob hf
              obtain ⟨hqz23, hz23⟩ := xon_of hz23
              refine xr_callV (ci := 4) (As := [.int v5]) (rest := [.int v21]) (st1 := [.int z23.1, .int v21]) S G hl.1 (fun _ => rfl) (mt_X4_sittersOn l D cid b ex sa sv B0 sh v22 v5 z2.2 _ _ hz23) hqz23 (by decide) kw_736 kw_737 kw_738 kw_12 kw_739 hd_X4_sittersOn ⟨Nat.le_of_ble_eq_true rfl, Nat.le_of_ble_eq_true rfl⟩ rfl rfl rfl (Nat.le_of_ble_eq_true rfl) ⟨Nat.le_of_ble_eq_true rfl, Nat.le_of_ble_eq_true rfl⟩ dX9_bench_105 (fun H locs G => ?_)
              obtain ⟨z24, hz24, hf⟩ := x_ob hf
              refine xr_callS (As := [.int z23.1]) (rest := [.int v21]) (st1 := [.int z24.1, .int v21]) S G hl.1 (fun _ => rfl) (mt_J6_bitCount_0f7a4 l D cid b ex sa sv B0 sh z23.1 z23.2 _ _ hz24) kw_740 kw_741 kw_24 kw_742 hd_J6_bitCount_0f7a4 ⟨Nat.le_of_ble_eq_true rfl, Nat.le_of_ble_eq_true rfl⟩ rfl rfl rfl (Nat.le_of_ble_eq_true rfl) ⟨Nat.le_of_ble_eq_true rfl, Nat.le_of_ble_eq_true rfl⟩ dX9_bench_108 (fun H locs G => ?_)
              refine lv_isub hx hb dX9_bench_111 ?_
              cases hf
              exact xr_iret S G (fun _ => rfl) hr dX9_bench_112
            · have hf := x_neg c18 hf
              have hks : ∀ z ∈ ([0, 1, 2, 3, 4] : List Int), (x2).toInt ≠ z := by
                intro z hz
                simp only [List.mem_cons, List.not_mem_nil, or_false] at hz
                rcases hz with rfl | rfl | rfl | rfl | rfl
                · exact x_toInt_ne 0 c6 (by decide)
                · exact x_toInt_ne 1 c7 (by decide)
                · exact x_toInt_ne 2 c11 (by decide)
                · exact x_toInt_ne 3 c15 (by decide)
                · exact x_toInt_ne 4 c18 (by decide)
              refine xr_tabD (tgt := 113) [0, 1, 2, 3, 4] hx hb dX9_bench_24 hks (by decide) (by decide) (by decide) ?_
              refine lv_iconst (v := (-1 : Int32)) hx hb dX9_bench_113 (by decide) ?_
              cases hf
              exact xr_iret S G (fun _ => rfl) hr dX9_bench_114
  · have hf := x_pos c hf
    refine lv_iconst (v := (-1 : Int32)) hx hb dX9_bench_11 (by decide) ?_
    cases hf
    exact xr_iret S G (fun _ => rfl) hr dX9_bench_12
-- HalfLandings.restOf(II)I
theorem dX9_restOf_0 : decode cX9_restOf 0 = .ok (.iload_n 1, 1) := by decide +kernel
theorem dX9_restOf_1 : decode cX9_restOf 1 = .ok (.ifCond .lt 14, 3) := by decide +kernel
theorem dX9_restOf_4 : decode cX9_restOf 4 = .ok (.iload_n 1, 1) := by decide +kernel
theorem dX9_restOf_5 : decode cX9_restOf 5 = .ok (.aload_n 0, 1) := by decide +kernel
theorem dX9_restOf_6 : decode cX9_restOf 6 = .ok (.getfield 56, 3) := by decide +kernel
theorem dX9_restOf_9 : decode cX9_restOf 9 = .ok (.getfield 179, 3) := by decide +kernel
theorem dX9_restOf_12 : decode cX9_restOf 12 = .ok (.if_icmp .lt 5, 3) := by decide +kernel
theorem dX9_restOf_15 : decode cX9_restOf 15 = .ok (.iconst (-1), 1) := by decide +kernel
theorem dX9_restOf_16 : decode cX9_restOf 16 = .ok (.ireturn, 1) := by decide +kernel
theorem dX9_restOf_17 : decode cX9_restOf 17 = .ok (.iload_n 2, 1) := by decide +kernel
theorem dX9_restOf_18 : decode cX9_restOf 18 = .ok (.tableswitch 70 0 3 #[30, 40, 50, 60], 30) := by decide +kernel
theorem dX9_restOf_48 : decode cX9_restOf 48 = .ok (.aload_n 0, 1) := by decide +kernel
theorem dX9_restOf_49 : decode cX9_restOf 49 = .ok (.getfield 56, 3) := by decide +kernel
theorem dX9_restOf_52 : decode cX9_restOf 52 = .ok (.getfield 182, 3) := by decide +kernel
theorem dX9_restOf_55 : decode cX9_restOf 55 = .ok (.iload_n 1, 1) := by decide +kernel
theorem dX9_restOf_56 : decode cX9_restOf 56 = .ok (.iaload, 1) := by decide +kernel
theorem dX9_restOf_57 : decode cX9_restOf 57 = .ok (.ireturn, 1) := by decide +kernel
theorem dX9_restOf_58 : decode cX9_restOf 58 = .ok (.aload_n 0, 1) := by decide +kernel
theorem dX9_restOf_59 : decode cX9_restOf 59 = .ok (.getfield 56, 3) := by decide +kernel
theorem dX9_restOf_62 : decode cX9_restOf 62 = .ok (.getfield 185, 3) := by decide +kernel
theorem dX9_restOf_65 : decode cX9_restOf 65 = .ok (.iload_n 1, 1) := by decide +kernel
theorem dX9_restOf_66 : decode cX9_restOf 66 = .ok (.iaload, 1) := by decide +kernel
theorem dX9_restOf_67 : decode cX9_restOf 67 = .ok (.ireturn, 1) := by decide +kernel
theorem dX9_restOf_68 : decode cX9_restOf 68 = .ok (.aload_n 0, 1) := by decide +kernel
theorem dX9_restOf_69 : decode cX9_restOf 69 = .ok (.getfield 56, 3) := by decide +kernel
theorem dX9_restOf_72 : decode cX9_restOf 72 = .ok (.getfield 188, 3) := by decide +kernel
theorem dX9_restOf_75 : decode cX9_restOf 75 = .ok (.iload_n 1, 1) := by decide +kernel
theorem dX9_restOf_76 : decode cX9_restOf 76 = .ok (.iaload, 1) := by decide +kernel
theorem dX9_restOf_77 : decode cX9_restOf 77 = .ok (.ireturn, 1) := by decide +kernel
theorem dX9_restOf_78 : decode cX9_restOf 78 = .ok (.aload_n 0, 1) := by decide +kernel
theorem dX9_restOf_79 : decode cX9_restOf 79 = .ok (.getfield 56, 3) := by decide +kernel
theorem dX9_restOf_82 : decode cX9_restOf 82 = .ok (.getfield 191, 3) := by decide +kernel
theorem dX9_restOf_85 : decode cX9_restOf 85 = .ok (.iload_n 1, 1) := by decide +kernel
theorem dX9_restOf_86 : decode cX9_restOf 86 = .ok (.iaload, 1) := by decide +kernel
theorem dX9_restOf_87 : decode cX9_restOf 87 = .ok (.ireturn, 1) := by decide +kernel
theorem dX9_restOf_88 : decode cX9_restOf 88 = .ok (.iconst (-1), 1) := by decide +kernel
theorem dX9_restOf_89 : decode cX9_restOf 89 = .ok (.ireturn, 1) := by decide +kernel
theorem hd_X9_restOf : yX9_restOf.cls = xCn 9 ∧ yX9_restOf.cls ≠ "java/lang/invoke/MethodHandle" ∧ yX9_restOf.cls ≠ "java/lang/invoke/VarHandle" ∧ (parseMethodDescriptor yX9_restOf.desc).map (fun d => d.parameters.length) = some 2 := by decide +kernel
def k_X9_restOf_15 (sh : List xSh) (d : xD) : Option (Int32 × xD) :=
  some ((-1 : Int32), d)
def f_X9_restOf (sh : List xSh) (q0 : Nat) (x1 : Int32) (x2 : Int32) (d : xD) : Option (Int32 × xD) :=
  if x1 < 0 then (k_X9_restOf_15 sh d) else ((xgR 9 sh d q0 8).bind fun v1 => (xgI 4 sh d v1 14).bind fun v2 => if x1 < v2 then (if x2 = (0 : Int32) then ((xgR 9 sh d q0 8).bind fun v4 => (xgR 4 sh d v4 15).bind fun v5 => (xaI .int sh d v5 x1).bind fun v6 => some (v6, d)) else (if x2 = (1 : Int32) then ((xgR 9 sh d q0 8).bind fun v8 => (xgR 4 sh d v8 16).bind fun v9 => (xaI .int sh d v9 x1).bind fun v10 => some (v10, d)) else (if x2 = (2 : Int32) then ((xgR 9 sh d q0 8).bind fun v12 => (xgR 4 sh d v12 17).bind fun v13 => (xaI .int sh d v13 x1).bind fun v14 => some (v14, d)) else (if x2 = (3 : Int32) then ((xgR 9 sh d q0 8).bind fun v16 => (xgR 4 sh d v16 18).bind fun v17 => (xaI .int sh d v17 x1).bind fun v18 => some (v18, d)) else (some ((-1 : Int32), d)))))) else (k_X9_restOf_15 sh d))
set_option maxHeartbeats 4000000 in
set_option maxRecDepth 100000 in
theorem mt_X9_restOf (l : Launch) (D : va_G) (cid : FieldType → ClassId) (b : Nat) (ex : Bool) (sa sv B0 : Nat) (sh : List xSh) (q0 : Nat) (x1 : Int32) (x2 : Int32) (d : xD) (r : Int32) (dz : xD) (hf : f_X9_restOf sh q0 x1 x2 d = some (r, dz)) : xMet l yX9_restOf cX9_restOf 3 (some .int) 0 0 0 D cid b ex sa sv B0 [.ref (b + q0), .int x1, .int x2] sh d (some (.int r)) sh dz := by
  refine xMet.of (by decide) (Nat.le_of_ble_eq_true rfl) ?_
  intro p e s m below meth c ls A S hr hin G hl
  have hl : lv_has ls 3 [(0, .ref (b + q0)), (1, .int x1), (2, .int x2)] := hl
  generalize ([.ref (b + q0), .int x1, .int x2] : List Value).toArray = av at S ⊢
  have hx := S.1
  have hb := S.2.1
  have hml := S.2.2.1
  have hown := S.2.2.2.1
  have hts := S.2.2.2.2.1
  have K15 : ∀ (d : xD), k_X9_restOf_15 sh d = some (r, dz) → ∀ (H : Heap) (locs : List Loc) (ls : Array Slot), lv_has ls 3 [] → xG D cid b A sh d s H locs → W p l e (xRm 0 0 0) s m av below meth c H locs 0 0 (MQ below (xQ D cid b ex A (some (.int r)) sh dz) av s 0 0 A) (F0 m 15 ls []) := by
    intro d hf H locs ls hl G
    unfold k_X9_restOf_15 at hf
    refine lv_iconst (v := (-1 : Int32)) hx hb dX9_restOf_15 (by decide) ?_
    cases hf
    exact xr_iret S G (fun _ => rfl) hr dX9_restOf_16
  unfold f_X9_restOf at hf
  refine lv_iload_n hx hb dX9_restOf_0 rfl (lv_at hl 1 rfl) ?_
  refine lv_if_lt (tgt := 15) hx hb dX9_restOf_1 (by decide) (fun c => ?_) (fun c => ?_)
  · have hf := x_pos c hf
    exact K15 d hf _ _ ls (lv_sub hl [] rfl) G
  · have hf := x_neg c hf
    refine lv_iload_n hx hb dX9_restOf_4 rfl (lv_at hl 1 rfl) ?_
    refine lv_aload_n hx hb dX9_restOf_5 rfl (lv_at hl 0 rfl) ?_
    obtain ⟨v1, hv1, hf⟩ := x_ob hf
    refine xr_getR (ci := 9) (k := 8) S G hv1 rfl kw_489 dX9_restOf_6 ?_
    obtain ⟨v2, hv2, hf⟩ := x_ob hf
    refine xr_getI (ci := 4) (k := 14) S G hv2 rfl kw_354 dX9_restOf_9 ?_
    refine lv_icmp_lt (tgt := 17) hx hb dX9_restOf_12 (by decide) (fun c => ?_) (fun c => ?_)
    · have hf := x_pos c hf
      refine lv_iload_n hx hb dX9_restOf_17 rfl (lv_at hl 2 rfl) ?_
      by_cases c3 : x2 = (0 : Int32)
      · have hf := x_pos c3 hf
        refine xr_tab (k := (0 : Int32)) (tgt := 48) hx hb c3 dX9_restOf_18 (by decide) (by decide) rfl (by decide) ?_
        refine lv_aload_n hx hb dX9_restOf_48 rfl (lv_at hl 0 rfl) ?_
        obtain ⟨v4, hv4, hf⟩ := x_ob hf
        refine xr_getR (ci := 9) (k := 8) S G hv4 rfl kw_489 dX9_restOf_49 ?_
        obtain ⟨v5, hv5, hf⟩ := x_ob hf
        refine xr_getR (ci := 4) (k := 15) S G hv5 rfl kw_356 dX9_restOf_52 ?_
        refine lv_iload_n hx hb dX9_restOf_55 rfl (lv_at hl 1 rfl) ?_
        obtain ⟨v6, hv6, hf⟩ := x_ob hf
        refine xr_iald S G hv6 dX9_restOf_56 ?_
        cases hf
        exact xr_iret S G (fun _ => rfl) hr dX9_restOf_57
      · have hf := x_neg c3 hf
        by_cases c7 : x2 = (1 : Int32)
        · have hf := x_pos c7 hf
          refine xr_tab (k := (1 : Int32)) (tgt := 58) hx hb c7 dX9_restOf_18 (by decide) (by decide) rfl (by decide) ?_
          refine lv_aload_n hx hb dX9_restOf_58 rfl (lv_at hl 0 rfl) ?_
          obtain ⟨v8, hv8, hf⟩ := x_ob hf
          refine xr_getR (ci := 9) (k := 8) S G hv8 rfl kw_489 dX9_restOf_59 ?_
          obtain ⟨v9, hv9, hf⟩ := x_ob hf
          refine xr_getR (ci := 4) (k := 16) S G hv9 rfl kw_358 dX9_restOf_62 ?_
          refine lv_iload_n hx hb dX9_restOf_65 rfl (lv_at hl 1 rfl) ?_
          obtain ⟨v10, hv10, hf⟩ := x_ob hf
          refine xr_iald S G hv10 dX9_restOf_66 ?_
          cases hf
          exact xr_iret S G (fun _ => rfl) hr dX9_restOf_67
        · have hf := x_neg c7 hf
          by_cases c11 : x2 = (2 : Int32)
          · have hf := x_pos c11 hf
            refine xr_tab (k := (2 : Int32)) (tgt := 68) hx hb c11 dX9_restOf_18 (by decide) (by decide) rfl (by decide) ?_
            refine lv_aload_n hx hb dX9_restOf_68 rfl (lv_at hl 0 rfl) ?_
            obtain ⟨v12, hv12, hf⟩ := x_ob hf
            refine xr_getR (ci := 9) (k := 8) S G hv12 rfl kw_489 dX9_restOf_69 ?_
            obtain ⟨v13, hv13, hf⟩ := x_ob hf
            refine xr_getR (ci := 4) (k := 17) S G hv13 rfl kw_361 dX9_restOf_72 ?_
            refine lv_iload_n hx hb dX9_restOf_75 rfl (lv_at hl 1 rfl) ?_
            obtain ⟨v14, hv14, hf⟩ := x_ob hf
            refine xr_iald S G hv14 dX9_restOf_76 ?_
            cases hf
            exact xr_iret S G (fun _ => rfl) hr dX9_restOf_77
          · have hf := x_neg c11 hf
            by_cases c15 : x2 = (3 : Int32)
            · have hf := x_pos c15 hf
              refine xr_tab (k := (3 : Int32)) (tgt := 78) hx hb c15 dX9_restOf_18 (by decide) (by decide) rfl (by decide) ?_
              refine lv_aload_n hx hb dX9_restOf_78 rfl (lv_at hl 0 rfl) ?_
              obtain ⟨v16, hv16, hf⟩ := x_ob hf
              refine xr_getR (ci := 9) (k := 8) S G hv16 rfl kw_489 dX9_restOf_79 ?_
              obtain ⟨v17, hv17, hf⟩ := x_ob hf
              refine xr_getR (ci := 4) (k := 18) S G hv17 rfl kw_364 dX9_restOf_82 ?_
              refine lv_iload_n hx hb dX9_restOf_85 rfl (lv_at hl 1 rfl) ?_
              obtain ⟨v18, hv18, hf⟩ := x_ob hf
              refine xr_iald S G hv18 dX9_restOf_86 ?_
              cases hf
              exact xr_iret S G (fun _ => rfl) hr dX9_restOf_87
            · have hf := x_neg c15 hf
              have hks : ∀ z ∈ ([0, 1, 2, 3] : List Int), (x2).toInt ≠ z := by
                intro z hz
                simp only [List.mem_cons, List.not_mem_nil, or_false] at hz
                rcases hz with rfl | rfl | rfl | rfl
                · exact x_toInt_ne 0 c3 (by decide)
                · exact x_toInt_ne 1 c7 (by decide)
                · exact x_toInt_ne 2 c11 (by decide)
                · exact x_toInt_ne 3 c15 (by decide)
              refine xr_tabD (tgt := 88) [0, 1, 2, 3] hx hb dX9_restOf_18 hks (by decide) (by decide) (by decide) ?_
              refine lv_iconst (v := (-1 : Int32)) hx hb dX9_restOf_88 (by decide) ?_
              cases hf
              exact xr_iret S G (fun _ => rfl) hr dX9_restOf_89
    · have hf := x_neg c hf
      exact K15 d hf _ _ ls (lv_sub hl [] rfl) G
-- HalfLandings.piano()I
theorem dX9_piano_0 : decode cX9_piano 0 = .ok (.aload_n 0, 1) := by decide +kernel
theorem dX9_piano_1 : decode cX9_piano 1 = .ok (.getfield 56, 3) := by decide +kernel
theorem dX9_piano_4 : decode cX9_piano 4 = .ok (.getfield 194, 3) := by decide +kernel
theorem dX9_piano_7 : decode cX9_piano 7 = .ok (.ireturn, 1) := by decide +kernel
theorem hd_X9_piano : yX9_piano.cls = xCn 9 ∧ yX9_piano.cls ≠ "java/lang/invoke/MethodHandle" ∧ yX9_piano.cls ≠ "java/lang/invoke/VarHandle" ∧ (parseMethodDescriptor yX9_piano.desc).map (fun d => d.parameters.length) = some 0 := by decide +kernel
def f_X9_piano (sh : List xSh) (q0 : Nat) (d : xD) : Option (Int32 × xD) :=
  (xgR 9 sh d q0 8).bind fun v1 => (xgI 4 sh d v1 2).bind fun v2 => some (v2, d)
set_option maxHeartbeats 4000000 in
set_option maxRecDepth 100000 in
theorem mt_X9_piano (l : Launch) (D : va_G) (cid : FieldType → ClassId) (b : Nat) (ex : Bool) (sa sv B0 : Nat) (sh : List xSh) (q0 : Nat) (d : xD) (r : Int32) (dz : xD) (hf : f_X9_piano sh q0 d = some (r, dz)) : xMet l yX9_piano cX9_piano 1 (some .int) 0 0 0 D cid b ex sa sv B0 [.ref (b + q0)] sh d (some (.int r)) sh dz := by
  refine xMet.of (by decide) (Nat.le_of_ble_eq_true rfl) ?_
  intro p e s m below meth c ls A S hr hin G hl
  have hl : lv_has ls 1 [(0, .ref (b + q0))] := hl
  generalize ([.ref (b + q0)] : List Value).toArray = av at S ⊢
  have hx := S.1
  have hb := S.2.1
  have hml := S.2.2.1
  have hown := S.2.2.2.1
  have hts := S.2.2.2.2.1
  unfold f_X9_piano at hf
  refine lv_aload_n hx hb dX9_piano_0 rfl (lv_at hl 0 rfl) ?_
  obtain ⟨v1, hv1, hf⟩ := x_ob hf
  refine xr_getR (ci := 9) (k := 8) S G hv1 rfl kw_489 dX9_piano_1 ?_
  obtain ⟨v2, hv2, hf⟩ := x_ob hf
  refine xr_getI (ci := 4) (k := 2) S G hv2 rfl kw_322 dX9_piano_4 ?_
  cases hf
  exact xr_iret S G (fun _ => rfl) hr dX9_piano_7
-- HalfLandings.law(III)J
theorem dX9_law_0 : decode cX9_law 0 = .ok (.iload_n 1, 1) := by decide +kernel
theorem dX9_law_1 : decode cX9_law 1 = .ok (.ifCond .lt 30, 3) := by decide +kernel
theorem dX9_law_4 : decode cX9_law 4 = .ok (.iload_n 1, 1) := by decide +kernel
theorem dX9_law_5 : decode cX9_law 5 = .ok (.iconst 3, 1) := by decide +kernel
theorem dX9_law_6 : decode cX9_law 6 = .ok (.if_icmp .ge 25, 3) := by decide +kernel
theorem dX9_law_9 : decode cX9_law 9 = .ok (.aload_n 0, 1) := by decide +kernel
theorem dX9_law_10 : decode cX9_law 10 = .ok (.getfield 28, 3) := by decide +kernel
theorem dX9_law_13 : decode cX9_law 13 = .ok (.iload_n 2, 1) := by decide +kernel
theorem dX9_law_14 : decode cX9_law 14 = .ok (.invokevirtual 121, 3) := by decide +kernel
theorem dX9_law_17 : decode cX9_law 17 = .ok (.ifCond .eq 14, 3) := by decide +kernel
theorem dX9_law_20 : decode cX9_law 20 = .ok (.aload_n 0, 1) := by decide +kernel
theorem dX9_law_21 : decode cX9_law 21 = .ok (.getfield 28, 3) := by decide +kernel
theorem dX9_law_24 : decode cX9_law 24 = .ok (.iload_n 3, 1) := by decide +kernel
theorem dX9_law_25 : decode cX9_law 25 = .ok (.invokevirtual 159, 3) := by decide +kernel
theorem dX9_law_28 : decode cX9_law 28 = .ok (.ifCond .ne 7, 3) := by decide +kernel
theorem dX9_law_31 : decode cX9_law 31 = .ok (.ldc2_w 197, 3) := by decide +kernel
theorem dX9_law_34 : decode cX9_law 34 = .ok (.lreturn, 1) := by decide +kernel
theorem dX9_law_35 : decode cX9_law 35 = .ok (.aload_n 0, 1) := by decide +kernel
theorem dX9_law_36 : decode cX9_law 36 = .ok (.getfield 75, 3) := by decide +kernel
theorem dX9_law_39 : decode cX9_law 39 = .ok (.aload_n 0, 1) := by decide +kernel
theorem dX9_law_40 : decode cX9_law 40 = .ok (.getfield 56, 3) := by decide +kernel
theorem dX9_law_43 : decode cX9_law 43 = .ok (.iload_n 1, 1) := by decide +kernel
theorem dX9_law_44 : decode cX9_law 44 = .ok (.iload_n 2, 1) := by decide +kernel
theorem dX9_law_45 : decode cX9_law 45 = .ok (.iload_n 3, 1) := by decide +kernel
theorem dX9_law_46 : decode cX9_law 46 = .ok (.invokevirtual 199, 3) := by decide +kernel
theorem dX9_law_49 : decode cX9_law 49 = .ok (.lreturn, 1) := by decide +kernel
theorem hd_X9_law : yX9_law.cls = xCn 9 ∧ yX9_law.cls ≠ "java/lang/invoke/MethodHandle" ∧ yX9_law.cls ≠ "java/lang/invoke/VarHandle" ∧ (parseMethodDescriptor yX9_law.desc).map (fun d => d.parameters.length) = some 3 := by decide +kernel
def k_X9_law_31 (sh : List xSh) (d : xD) : Option (Int64 × xD) :=
  some ((-9223372036854775808 : Int64), d)
def f_X9_law (sh : List xSh) (q0 : Nat) (x1 : Int32) (x2 : Int32) (x3 : Int32) (d : xD) : Option (Int64 × xD) :=
  if x1 < 0 then (k_X9_law_31 sh d) else (if (3 : Int32) ≤ x1 then (k_X9_law_31 sh d) else ((xgR 9 sh d q0 4).bind fun v1 => (xon 3 sh v1 (f_X3_hasWalker sh v1 x2 d)).bind fun z2 => if z2.1 = 0 then (k_X9_law_31 sh z2.2) else ((xgR 9 sh z2.2 q0 4).bind fun v3 => (xon 3 sh v3 (f_X3_hasBench sh v3 x3 z2.2)).bind fun z4 => if z4.1 = 0 then (k_X9_law_31 sh z4.2) else ((xgR 9 sh z4.2 q0 12).bind fun v5 => (xgR 9 sh z4.2 q0 8).bind fun v6 => (xon 2 sh v5 (f_X2_worth sh v5 v6 x1 x2 x3 z4.2)).bind fun z7 => some (z7.1, z7.2)))))
set_option maxHeartbeats 4000000 in
set_option maxRecDepth 100000 in
theorem mt_X9_law (l : Launch) (D : va_G) (cid : FieldType → ClassId) (b : Nat) (ex : Bool) (sa sv B0 : Nat) (sh : List xSh) (q0 : Nat) (x1 : Int32) (x2 : Int32) (x3 : Int32) (d : xD) (r : Int64) (dz : xD) (hf : f_X9_law sh q0 x1 x2 x3 d = some (r, dz)) : xMet l yX9_law cX9_law 4 (some .long) 3 0 0 D cid b ex sa sv B0 [.ref (b + q0), .int x1, .int x2, .int x3] sh d (some (.long r)) sh dz := by
  refine xMet.of (by decide) (Nat.le_of_ble_eq_true rfl) ?_
  intro p e s m below meth c ls A S hr hin G hl
  have hl : lv_has ls 4 [(0, .ref (b + q0)), (1, .int x1), (2, .int x2), (3, .int x3)] := hl
  generalize ([.ref (b + q0), .int x1, .int x2, .int x3] : List Value).toArray = av at S ⊢
  have hx := S.1
  have hb := S.2.1
  have hml := S.2.2.1
  have hown := S.2.2.2.1
  have hts := S.2.2.2.2.1
  have K31 : ∀ (d : xD), k_X9_law_31 sh d = some (r, dz) → ∀ (H : Heap) (locs : List Loc) (ls : Array Slot), lv_has ls 4 [] → xG D cid b A sh d s H locs → W p l e (xRm 3 0 0) s m av below meth c H locs 0 0 (MQ below (xQ D cid b ex A (some (.long r)) sh dz) av s 0 0 A) (F0 m 31 ls []) := by
    intro d hf H locs ls hl G
    unfold k_X9_law_31 at hf
    refine lv_ldc2 (v := (-9223372036854775808 : Int64)) hx hb hown (hts _ kw_762) dX9_law_31 ?_
    cases hf
    exact xr_lret S G (fun _ => rfl) hr dX9_law_34
  unfold f_X9_law at hf
  refine lv_iload_n hx hb dX9_law_0 rfl (lv_at hl 1 rfl) ?_
  refine lv_if_lt (tgt := 31) hx hb dX9_law_1 (by decide) (fun c => ?_) (fun c => ?_)
  · have hf := x_pos c hf
    exact K31 d hf _ _ ls (lv_sub hl [] rfl) G
  · have hf := x_neg c hf
    refine lv_iload_n hx hb dX9_law_4 rfl (lv_at hl 1 rfl) ?_
    refine lv_iconst (v := (3 : Int32)) hx hb dX9_law_5 (by decide) ?_
    refine lv_icmp_ge (tgt := 31) hx hb dX9_law_6 (by decide) (fun c => ?_) (fun c => ?_)
    · have hf := x_pos c hf
      exact K31 d hf _ _ ls (lv_sub hl [] rfl) G
    · have hf := x_neg c hf
      refine lv_aload_n hx hb dX9_law_9 rfl (lv_at hl 0 rfl) ?_
      obtain ⟨v1, hv1, hf⟩ := x_ob hf
      refine xr_getR (ci := 9) (k := 4) S G hv1 rfl kw_485 dX9_law_10 ?_
      refine lv_iload_n hx hb dX9_law_13 rfl (lv_at hl 2 rfl) ?_
      obtain ⟨z2, hz2, hf⟩ := x_ob hf
      obtain ⟨hqz2, hz2⟩ := xon_of hz2
      refine xr_callV (ci := 3) (As := [.int x2]) (rest := []) (st1 := [.int z2.1]) S G hl.1 (fun _ => rfl) (mt_X3_hasWalker l D cid b ex sa sv B0 sh v1 x2 d _ _ hz2) hqz2 (by decide) kw_758 kw_759 kw_760 kw_2 kw_761 hd_X3_hasWalker ⟨Nat.le_of_ble_eq_true rfl, Nat.le_of_ble_eq_true rfl⟩ rfl rfl rfl (Nat.le_of_ble_eq_true rfl) ⟨Nat.le_of_ble_eq_true rfl, Nat.le_of_ble_eq_true rfl⟩ dX9_law_14 (fun H locs G => ?_)
      refine lv_if_eq (tgt := 31) hx hb dX9_law_17 (by decide) (fun c => ?_) (fun c => ?_)
      · have hf := x_pos c hf
        exact K31 z2.2 hf _ _ ls (lv_sub hl [] rfl) G
      · have hf := x_neg c hf
        refine lv_aload_n hx hb dX9_law_20 rfl (lv_at hl 0 rfl) ?_
        obtain ⟨v3, hv3, hf⟩ := x_ob hf
        refine xr_getR (ci := 9) (k := 4) S G hv3 rfl kw_485 dX9_law_21 ?_
        refine lv_iload_n hx hb dX9_law_24 rfl (lv_at hl 3 rfl) ?_
        obtain ⟨z4, hz4, hf⟩ := x_ob hf
        obtain ⟨hqz4, hz4⟩ := xon_of hz4
        refine xr_callV (ci := 3) (As := [.int x3]) (rest := []) (st1 := [.int z4.1]) S G hl.1 (fun _ => rfl) (mt_X3_hasBench l D cid b ex sa sv B0 sh v3 x3 z2.2 _ _ hz4) hqz4 (by decide) kw_732 kw_733 kw_734 kw_2 kw_735 hd_X3_hasBench ⟨Nat.le_of_ble_eq_true rfl, Nat.le_of_ble_eq_true rfl⟩ rfl rfl rfl (Nat.le_of_ble_eq_true rfl) ⟨Nat.le_of_ble_eq_true rfl, Nat.le_of_ble_eq_true rfl⟩ dX9_law_25 (fun H locs G => ?_)
        refine lv_if_ne (tgt := 35) hx hb dX9_law_28 (by decide) (fun c => ?_) (fun c => ?_)
        · have hf := x_neg c hf
          refine lv_aload_n hx hb dX9_law_35 rfl (lv_at hl 0 rfl) ?_
          obtain ⟨v5, hv5, hf⟩ := x_ob hf
          refine xr_getR (ci := 9) (k := 12) S G hv5 rfl kw_493 dX9_law_36 ?_
          refine lv_aload_n hx hb dX9_law_39 rfl (lv_at hl 0 rfl) ?_
          obtain ⟨v6, hv6, hf⟩ := x_ob hf
          refine xr_getR (ci := 9) (k := 8) S G hv6 rfl kw_489 dX9_law_40 ?_
          refine lv_iload_n hx hb dX9_law_43 rfl (lv_at hl 1 rfl) ?_
          refine lv_iload_n hx hb dX9_law_44 rfl (lv_at hl 2 rfl) ?_
          refine lv_iload_n hx hb dX9_law_45 rfl (lv_at hl 3 rfl) ?_
          obtain ⟨z7, hz7, hf⟩ := x_ob hf
          obtain ⟨hqz7, hz7⟩ := xon_of hz7
          refine xr_callV (ci := 2) (As := [.ref (b + v6), .int x1, .int x2, .int x3]) (rest := []) (st1 := [.long z7.1]) S G hl.1 (fun _ => rfl) (mt_X2_worth l D cid b ex sa sv B0 sh v5 v6 x1 x2 x3 z4.2 _ _ hz7) hqz7 (by decide) kw_763 kw_764 kw_765 kw_13 kw_766 hd_X2_worth ⟨Nat.le_of_ble_eq_true rfl, Nat.le_of_ble_eq_true rfl⟩ rfl rfl rfl (Nat.le_of_ble_eq_true rfl) ⟨Nat.le_of_ble_eq_true rfl, Nat.le_of_ble_eq_true rfl⟩ dX9_law_46 (fun H locs G => ?_)
          cases hf
          exact xr_lret S G (fun _ => rfl) hr dX9_law_49
        · have hf := x_pos c hf
          exact K31 z4.2 hf _ _ ls (lv_sub hl [] rfl) G
-- HalfLandings.sit(II)I
theorem dX9_sit_0 : decode cX9_sit 0 = .ok (.aload_n 0, 1) := by decide +kernel
theorem dX9_sit_1 : decode cX9_sit 1 = .ok (.getfield 28, 3) := by decide +kernel
theorem dX9_sit_4 : decode cX9_sit 4 = .ok (.iload_n 1, 1) := by decide +kernel
theorem dX9_sit_5 : decode cX9_sit 5 = .ok (.invokevirtual 121, 3) := by decide +kernel
theorem dX9_sit_8 : decode cX9_sit 8 = .ok (.ifCond .eq 14, 3) := by decide +kernel
theorem dX9_sit_11 : decode cX9_sit 11 = .ok (.iload_n 2, 1) := by decide +kernel
theorem dX9_sit_12 : decode cX9_sit 12 = .ok (.iconst 1, 1) := by decide +kernel
theorem dX9_sit_13 : decode cX9_sit 13 = .ok (.if_icmp .lt 9, 3) := by decide +kernel
theorem dX9_sit_16 : decode cX9_sit 16 = .ok (.iload_n 2, 1) := by decide +kernel
theorem dX9_sit_17 : decode cX9_sit 17 = .ok (.bipush 30, 2) := by decide +kernel
theorem dX9_sit_19 : decode cX9_sit 19 = .ok (.if_icmp .le 5, 3) := by decide +kernel
theorem dX9_sit_22 : decode cX9_sit 22 = .ok (.iconst (-1), 1) := by decide +kernel
theorem dX9_sit_23 : decode cX9_sit 23 = .ok (.ireturn, 1) := by decide +kernel
theorem dX9_sit_24 : decode cX9_sit 24 = .ok (.aload_n 0, 1) := by decide +kernel
theorem dX9_sit_25 : decode cX9_sit 25 = .ok (.getfield 56, 3) := by decide +kernel
theorem dX9_sit_28 : decode cX9_sit 28 = .ok (.getfield 136, 3) := by decide +kernel
theorem dX9_sit_31 : decode cX9_sit 31 = .ok (.iload_n 1, 1) := by decide +kernel
theorem dX9_sit_32 : decode cX9_sit 32 = .ok (.iaload, 1) := by decide +kernel
theorem dX9_sit_33 : decode cX9_sit 33 = .ok (.istore_n 3, 1) := by decide +kernel
theorem dX9_sit_34 : decode cX9_sit 34 = .ok (.aload_n 0, 1) := by decide +kernel
theorem dX9_sit_35 : decode cX9_sit 35 = .ok (.getfield 28, 3) := by decide +kernel
theorem dX9_sit_38 : decode cX9_sit 38 = .ok (.iload_n 3, 1) := by decide +kernel
theorem dX9_sit_39 : decode cX9_sit 39 = .ok (.invokevirtual 203, 3) := by decide +kernel
theorem dX9_sit_42 : decode cX9_sit 42 = .ok (.istore 4, 2) := by decide +kernel
theorem dX9_sit_44 : decode cX9_sit 44 = .ok (.aload_n 0, 1) := by decide +kernel
theorem dX9_sit_45 : decode cX9_sit 45 = .ok (.getfield 56, 3) := by decide +kernel
theorem dX9_sit_48 : decode cX9_sit 48 = .ok (.getfield 132, 3) := by decide +kernel
theorem dX9_sit_51 : decode cX9_sit 51 = .ok (.iload_n 1, 1) := by decide +kernel
theorem dX9_sit_52 : decode cX9_sit 52 = .ok (.iaload, 1) := by decide +kernel
theorem dX9_sit_53 : decode cX9_sit 53 = .ok (.iconst 1, 1) := by decide +kernel
theorem dX9_sit_54 : decode cX9_sit 54 = .ok (.if_icmp .ne 22, 3) := by decide +kernel
theorem dX9_sit_57 : decode cX9_sit 57 = .ok (.iload 4, 2) := by decide +kernel
theorem dX9_sit_59 : decode cX9_sit 59 = .ok (.iconst (-1), 1) := by decide +kernel
theorem dX9_sit_60 : decode cX9_sit 60 = .ok (.if_icmp .eq 16, 3) := by decide +kernel
theorem dX9_sit_63 : decode cX9_sit 63 = .ok (.aload_n 0, 1) := by decide +kernel
theorem dX9_sit_64 : decode cX9_sit 64 = .ok (.getfield 56, 3) := by decide +kernel
theorem dX9_sit_67 : decode cX9_sit 67 = .ok (.iload 4, 2) := by decide +kernel
theorem dX9_sit_69 : decode cX9_sit 69 = .ok (.iload_n 3, 1) := by decide +kernel
theorem dX9_sit_70 : decode cX9_sit 70 = .ok (.invokevirtual 206, 3) := by decide +kernel
theorem dX9_sit_73 : decode cX9_sit 73 = .ok (.ifCond .ne 6, 3) := by decide +kernel
theorem dX9_sit_76 : decode cX9_sit 76 = .ok (.bipush (-2), 2) := by decide +kernel
theorem dX9_sit_78 : decode cX9_sit 78 = .ok (.ireturn, 1) := by decide +kernel
theorem dX9_sit_79 : decode cX9_sit 79 = .ok (.aload_n 0, 1) := by decide +kernel
theorem dX9_sit_80 : decode cX9_sit 80 = .ok (.getfield 82, 3) := by decide +kernel
theorem dX9_sit_83 : decode cX9_sit 83 = .ok (.iload_n 1, 1) := by decide +kernel
theorem dX9_sit_84 : decode cX9_sit 84 = .ok (.iconst 0, 1) := by decide +kernel
theorem dX9_sit_85 : decode cX9_sit 85 = .ok (.invokevirtual 210, 3) := by decide +kernel
theorem dX9_sit_88 : decode cX9_sit 88 = .ok (.aload_n 0, 1) := by decide +kernel
theorem dX9_sit_89 : decode cX9_sit 89 = .ok (.getfield 56, 3) := by decide +kernel
theorem dX9_sit_92 : decode cX9_sit 92 = .ok (.iload_n 1, 1) := by decide +kernel
theorem dX9_sit_93 : decode cX9_sit 93 = .ok (.iload_n 2, 1) := by decide +kernel
theorem dX9_sit_94 : decode cX9_sit 94 = .ok (.invokevirtual 214, 3) := by decide +kernel
theorem dX9_sit_97 : decode cX9_sit 97 = .ok (.aload_n 0, 1) := by decide +kernel
theorem dX9_sit_98 : decode cX9_sit 98 = .ok (.getfield 56, 3) := by decide +kernel
theorem dX9_sit_101 : decode cX9_sit 101 = .ok (.iload_n 3, 1) := by decide +kernel
theorem dX9_sit_102 : decode cX9_sit 102 = .ok (.invokevirtual 171, 3) := by decide +kernel
theorem dX9_sit_105 : decode cX9_sit 105 = .ok (.invokestatic 174, 3) := by decide +kernel
theorem dX9_sit_108 : decode cX9_sit 108 = .ok (.ireturn, 1) := by decide +kernel
theorem hd_X9_sit : yX9_sit.cls = xCn 9 ∧ yX9_sit.cls ≠ "java/lang/invoke/MethodHandle" ∧ yX9_sit.cls ≠ "java/lang/invoke/VarHandle" ∧ (parseMethodDescriptor yX9_sit.desc).map (fun d => d.parameters.length) = some 2 := by decide +kernel
def k_X9_sit_22 (sh : List xSh) (d : xD) : Option (Int32 × xD) :=
  some ((-1 : Int32), d)
def k_X9_sit_76 (sh : List xSh) (d : xD) : Option (Int32 × xD) :=
  some ((-2 : Int32), d)
def f_X9_sit (sh : List xSh) (q0 : Nat) (x1 : Int32) (x2 : Int32) (d : xD) : Option (Int32 × xD) :=
  (xgR 9 sh d q0 4).bind fun v1 => (xon 3 sh v1 (f_X3_hasWalker sh v1 x1 d)).bind fun z2 => if z2.1 = 0 then (k_X9_sit_22 sh z2.2) else (if x2 < (1 : Int32) then (k_X9_sit_22 sh z2.2) else (if x2 ≤ (30 : Int32) then ((xgR 9 sh z2.2 q0 8).bind fun v3 => (xgR 4 sh z2.2 v3 6).bind fun v4 => (xaI .int sh z2.2 v4 x1).bind fun v5 => (xgR 9 sh z2.2 q0 4).bind fun v6 => (xon 3 sh v6 (f_X3_benchOn sh v6 v5 z2.2)).bind fun z7 => (xgR 9 sh z7.2 q0 8).bind fun v8 => (xgR 4 sh z7.2 v8 5).bind fun v9 => (xaI .int sh z7.2 v9 x1).bind fun v10 => if v10 = (1 : Int32) then (if z7.1 = (-1 : Int32) then (k_X9_sit_76 sh z7.2) else ((xgR 9 sh z7.2 q0 8).bind fun v11 => (xon 4 sh v11 (f_X4_seatFree sh v11 z7.1 v5 z7.2)).bind fun z12 => if z12.1 = 0 then (k_X9_sit_76 sh z12.2) else ((xgR 9 sh z12.2 q0 13).bind fun v13 => (xon 8 sh v13 (f_X8_add sh v13 x1 (0 : Int32) z12.2)).bind fun d14 => (xgR 9 sh d14 q0 8).bind fun v15 => (xon 4 sh v15 (f_X4_seat sh v15 x1 x2 d14)).bind fun d16 => (xgR 9 sh d16 q0 8).bind fun v17 => (xon 4 sh v17 (f_X4_sittersOn sh v17 v5 d16)).bind fun z18 => (f_J6_bitCount_0f7a4 sh z18.1 z18.2).bind fun z19 => some (z19.1, z19.2)))) else (k_X9_sit_76 sh z7.2)) else (k_X9_sit_22 sh z2.2)))
set_option maxHeartbeats 4000000 in
set_option maxRecDepth 100000 in
theorem mt_X9_sit (l : Launch) (D : va_G) (cid : FieldType → ClassId) (b : Nat) (ex : Bool) (sa sv B0 : Nat) (sh : List xSh) (q0 : Nat) (x1 : Int32) (x2 : Int32) (d : xD) (r : Int32) (dz : xD) (hf : f_X9_sit sh q0 x1 x2 d = some (r, dz)) : xMet l yX9_sit cX9_sit 5 (some .int) 2 0 0 D cid b ex sa sv B0 [.ref (b + q0), .int x1, .int x2] sh d (some (.int r)) sh dz := by
  refine xMet.of (by decide) (Nat.le_of_ble_eq_true rfl) ?_
  intro p e s m below meth c ls A S hr hin G hl
  have hl : lv_has ls 5 [(0, .ref (b + q0)), (1, .int x1), (2, .int x2)] := hl
  generalize ([.ref (b + q0), .int x1, .int x2] : List Value).toArray = av at S ⊢
  have hx := S.1
  have hb := S.2.1
  have hml := S.2.2.1
  have hown := S.2.2.2.1
  have hts := S.2.2.2.2.1
  have K22 : ∀ (d : xD), k_X9_sit_22 sh d = some (r, dz) → ∀ (H : Heap) (locs : List Loc) (ls : Array Slot), lv_has ls 5 [] → xG D cid b A sh d s H locs → W p l e (xRm 2 0 0) s m av below meth c H locs 0 0 (MQ below (xQ D cid b ex A (some (.int r)) sh dz) av s 0 0 A) (F0 m 22 ls []) := by
    intro d hf H locs ls hl G
    unfold k_X9_sit_22 at hf
    refine lv_iconst (v := (-1 : Int32)) hx hb dX9_sit_22 (by decide) ?_
    cases hf
    exact xr_iret S G (fun _ => rfl) hr dX9_sit_23
  have K76 : ∀ (d : xD), k_X9_sit_76 sh d = some (r, dz) → ∀ (H : Heap) (locs : List Loc) (ls : Array Slot), lv_has ls 5 [] → xG D cid b A sh d s H locs → W p l e (xRm 2 0 0) s m av below meth c H locs 0 0 (MQ below (xQ D cid b ex A (some (.int r)) sh dz) av s 0 0 A) (F0 m 76 ls []) := by
    intro d hf H locs ls hl G
    unfold k_X9_sit_76 at hf
    refine lv_bipush (v := (-2 : Int32)) hx hb dX9_sit_76 (by decide) ?_
    cases hf
    exact xr_iret S G (fun _ => rfl) hr dX9_sit_78
  unfold f_X9_sit at hf
  refine lv_aload_n hx hb dX9_sit_0 rfl (lv_at hl 0 rfl) ?_
  obtain ⟨v1, hv1, hf⟩ := x_ob hf
  refine xr_getR (ci := 9) (k := 4) S G hv1 rfl kw_485 dX9_sit_1 ?_
  refine lv_iload_n hx hb dX9_sit_4 rfl (lv_at hl 1 rfl) ?_
  obtain ⟨z2, hz2, hf⟩ := x_ob hf
  obtain ⟨hqz2, hz2⟩ := xon_of hz2
  refine xr_callV (ci := 3) (As := [.int x1]) (rest := []) (st1 := [.int z2.1]) S G hl.1 (fun _ => rfl) (mt_X3_hasWalker l D cid b ex sa sv B0 sh v1 x1 d _ _ hz2) hqz2 (by decide) kw_758 kw_759 kw_760 kw_2 kw_761 hd_X3_hasWalker ⟨Nat.le_of_ble_eq_true rfl, Nat.le_of_ble_eq_true rfl⟩ rfl rfl rfl (Nat.le_of_ble_eq_true rfl) ⟨Nat.le_of_ble_eq_true rfl, Nat.le_of_ble_eq_true rfl⟩ dX9_sit_5 (fun H locs G => ?_)
  refine lv_if_eq (tgt := 22) hx hb dX9_sit_8 (by decide) (fun c => ?_) (fun c => ?_)
  · have hf := x_pos c hf
    exact K22 z2.2 hf _ _ ls (lv_sub hl [] rfl) G
  · have hf := x_neg c hf
    refine lv_iload_n hx hb dX9_sit_11 rfl (lv_at hl 2 rfl) ?_
    refine lv_iconst (v := (1 : Int32)) hx hb dX9_sit_12 (by decide) ?_
    refine lv_icmp_lt (tgt := 22) hx hb dX9_sit_13 (by decide) (fun c => ?_) (fun c => ?_)
    · have hf := x_pos c hf
      exact K22 z2.2 hf _ _ ls (lv_sub hl [] rfl) G
    · have hf := x_neg c hf
      refine lv_iload_n hx hb dX9_sit_16 rfl (lv_at hl 2 rfl) ?_
      refine lv_bipush (v := (30 : Int32)) hx hb dX9_sit_17 (by decide) ?_
      refine lv_icmp_le (tgt := 24) hx hb dX9_sit_19 (by decide) (fun c => ?_) (fun c => ?_)
      · have hf := x_pos c hf
        refine lv_aload_n hx hb dX9_sit_24 rfl (lv_at hl 0 rfl) ?_
        obtain ⟨v3, hv3, hf⟩ := x_ob hf
        refine xr_getR (ci := 9) (k := 8) S G hv3 rfl kw_489 dX9_sit_25 ?_
        obtain ⟨v4, hv4, hf⟩ := x_ob hf
        refine xr_getR (ci := 4) (k := 6) S G hv4 rfl kw_332 dX9_sit_28 ?_
        refine lv_iload_n hx hb dX9_sit_31 rfl (lv_at hl 1 rfl) ?_
        obtain ⟨v5, hv5, hf⟩ := x_ob hf
        refine xr_iald S G hv5 dX9_sit_32 ?_
        refine lv_istore_n (lv' := [(3, .int v5), (0, .ref (b + q0)), (1, .int x1), (2, .int x2)]) hx hb dX9_sit_33 rfl hl (by decide) rfl (fun ls hl => ?_)
        refine lv_aload_n hx hb dX9_sit_34 rfl (lv_at hl 1 rfl) ?_
        obtain ⟨v6, hv6, hf⟩ := x_ob hf
        refine xr_getR (ci := 9) (k := 4) S G hv6 rfl kw_485 dX9_sit_35 ?_
        refine lv_iload_n hx hb dX9_sit_38 rfl (lv_at hl 0 rfl) ?_
        obtain ⟨z7, hz7, hf⟩ := x_ob hf
        obtain ⟨hqz7, hz7⟩ := xon_of hz7
        refine xr_callV (ci := 3) (As := [.int v5]) (rest := []) (st1 := [.int z7.1]) S G hl.1 (fun _ => rfl) (mt_X3_benchOn l D cid b ex sa sv B0 sh v6 v5 z2.2 _ _ hz7) hqz7 (by decide) kw_791 kw_625 kw_626 kw_2 kw_627 hd_X3_benchOn ⟨Nat.le_of_ble_eq_true rfl, Nat.le_of_ble_eq_true rfl⟩ rfl rfl rfl (Nat.le_of_ble_eq_true rfl) ⟨Nat.le_of_ble_eq_true rfl, Nat.le_of_ble_eq_true rfl⟩ dX9_sit_39 (fun H locs G => ?_)
        refine lv_istore (lv' := [(4, .int z7.1), (3, .int v5), (0, .ref (b + q0)), (1, .int x1), (2, .int x2)]) hx hb dX9_sit_42 hl (by decide) rfl (fun ls hl => ?_)
        refine lv_aload_n hx hb dX9_sit_44 rfl (lv_at hl 2 rfl) ?_
        obtain ⟨v8, hv8, hf⟩ := x_ob hf
        refine xr_getR (ci := 9) (k := 8) S G hv8 rfl kw_489 dX9_sit_45 ?_
        obtain ⟨v9, hv9, hf⟩ := x_ob hf
        refine xr_getR (ci := 4) (k := 5) S G hv9 rfl kw_329 dX9_sit_48 ?_
        refine lv_iload_n hx hb dX9_sit_51 rfl (lv_at hl 3 rfl) ?_
        obtain ⟨v10, hv10, hf⟩ := x_ob hf
        refine xr_iald S G hv10 dX9_sit_52 ?_
        refine lv_iconst (v := (1 : Int32)) hx hb dX9_sit_53 (by decide) ?_
        refine lv_icmp_ne (tgt := 76) hx hb dX9_sit_54 (by decide) (fun c => ?_) (fun c => ?_)
        · have hf := x_neg c hf
          exact K76 z7.2 hf _ _ ls (lv_sub hl [] rfl) G
        · have hf := x_pos c hf
          refine lv_iload hx hb dX9_sit_57 (lv_at hl 0 rfl) ?_
          refine lv_iconst (v := (-1 : Int32)) hx hb dX9_sit_59 (by decide) ?_
          refine lv_icmp_eq (tgt := 76) hx hb dX9_sit_60 (by decide) (fun c => ?_) (fun c => ?_)
          · have hf := x_pos c hf
            exact K76 z7.2 hf _ _ ls (lv_sub hl [] rfl) G
          · have hf := x_neg c hf
            refine lv_aload_n hx hb dX9_sit_63 rfl (lv_at hl 2 rfl) ?_
            obtain ⟨v11, hv11, hf⟩ := x_ob hf
            refine xr_getR (ci := 9) (k := 8) S G hv11 rfl kw_489 dX9_sit_64 ?_
            refine lv_iload hx hb dX9_sit_67 (lv_at hl 0 rfl) ?_
            refine lv_iload_n hx hb dX9_sit_69 rfl (lv_at hl 1 rfl) ?_
            obtain ⟨z12, hz12, hf⟩ := x_ob hf
            obtain ⟨hqz12, hz12⟩ := xon_of hz12
            refine xr_callV (ci := 4) (As := [.int z7.1, .int v5]) (rest := []) (st1 := [.int z12.1]) S G hl.1 (fun _ => rfl) (mt_X4_seatFree l D cid b ex sa sv B0 sh v11 z7.1 v5 z7.2 _ _ hz12) hqz12 (by decide) kw_792 kw_793 kw_794 kw_12 kw_795 hd_X4_seatFree ⟨Nat.le_of_ble_eq_true rfl, Nat.le_of_ble_eq_true rfl⟩ rfl rfl rfl (Nat.le_of_ble_eq_true rfl) ⟨Nat.le_of_ble_eq_true rfl, Nat.le_of_ble_eq_true rfl⟩ dX9_sit_70 (fun H locs G => ?_)
            refine lv_if_ne (tgt := 79) hx hb dX9_sit_73 (by decide) (fun c => ?_) (fun c => ?_)
            · have hf := x_neg c hf
              refine lv_aload_n hx hb dX9_sit_79 rfl (lv_at hl 2 rfl) ?_
              obtain ⟨v13, hv13, hf⟩ := x_ob hf
              refine xr_getR (ci := 9) (k := 13) S G hv13 rfl kw_494 dX9_sit_80 ?_
              refine lv_iload_n hx hb dX9_sit_83 rfl (lv_at hl 3 rfl) ?_
              refine lv_iconst (v := (0 : Int32)) hx hb dX9_sit_84 (by decide) ?_
              obtain ⟨d14, hd14, hf⟩ := x_ob hf
              obtain ⟨hqd14, hd14⟩ := xon_of hd14
              refine xr_callV (ci := 8) (As := [.int x1, .int (0 : Int32)]) (rest := []) (st1 := []) S G hl.1 (fun _ => rfl) (mt_X8_add l D cid b ex sa sv B0 sh v13 x1 (0 : Int32) z12.2 _ hd14) hqd14 (by decide) kw_798 kw_799 kw_800 kw_14 kw_801 hd_X8_add ⟨Nat.le_of_ble_eq_true rfl, Nat.le_of_ble_eq_true rfl⟩ rfl rfl rfl (Nat.le_of_ble_eq_true rfl) ⟨Nat.le_of_ble_eq_true rfl, Nat.le_of_ble_eq_true rfl⟩ dX9_sit_85 (fun H locs G => ?_)
              refine lv_aload_n hx hb dX9_sit_88 rfl (lv_at hl 2 rfl) ?_
              obtain ⟨v15, hv15, hf⟩ := x_ob hf
              refine xr_getR (ci := 9) (k := 8) S G hv15 rfl kw_489 dX9_sit_89 ?_
              refine lv_iload_n hx hb dX9_sit_92 rfl (lv_at hl 3 rfl) ?_
              refine lv_iload_n hx hb dX9_sit_93 rfl (lv_at hl 4 rfl) ?_
              obtain ⟨d16, hd16, hf⟩ := x_ob hf
              obtain ⟨hqd16, hd16⟩ := xon_of hd16
              refine xr_callV (ci := 4) (As := [.int x1, .int x2]) (rest := []) (st1 := []) S G hl.1 (fun _ => rfl) (mt_X4_seat l D cid b ex sa sv B0 sh v15 x1 x2 d14 _ hd16) hqd16 (by decide) kw_803 kw_804 kw_805 kw_12 kw_806 hd_X4_seat ⟨Nat.le_of_ble_eq_true rfl, Nat.le_of_ble_eq_true rfl⟩ rfl rfl rfl (Nat.le_of_ble_eq_true rfl) ⟨Nat.le_of_ble_eq_true rfl, Nat.le_of_ble_eq_true rfl⟩ dX9_sit_94 (fun H locs G => ?_)
              refine lv_aload_n hx hb dX9_sit_97 rfl (lv_at hl 2 rfl) ?_
              obtain ⟨v17, hv17, hf⟩ := x_ob hf
              refine xr_getR (ci := 9) (k := 8) S G hv17 rfl kw_489 dX9_sit_98 ?_
              refine lv_iload_n hx hb dX9_sit_101 rfl (lv_at hl 1 rfl) ?_
              obtain ⟨z18, hz18, hf⟩ := x_ob hf
              obtain ⟨hqz18, hz18⟩ := xon_of hz18
              refine xr_callV (ci := 4) (As := [.int v5]) (rest := []) (st1 := [.int z18.1]) S G hl.1 (fun _ => rfl) (mt_X4_sittersOn l D cid b ex sa sv B0 sh v17 v5 d16 _ _ hz18) hqz18 (by decide) kw_736 kw_737 kw_738 kw_12 kw_739 hd_X4_sittersOn ⟨Nat.le_of_ble_eq_true rfl, Nat.le_of_ble_eq_true rfl⟩ rfl rfl rfl (Nat.le_of_ble_eq_true rfl) ⟨Nat.le_of_ble_eq_true rfl, Nat.le_of_ble_eq_true rfl⟩ dX9_sit_102 (fun H locs G => ?_)
              obtain ⟨z19, hz19, hf⟩ := x_ob hf
              refine xr_callS (As := [.int z18.1]) (rest := []) (st1 := [.int z19.1]) S G hl.1 (fun _ => rfl) (mt_J6_bitCount_0f7a4 l D cid b ex sa sv B0 sh z18.1 z18.2 _ _ hz19) kw_740 kw_741 kw_24 kw_742 hd_J6_bitCount_0f7a4 ⟨Nat.le_of_ble_eq_true rfl, Nat.le_of_ble_eq_true rfl⟩ rfl rfl rfl (Nat.le_of_ble_eq_true rfl) ⟨Nat.le_of_ble_eq_true rfl, Nat.le_of_ble_eq_true rfl⟩ dX9_sit_105 (fun H locs G => ?_)
              cases hf
              exact xr_iret S G (fun _ => rfl) hr dX9_sit_108
            · have hf := x_pos c hf
              exact K76 z12.2 hf _ _ ls (lv_sub hl [] rfl) G
      · have hf := x_neg c hf
        exact K22 z2.2 hf _ _ ls (lv_sub hl [] rfl) G
-- HalfLandings.rise(I)Z
theorem dX9_rise_0 : decode cX9_rise 0 = .ok (.aload_n 0, 1) := by decide +kernel
theorem dX9_rise_1 : decode cX9_rise 1 = .ok (.getfield 28, 3) := by decide +kernel
theorem dX9_rise_4 : decode cX9_rise 4 = .ok (.iload_n 1, 1) := by decide +kernel
theorem dX9_rise_5 : decode cX9_rise 5 = .ok (.invokevirtual 121, 3) := by decide +kernel
theorem dX9_rise_8 : decode cX9_rise 8 = .ok (.ifCond .eq 16, 3) := by decide +kernel
theorem dX9_rise_11 : decode cX9_rise 11 = .ok (.aload_n 0, 1) := by decide +kernel
theorem dX9_rise_12 : decode cX9_rise 12 = .ok (.getfield 56, 3) := by decide +kernel
theorem dX9_rise_15 : decode cX9_rise 15 = .ok (.getfield 132, 3) := by decide +kernel
theorem dX9_rise_18 : decode cX9_rise 18 = .ok (.iload_n 1, 1) := by decide +kernel
theorem dX9_rise_19 : decode cX9_rise 19 = .ok (.iaload, 1) := by decide +kernel
theorem dX9_rise_20 : decode cX9_rise 20 = .ok (.iconst 2, 1) := by decide +kernel
theorem dX9_rise_21 : decode cX9_rise 21 = .ok (.if_icmp .eq 5, 3) := by decide +kernel
theorem dX9_rise_24 : decode cX9_rise 24 = .ok (.iconst 0, 1) := by decide +kernel
theorem dX9_rise_25 : decode cX9_rise 25 = .ok (.ireturn, 1) := by decide +kernel
theorem dX9_rise_26 : decode cX9_rise 26 = .ok (.aload_n 0, 1) := by decide +kernel
theorem dX9_rise_27 : decode cX9_rise 27 = .ok (.getfield 82, 3) := by decide +kernel
theorem dX9_rise_30 : decode cX9_rise 30 = .ok (.iload_n 1, 1) := by decide +kernel
theorem dX9_rise_31 : decode cX9_rise 31 = .ok (.aload_n 0, 1) := by decide +kernel
theorem dX9_rise_32 : decode cX9_rise 32 = .ok (.getfield 56, 3) := by decide +kernel
theorem dX9_rise_35 : decode cX9_rise 35 = .ok (.getfield 145, 3) := by decide +kernel
theorem dX9_rise_38 : decode cX9_rise 38 = .ok (.iload_n 1, 1) := by decide +kernel
theorem dX9_rise_39 : decode cX9_rise 39 = .ok (.iaload, 1) := by decide +kernel
theorem dX9_rise_40 : decode cX9_rise 40 = .ok (.invokevirtual 210, 3) := by decide +kernel
theorem dX9_rise_43 : decode cX9_rise 43 = .ok (.aload_n 0, 1) := by decide +kernel
theorem dX9_rise_44 : decode cX9_rise 44 = .ok (.getfield 56, 3) := by decide +kernel
theorem dX9_rise_47 : decode cX9_rise 47 = .ok (.iload_n 1, 1) := by decide +kernel
theorem dX9_rise_48 : decode cX9_rise 48 = .ok (.invokevirtual 217, 3) := by decide +kernel
theorem dX9_rise_51 : decode cX9_rise 51 = .ok (.iconst 1, 1) := by decide +kernel
theorem dX9_rise_52 : decode cX9_rise 52 = .ok (.ireturn, 1) := by decide +kernel
theorem hd_X9_rise : yX9_rise.cls = xCn 9 ∧ yX9_rise.cls ≠ "java/lang/invoke/MethodHandle" ∧ yX9_rise.cls ≠ "java/lang/invoke/VarHandle" ∧ (parseMethodDescriptor yX9_rise.desc).map (fun d => d.parameters.length) = some 1 := by decide +kernel
def k_X9_rise_24 (sh : List xSh) (d : xD) : Option (Int32 × xD) :=
  some ((0 : Int32), d)
def f_X9_rise (sh : List xSh) (q0 : Nat) (x1 : Int32) (d : xD) : Option (Int32 × xD) :=
  (xgR 9 sh d q0 4).bind fun v1 => (xon 3 sh v1 (f_X3_hasWalker sh v1 x1 d)).bind fun z2 => if z2.1 = 0 then (k_X9_rise_24 sh z2.2) else ((xgR 9 sh z2.2 q0 8).bind fun v3 => (xgR 4 sh z2.2 v3 5).bind fun v4 => (xaI .int sh z2.2 v4 x1).bind fun v5 => if v5 = (2 : Int32) then ((xgR 9 sh z2.2 q0 13).bind fun v6 => (xgR 9 sh z2.2 q0 8).bind fun v7 => (xgR 4 sh z2.2 v7 9).bind fun v8 => (xaI .int sh z2.2 v8 x1).bind fun v9 => (xon 8 sh v6 (f_X8_add sh v6 x1 v9 z2.2)).bind fun d10 => (xgR 9 sh d10 q0 8).bind fun v11 => (xon 4 sh v11 (f_X4_stand sh v11 x1 d10)).bind fun d12 => some ((1 : Int32), d12)) else (k_X9_rise_24 sh z2.2))
set_option maxHeartbeats 4000000 in
set_option maxRecDepth 100000 in
theorem mt_X9_rise (l : Launch) (D : va_G) (cid : FieldType → ClassId) (b : Nat) (ex : Bool) (sa sv B0 : Nat) (sh : List xSh) (q0 : Nat) (x1 : Int32) (d : xD) (r : Int32) (dz : xD) (hf : f_X9_rise sh q0 x1 d = some (r, dz)) : xMet l yX9_rise cX9_rise 2 (some .boolean) 2 0 0 D cid b ex sa sv B0 [.ref (b + q0), .int x1] sh d (some (.int r)) sh dz := by
  refine xMet.of (by decide) (Nat.le_of_ble_eq_true rfl) ?_
  intro p e s m below meth c ls A S hr hin G hl
  have hl : lv_has ls 2 [(0, .ref (b + q0)), (1, .int x1)] := hl
  generalize ([.ref (b + q0), .int x1] : List Value).toArray = av at S ⊢
  have hx := S.1
  have hb := S.2.1
  have hml := S.2.2.1
  have hown := S.2.2.2.1
  have hts := S.2.2.2.2.1
  have K24 : ∀ (d : xD), k_X9_rise_24 sh d = some (r, dz) → ∀ (H : Heap) (locs : List Loc) (ls : Array Slot), lv_has ls 2 [] → xG D cid b A sh d s H locs → W p l e (xRm 2 0 0) s m av below meth c H locs 0 0 (MQ below (xQ D cid b ex A (some (.int r)) sh dz) av s 0 0 A) (F0 m 24 ls []) := by
    intro d hf H locs ls hl G
    unfold k_X9_rise_24 at hf
    refine lv_iconst (v := (0 : Int32)) hx hb dX9_rise_24 (by decide) ?_
    cases hf
    exact xr_zret S G (fun _ => rfl) hr (by decide) dX9_rise_25
  unfold f_X9_rise at hf
  refine lv_aload_n hx hb dX9_rise_0 rfl (lv_at hl 0 rfl) ?_
  obtain ⟨v1, hv1, hf⟩ := x_ob hf
  refine xr_getR (ci := 9) (k := 4) S G hv1 rfl kw_485 dX9_rise_1 ?_
  refine lv_iload_n hx hb dX9_rise_4 rfl (lv_at hl 1 rfl) ?_
  obtain ⟨z2, hz2, hf⟩ := x_ob hf
  obtain ⟨hqz2, hz2⟩ := xon_of hz2
  refine xr_callV (ci := 3) (As := [.int x1]) (rest := []) (st1 := [.int z2.1]) S G hl.1 (fun _ => rfl) (mt_X3_hasWalker l D cid b ex sa sv B0 sh v1 x1 d _ _ hz2) hqz2 (by decide) kw_758 kw_759 kw_760 kw_2 kw_761 hd_X3_hasWalker ⟨Nat.le_of_ble_eq_true rfl, Nat.le_of_ble_eq_true rfl⟩ rfl rfl rfl (Nat.le_of_ble_eq_true rfl) ⟨Nat.le_of_ble_eq_true rfl, Nat.le_of_ble_eq_true rfl⟩ dX9_rise_5 (fun H locs G => ?_)
  refine lv_if_eq (tgt := 24) hx hb dX9_rise_8 (by decide) (fun c => ?_) (fun c => ?_)
  · have hf := x_pos c hf
    exact K24 z2.2 hf _ _ ls (lv_sub hl [] rfl) G
  · have hf := x_neg c hf
    refine lv_aload_n hx hb dX9_rise_11 rfl (lv_at hl 0 rfl) ?_
    obtain ⟨v3, hv3, hf⟩ := x_ob hf
    refine xr_getR (ci := 9) (k := 8) S G hv3 rfl kw_489 dX9_rise_12 ?_
    obtain ⟨v4, hv4, hf⟩ := x_ob hf
    refine xr_getR (ci := 4) (k := 5) S G hv4 rfl kw_329 dX9_rise_15 ?_
    refine lv_iload_n hx hb dX9_rise_18 rfl (lv_at hl 1 rfl) ?_
    obtain ⟨v5, hv5, hf⟩ := x_ob hf
    refine xr_iald S G hv5 dX9_rise_19 ?_
    refine lv_iconst (v := (2 : Int32)) hx hb dX9_rise_20 (by decide) ?_
    refine lv_icmp_eq (tgt := 26) hx hb dX9_rise_21 (by decide) (fun c => ?_) (fun c => ?_)
    · have hf := x_pos c hf
      refine lv_aload_n hx hb dX9_rise_26 rfl (lv_at hl 0 rfl) ?_
      obtain ⟨v6, hv6, hf⟩ := x_ob hf
      refine xr_getR (ci := 9) (k := 13) S G hv6 rfl kw_494 dX9_rise_27 ?_
      refine lv_iload_n hx hb dX9_rise_30 rfl (lv_at hl 1 rfl) ?_
      refine lv_aload_n hx hb dX9_rise_31 rfl (lv_at hl 0 rfl) ?_
      obtain ⟨v7, hv7, hf⟩ := x_ob hf
      refine xr_getR (ci := 9) (k := 8) S G hv7 rfl kw_489 dX9_rise_32 ?_
      obtain ⟨v8, hv8, hf⟩ := x_ob hf
      refine xr_getR (ci := 4) (k := 9) S G hv8 rfl kw_340 dX9_rise_35 ?_
      refine lv_iload_n hx hb dX9_rise_38 rfl (lv_at hl 1 rfl) ?_
      obtain ⟨v9, hv9, hf⟩ := x_ob hf
      refine xr_iald S G hv9 dX9_rise_39 ?_
      obtain ⟨d10, hd10, hf⟩ := x_ob hf
      obtain ⟨hqd10, hd10⟩ := xon_of hd10
      refine xr_callV (ci := 8) (As := [.int x1, .int v9]) (rest := []) (st1 := []) S G hl.1 (fun _ => rfl) (mt_X8_add l D cid b ex sa sv B0 sh v6 x1 v9 z2.2 _ hd10) hqd10 (by decide) kw_798 kw_799 kw_800 kw_14 kw_801 hd_X8_add ⟨Nat.le_of_ble_eq_true rfl, Nat.le_of_ble_eq_true rfl⟩ rfl rfl rfl (Nat.le_of_ble_eq_true rfl) ⟨Nat.le_of_ble_eq_true rfl, Nat.le_of_ble_eq_true rfl⟩ dX9_rise_40 (fun H locs G => ?_)
      refine lv_aload_n hx hb dX9_rise_43 rfl (lv_at hl 0 rfl) ?_
      obtain ⟨v11, hv11, hf⟩ := x_ob hf
      refine xr_getR (ci := 9) (k := 8) S G hv11 rfl kw_489 dX9_rise_44 ?_
      refine lv_iload_n hx hb dX9_rise_47 rfl (lv_at hl 1 rfl) ?_
      obtain ⟨d12, hd12, hf⟩ := x_ob hf
      obtain ⟨hqd12, hd12⟩ := xon_of hd12
      refine xr_callV (ci := 4) (As := [.int x1]) (rest := []) (st1 := []) S G hl.1 (fun _ => rfl) (mt_X4_stand l D cid b ex sa sv B0 sh v11 x1 d10 _ hd12) hqd12 (by decide) kw_811 kw_812 kw_813 kw_12 kw_814 hd_X4_stand ⟨Nat.le_of_ble_eq_true rfl, Nat.le_of_ble_eq_true rfl⟩ rfl rfl rfl (Nat.le_of_ble_eq_true rfl) ⟨Nat.le_of_ble_eq_true rfl, Nat.le_of_ble_eq_true rfl⟩ dX9_rise_48 (fun H locs G => ?_)
      refine lv_iconst (v := (1 : Int32)) hx hb dX9_rise_51 (by decide) ?_
      cases hf
      exact xr_zret S G (fun _ => rfl) hr (by decide) dX9_rise_52
    · have hf := x_neg c hf
      exact K24 z2.2 hf _ _ ls (lv_sub hl [] rfl) G
-- HalfLandings.push(I)I
theorem dX9_push_0 : decode cX9_push 0 = .ok (.iload_n 1, 1) := by decide +kernel
theorem dX9_push_1 : decode cX9_push 1 = .ok (.bipush (-3), 2) := by decide +kernel
theorem dX9_push_3 : decode cX9_push 3 = .ok (.if_icmp .lt 24, 3) := by decide +kernel
theorem dX9_push_6 : decode cX9_push 6 = .ok (.iload_n 1, 1) := by decide +kernel
theorem dX9_push_7 : decode cX9_push 7 = .ok (.iconst 3, 1) := by decide +kernel
theorem dX9_push_8 : decode cX9_push 8 = .ok (.if_icmp .gt 19, 3) := by decide +kernel
theorem dX9_push_11 : decode cX9_push 11 = .ok (.iload_n 1, 1) := by decide +kernel
theorem dX9_push_12 : decode cX9_push 12 = .ok (.ifCond .eq 15, 3) := by decide +kernel
theorem dX9_push_15 : decode cX9_push 15 = .ok (.aload_n 0, 1) := by decide +kernel
theorem dX9_push_16 : decode cX9_push 16 = .ok (.getfield 56, 3) := by decide +kernel
theorem dX9_push_19 : decode cX9_push 19 = .ok (.getfield 194, 3) := by decide +kernel
theorem dX9_push_22 : decode cX9_push 22 = .ok (.bipush (-2), 2) := by decide +kernel
theorem dX9_push_24 : decode cX9_push 24 = .ok (.if_icmp .ne 5, 3) := by decide +kernel
theorem dX9_push_27 : decode cX9_push 27 = .ok (.iconst (-1), 1) := by decide +kernel
theorem dX9_push_28 : decode cX9_push 28 = .ok (.ireturn, 1) := by decide +kernel
theorem dX9_push_29 : decode cX9_push 29 = .ok (.iload_n 1, 1) := by decide +kernel
theorem dX9_push_30 : decode cX9_push 30 = .ok (.ifCond .ge 7, 3) := by decide +kernel
theorem dX9_push_33 : decode cX9_push 33 = .ok (.iconst (-1), 1) := by decide +kernel
theorem dX9_push_34 : decode cX9_push 34 = .ok (.goto 4, 3) := by decide +kernel
theorem dX9_push_37 : decode cX9_push 37 = .ok (.iconst 1, 1) := by decide +kernel
theorem dX9_push_38 : decode cX9_push 38 = .ok (.istore_n 2, 1) := by decide +kernel
theorem dX9_push_39 : decode cX9_push 39 = .ok (.iconst 1, 1) := by decide +kernel
theorem dX9_push_40 : decode cX9_push 40 = .ok (.istore_n 3, 1) := by decide +kernel
theorem dX9_push_41 : decode cX9_push 41 = .ok (.iload_n 3, 1) := by decide +kernel
theorem dX9_push_42 : decode cX9_push 42 = .ok (.iload_n 1, 1) := by decide +kernel
theorem dX9_push_43 : decode cX9_push 43 = .ok (.iload_n 2, 1) := by decide +kernel
theorem dX9_push_44 : decode cX9_push 44 = .ok (.imul, 1) := by decide +kernel
theorem dX9_push_45 : decode cX9_push 45 = .ok (.if_icmp .gt 55, 3) := by decide +kernel
theorem dX9_push_48 : decode cX9_push 48 = .ok (.aload_n 0, 1) := by decide +kernel
theorem dX9_push_49 : decode cX9_push 49 = .ok (.getfield 56, 3) := by decide +kernel
theorem dX9_push_52 : decode cX9_push 52 = .ok (.getfield 194, 3) := by decide +kernel
theorem dX9_push_55 : decode cX9_push 55 = .ok (.iload_n 3, 1) := by decide +kernel
theorem dX9_push_56 : decode cX9_push 56 = .ok (.iload_n 2, 1) := by decide +kernel
theorem dX9_push_57 : decode cX9_push 57 = .ok (.imul, 1) := by decide +kernel
theorem dX9_push_58 : decode cX9_push 58 = .ok (.iadd, 1) := by decide +kernel
theorem dX9_push_59 : decode cX9_push 59 = .ok (.istore 4, 2) := by decide +kernel
theorem dX9_push_61 : decode cX9_push 61 = .ok (.iload 4, 2) := by decide +kernel
theorem dX9_push_63 : decode cX9_push 63 = .ok (.iconst 1, 1) := by decide +kernel
theorem dX9_push_64 : decode cX9_push 64 = .ok (.if_icmp .lt 27, 3) := by decide +kernel
theorem dX9_push_67 : decode cX9_push 67 = .ok (.iload 4, 2) := by decide +kernel
theorem dX9_push_69 : decode cX9_push 69 = .ok (.aload_n 0, 1) := by decide +kernel
theorem dX9_push_70 : decode cX9_push 70 = .ok (.getfield 28, 3) := by decide +kernel
theorem dX9_push_73 : decode cX9_push 73 = .ok (.getfield 220, 3) := by decide +kernel
theorem dX9_push_76 : decode cX9_push 76 = .ok (.if_icmp .ge 15, 3) := by decide +kernel
theorem dX9_push_79 : decode cX9_push 79 = .ok (.aload_n 0, 1) := by decide +kernel
theorem dX9_push_80 : decode cX9_push 80 = .ok (.getfield 56, 3) := by decide +kernel
theorem dX9_push_83 : decode cX9_push 83 = .ok (.iload 4, 2) := by decide +kernel
theorem dX9_push_85 : decode cX9_push 85 = .ok (.invokevirtual 223, 3) := by decide +kernel
theorem dX9_push_88 : decode cX9_push 88 = .ok (.ifCond .eq 6, 3) := by decide +kernel
theorem dX9_push_91 : decode cX9_push 91 = .ok (.bipush (-2), 2) := by decide +kernel
theorem dX9_push_93 : decode cX9_push 93 = .ok (.ireturn, 1) := by decide +kernel
theorem dX9_push_94 : decode cX9_push 94 = .ok (.iinc 3 1, 3) := by decide +kernel
theorem dX9_push_97 : decode cX9_push 97 = .ok (.goto (-56), 3) := by decide +kernel
theorem dX9_push_100 : decode cX9_push 100 = .ok (.aload_n 0, 1) := by decide +kernel
theorem dX9_push_101 : decode cX9_push 101 = .ok (.getfield 82, 3) := by decide +kernel
theorem dX9_push_104 : decode cX9_push 104 = .ok (.iconst (-1), 1) := by decide +kernel
theorem dX9_push_105 : decode cX9_push 105 = .ok (.aload_n 0, 1) := by decide +kernel
theorem dX9_push_106 : decode cX9_push 106 = .ok (.getfield 56, 3) := by decide +kernel
theorem dX9_push_109 : decode cX9_push 109 = .ok (.getfield 194, 3) := by decide +kernel
theorem dX9_push_112 : decode cX9_push 112 = .ok (.invokevirtual 210, 3) := by decide +kernel
theorem dX9_push_115 : decode cX9_push 115 = .ok (.aload_n 0, 1) := by decide +kernel
theorem dX9_push_116 : decode cX9_push 116 = .ok (.getfield 56, 3) := by decide +kernel
theorem dX9_push_119 : decode cX9_push 119 = .ok (.dup, 1) := by decide +kernel
theorem dX9_push_120 : decode cX9_push 120 = .ok (.getfield 194, 3) := by decide +kernel
theorem dX9_push_123 : decode cX9_push 123 = .ok (.iload_n 1, 1) := by decide +kernel
theorem dX9_push_124 : decode cX9_push 124 = .ok (.iadd, 1) := by decide +kernel
theorem dX9_push_125 : decode cX9_push 125 = .ok (.putfield 194, 3) := by decide +kernel
theorem dX9_push_128 : decode cX9_push 128 = .ok (.aload_n 0, 1) := by decide +kernel
theorem dX9_push_129 : decode cX9_push 129 = .ok (.getfield 56, 3) := by decide +kernel
theorem dX9_push_132 : decode cX9_push 132 = .ok (.getfield 194, 3) := by decide +kernel
theorem dX9_push_135 : decode cX9_push 135 = .ok (.ireturn, 1) := by decide +kernel
theorem hd_X9_push : yX9_push.cls = xCn 9 ∧ yX9_push.cls ≠ "java/lang/invoke/MethodHandle" ∧ yX9_push.cls ≠ "java/lang/invoke/VarHandle" ∧ (parseMethodDescriptor yX9_push.desc).map (fun d => d.parameters.length) = some 1 := by decide +kernel
def k_X9_push_27 (sh : List xSh) (d : xD) : Option (Int32 × xD) :=
  some ((-1 : Int32), d)
def k_X9_push_100 (sh : List xSh) (q0 : Nat) (x1 : Int32) (d : xD) : Option (Int32 × xD) :=
  (xgR 9 sh d q0 13).bind fun v1 => (xgR 9 sh d q0 8).bind fun v2 => (xgI 4 sh d v2 2).bind fun v3 => (xon 8 sh v1 (f_X8_add sh v1 (-1 : Int32) v3 d)).bind fun d4 => (xgR 9 sh d4 q0 8).bind fun v5 => (xgI 4 sh d4 v5 2).bind fun v6 => (xpI 4 sh d4 v5 2 (v6 + x1)).bind fun d7 => (xgR 9 sh d7 q0 8).bind fun v8 => (xgI 4 sh d7 v8 2).bind fun v9 => some (v9, d7)
def k_X9_push_91 (sh : List xSh) (d : xD) : Option (Int32 × xD) :=
  some ((-2 : Int32), d)
def b_X9_push_41 (sh : List xSh) (rec41 : Nat → Int32 → Int32 → Int32 → xD → Option (Int32 × xD)) (q0 : Nat) (x1 : Int32) (x2 : Int32) (x3 : Int32) (d : xD) : Option (Int32 × xD) :=
  if (x1 * x2) < x3 then (k_X9_push_100 sh q0 x1 d) else ((xgR 9 sh d q0 8).bind fun v10 => (xgI 4 sh d v10 2).bind fun v11 => if (v11 + (x3 * x2)) < (1 : Int32) then (k_X9_push_91 sh d) else ((xgR 9 sh d q0 4).bind fun v12 => (xgI 3 sh d v12 0).bind fun v13 => if v13 ≤ (v11 + (x3 * x2)) then (k_X9_push_91 sh d) else ((xgR 9 sh d q0 8).bind fun v14 => (xon 4 sh v14 (f_X4_someoneOn sh v14 (v11 + (x3 * x2)) d)).bind fun z15 => if z15.1 = 0 then (rec41 q0 x1 x2 (x3 + 1) z15.2) else (k_X9_push_91 sh z15.2))))
def k_X9_push_38 (sh : List xSh) (q0 : Nat) (x1 : Int32) (y0 : Int32) (d : xD) : Option (Int32 × xD) :=
  xloop (fun _ _ _ _ _ => none) (b_X9_push_41 sh) xF q0 x1 y0 (1 : Int32) d
def f_X9_push (sh : List xSh) (q0 : Nat) (x1 : Int32) (d : xD) : Option (Int32 × xD) :=
  if x1 < (-3 : Int32) then (k_X9_push_27 sh d) else (if (3 : Int32) < x1 then (k_X9_push_27 sh d) else (if x1 = 0 then (k_X9_push_27 sh d) else ((xgR 9 sh d q0 8).bind fun v16 => (xgI 4 sh d v16 2).bind fun v17 => if v17 = (-2 : Int32) then (k_X9_push_27 sh d) else (if 0 ≤ x1 then (k_X9_push_38 sh q0 x1 (1 : Int32) d) else (k_X9_push_38 sh q0 x1 (-1 : Int32) d)))))
set_option maxHeartbeats 4000000 in
set_option maxRecDepth 100000 in
theorem mt_X9_push (l : Launch) (D : va_G) (cid : FieldType → ClassId) (b : Nat) (ex : Bool) (sa sv B0 : Nat) (sh : List xSh) (q0 : Nat) (x1 : Int32) (d : xD) (r : Int32) (dz : xD) (hf : f_X9_push sh q0 x1 d = some (r, dz)) : xMet l yX9_push cX9_push 5 (some .int) 2 0 0 D cid b ex sa sv B0 [.ref (b + q0), .int x1] sh d (some (.int r)) sh dz := by
  refine xMet.of (by decide) (Nat.le_of_ble_eq_true rfl) ?_
  intro p e s m below meth c ls A S hr hin G hl
  have hl : lv_has ls 5 [(0, .ref (b + q0)), (1, .int x1)] := hl
  generalize ([.ref (b + q0), .int x1] : List Value).toArray = av at S ⊢
  have hx := S.1
  have hb := S.2.1
  have hml := S.2.2.1
  have hown := S.2.2.2.1
  have hts := S.2.2.2.2.1
  have K27 : ∀ (d : xD), k_X9_push_27 sh d = some (r, dz) → ∀ (H : Heap) (locs : List Loc) (ls : Array Slot), lv_has ls 5 [] → xG D cid b A sh d s H locs → W p l e (xRm 2 0 0) s m av below meth c H locs 0 0 (MQ below (xQ D cid b ex A (some (.int r)) sh dz) av s 0 0 A) (F0 m 27 ls []) := by
    intro d hf H locs ls hl G
    unfold k_X9_push_27 at hf
    refine lv_iconst (v := (-1 : Int32)) hx hb dX9_push_27 (by decide) ?_
    cases hf
    exact xr_iret S G (fun _ => rfl) hr dX9_push_28
  have K100 : ∀ (q0 : Nat) (x1 : Int32) (d : xD), k_X9_push_100 sh q0 x1 d = some (r, dz) → ∀ (H : Heap) (locs : List Loc) (ls : Array Slot), lv_has ls 5 [(0, .ref (b + q0)), (1, .int x1)] → xG D cid b A sh d s H locs → W p l e (xRm 2 0 0) s m av below meth c H locs 0 0 (MQ below (xQ D cid b ex A (some (.int r)) sh dz) av s 0 0 A) (F0 m 100 ls []) := by
    intro q0 x1 d hf H locs ls hl G
    unfold k_X9_push_100 at hf
    refine lv_aload_n hx hb dX9_push_100 rfl (lv_at hl 0 rfl) ?_
    obtain ⟨v1, hv1, hf⟩ := x_ob hf
    refine xr_getR (ci := 9) (k := 13) S G hv1 rfl kw_494 dX9_push_101 ?_
    refine lv_iconst (v := (-1 : Int32)) hx hb dX9_push_104 (by decide) ?_
    refine lv_aload_n hx hb dX9_push_105 rfl (lv_at hl 0 rfl) ?_
    obtain ⟨v2, hv2, hf⟩ := x_ob hf
    refine xr_getR (ci := 9) (k := 8) S G hv2 rfl kw_489 dX9_push_106 ?_
    obtain ⟨v3, hv3, hf⟩ := x_ob hf
    refine xr_getI (ci := 4) (k := 2) S G hv3 rfl kw_322 dX9_push_109 ?_
    obtain ⟨d4, hd4, hf⟩ := x_ob hf
    obtain ⟨hqd4, hd4⟩ := xon_of hd4
    refine xr_callV (ci := 8) (As := [.int (-1 : Int32), .int v3]) (rest := []) (st1 := []) S G hl.1 (fun _ => rfl) (mt_X8_add l D cid b ex sa sv B0 sh v1 (-1 : Int32) v3 d _ hd4) hqd4 (by decide) kw_798 kw_799 kw_800 kw_14 kw_801 hd_X8_add ⟨Nat.le_of_ble_eq_true rfl, Nat.le_of_ble_eq_true rfl⟩ rfl rfl rfl (Nat.le_of_ble_eq_true rfl) ⟨Nat.le_of_ble_eq_true rfl, Nat.le_of_ble_eq_true rfl⟩ dX9_push_112 (fun H locs G => ?_)
    refine lv_aload_n hx hb dX9_push_115 rfl (lv_at hl 0 rfl) ?_
    obtain ⟨v5, hv5, hf⟩ := x_ob hf
    refine xr_getR (ci := 9) (k := 8) S G hv5 rfl kw_489 dX9_push_116 ?_
    refine lv_dup hx hb dX9_push_119 rfl ?_
    obtain ⟨v6, hv6, hf⟩ := x_ob hf
    refine xr_getI (ci := 4) (k := 2) S G hv6 rfl kw_322 dX9_push_120 ?_
    refine lv_iload_n hx hb dX9_push_123 rfl (lv_at hl 1 rfl) ?_
    refine lv_iadd hx hb dX9_push_124 ?_
    obtain ⟨d7, hd7, hf⟩ := x_ob hf
    refine xr_putI (ci := 4) (k := 2) S G hd7 rfl kw_322 dX9_push_125 (fun H locs G => ?_)
    refine lv_aload_n hx hb dX9_push_128 rfl (lv_at hl 0 rfl) ?_
    obtain ⟨v8, hv8, hf⟩ := x_ob hf
    refine xr_getR (ci := 9) (k := 8) S G hv8 rfl kw_489 dX9_push_129 ?_
    obtain ⟨v9, hv9, hf⟩ := x_ob hf
    refine xr_getI (ci := 4) (k := 2) S G hv9 rfl kw_322 dX9_push_132 ?_
    cases hf
    exact xr_iret S G (fun _ => rfl) hr dX9_push_135
  have K91 : ∀ (d : xD), k_X9_push_91 sh d = some (r, dz) → ∀ (H : Heap) (locs : List Loc) (ls : Array Slot), lv_has ls 5 [] → xG D cid b A sh d s H locs → W p l e (xRm 2 0 0) s m av below meth c H locs 0 0 (MQ below (xQ D cid b ex A (some (.int r)) sh dz) av s 0 0 A) (F0 m 91 ls []) := by
    intro d hf H locs ls hl G
    unfold k_X9_push_91 at hf
    refine lv_bipush (v := (-2 : Int32)) hx hb dX9_push_91 (by decide) ?_
    cases hf
    exact xr_iret S G (fun _ => rfl) hr dX9_push_93
  have K41 : ∀ (n : Nat) (q0 : Nat) (x1 : Int32) (x2 : Int32) (x3 : Int32) (d : xD), xloop (fun _ _ _ _ _ => none) (b_X9_push_41 sh) n q0 x1 x2 x3 d = some (r, dz) → ∀ (H : Heap) (locs : List Loc) (ls : Array Slot), lv_has ls 5 [(0, .ref (b + q0)), (1, .int x1), (2, .int x2), (3, .int x3)] → xG D cid b A sh d s H locs → W p l e (xRm 2 0 0) s m av below meth c H locs 0 0 (MQ below (xQ D cid b ex A (some (.int r)) sh dz) av s 0 0 A) (F0 m 41 ls []) := by
    intro n
    induction n with
    | zero =>
      intro q0 x1 x2 x3 d hf
      have hf : (none : Option (Int32 × xD)) = some (r, dz) := hf
      cases hf
    | succ n hrec41 =>
      intro q0 x1 x2 x3 d hf H locs ls hl G
      have hf : b_X9_push_41 sh (xloop (fun _ _ _ _ _ => none) (b_X9_push_41 sh) n) q0 x1 x2 x3 d = some (r, dz) := hf
      unfold b_X9_push_41 at hf
      refine lv_iload_n hx hb dX9_push_41 rfl (lv_at hl 3 rfl) ?_
      refine lv_iload_n hx hb dX9_push_42 rfl (lv_at hl 1 rfl) ?_
      refine lv_iload_n hx hb dX9_push_43 rfl (lv_at hl 2 rfl) ?_
      refine lv_imul hx hb dX9_push_44 ?_
      refine lv_icmp_gt (tgt := 100) hx hb dX9_push_45 (by decide) (fun c => ?_) (fun c => ?_)
      · have hf := x_pos c hf
        exact K100 q0 x1 d hf _ _ ls (lv_sub hl [0, 1] rfl) G
      · have hf := x_neg c hf
        refine lv_aload_n hx hb dX9_push_48 rfl (lv_at hl 0 rfl) ?_
        obtain ⟨v10, hv10, hf⟩ := x_ob hf
        refine xr_getR (ci := 9) (k := 8) S G hv10 rfl kw_489 dX9_push_49 ?_
        obtain ⟨v11, hv11, hf⟩ := x_ob hf
        refine xr_getI (ci := 4) (k := 2) S G hv11 rfl kw_322 dX9_push_52 ?_
        refine lv_iload_n hx hb dX9_push_55 rfl (lv_at hl 3 rfl) ?_
        refine lv_iload_n hx hb dX9_push_56 rfl (lv_at hl 2 rfl) ?_
        refine lv_imul hx hb dX9_push_57 ?_
        refine lv_iadd hx hb dX9_push_58 ?_
        refine lv_istore (lv' := [(4, .int (v11 + (x3 * x2))), (0, .ref (b + q0)), (1, .int x1), (2, .int x2), (3, .int x3)]) hx hb dX9_push_59 hl (by decide) rfl (fun ls hl => ?_)
        refine lv_iload hx hb dX9_push_61 (lv_at hl 0 rfl) ?_
        refine lv_iconst (v := (1 : Int32)) hx hb dX9_push_63 (by decide) ?_
        refine lv_icmp_lt (tgt := 91) hx hb dX9_push_64 (by decide) (fun c => ?_) (fun c => ?_)
        · have hf := x_pos c hf
          exact K91 d hf _ _ ls (lv_sub hl [] rfl) G
        · have hf := x_neg c hf
          refine lv_iload hx hb dX9_push_67 (lv_at hl 0 rfl) ?_
          refine lv_aload_n hx hb dX9_push_69 rfl (lv_at hl 1 rfl) ?_
          obtain ⟨v12, hv12, hf⟩ := x_ob hf
          refine xr_getR (ci := 9) (k := 4) S G hv12 rfl kw_485 dX9_push_70 ?_
          obtain ⟨v13, hv13, hf⟩ := x_ob hf
          refine xr_getI (ci := 3) (k := 0) S G hv13 rfl kw_81 dX9_push_73 ?_
          refine lv_icmp_ge (tgt := 91) hx hb dX9_push_76 (by decide) (fun c => ?_) (fun c => ?_)
          · have hf := x_pos c hf
            exact K91 d hf _ _ ls (lv_sub hl [] rfl) G
          · have hf := x_neg c hf
            refine lv_aload_n hx hb dX9_push_79 rfl (lv_at hl 1 rfl) ?_
            obtain ⟨v14, hv14, hf⟩ := x_ob hf
            refine xr_getR (ci := 9) (k := 8) S G hv14 rfl kw_489 dX9_push_80 ?_
            refine lv_iload hx hb dX9_push_83 (lv_at hl 0 rfl) ?_
            obtain ⟨z15, hz15, hf⟩ := x_ob hf
            obtain ⟨hqz15, hz15⟩ := xon_of hz15
            refine xr_callV (ci := 4) (As := [.int (v11 + (x3 * x2))]) (rest := []) (st1 := [.int z15.1]) S G hl.1 (fun _ => rfl) (mt_X4_someoneOn l D cid b ex sa sv B0 sh v14 (v11 + (x3 * x2)) d _ _ hz15) hqz15 (by decide) kw_819 kw_820 kw_821 kw_12 kw_822 hd_X4_someoneOn ⟨Nat.le_of_ble_eq_true rfl, Nat.le_of_ble_eq_true rfl⟩ rfl rfl rfl (Nat.le_of_ble_eq_true rfl) ⟨Nat.le_of_ble_eq_true rfl, Nat.le_of_ble_eq_true rfl⟩ dX9_push_85 (fun H locs G => ?_)
            refine lv_if_eq (tgt := 94) hx hb dX9_push_88 (by decide) (fun c => ?_) (fun c => ?_)
            · have hf := x_pos c hf
              refine lv_iinc (v := (x3 + 1)) (lv' := [(3, .int (x3 + 1)), (4, .int (v11 + (x3 * x2))), (0, .ref (b + q0)), (1, .int x1), (2, .int x2)]) hx hb dX9_push_94 hl (k := 4) rfl rfl (by decide) rfl (fun ls hl => ?_)
              refine lv_goto (tgt := 41) hx hb dX9_push_97 (by decide) ?_
              exact hrec41 q0 x1 x2 (x3 + 1) z15.2 hf _ _ ls (lv_sub hl [2, 3, 4, 0] rfl) G
            · have hf := x_neg c hf
              exact K91 z15.2 hf _ _ ls (lv_sub hl [] rfl) G
  have K38 : ∀ (q0 : Nat) (x1 : Int32) (y0 : Int32) (d : xD), k_X9_push_38 sh q0 x1 y0 d = some (r, dz) → ∀ (H : Heap) (locs : List Loc) (ls : Array Slot), lv_has ls 5 [(0, .ref (b + q0)), (1, .int x1)] → xG D cid b A sh d s H locs → W p l e (xRm 2 0 0) s m av below meth c H locs 0 0 (MQ below (xQ D cid b ex A (some (.int r)) sh dz) av s 0 0 A) (F0 m 38 ls [.int y0]) := by
    intro q0 x1 y0 d hf H locs ls hl G
    unfold k_X9_push_38 at hf
    refine lv_istore_n (lv' := [(2, .int y0), (0, .ref (b + q0)), (1, .int x1)]) hx hb dX9_push_38 rfl hl (by decide) rfl (fun ls hl => ?_)
    refine lv_iconst (v := (1 : Int32)) hx hb dX9_push_39 (by decide) ?_
    refine lv_istore_n (lv' := [(3, .int (1 : Int32)), (2, .int y0), (0, .ref (b + q0)), (1, .int x1)]) hx hb dX9_push_40 rfl hl (by decide) rfl (fun ls hl => ?_)
    exact K41 xF q0 x1 y0 (1 : Int32) d hf _ _ ls (lv_sub hl [2, 3, 1, 0] rfl) G
  unfold f_X9_push at hf
  refine lv_iload_n hx hb dX9_push_0 rfl (lv_at hl 1 rfl) ?_
  refine lv_bipush (v := (-3 : Int32)) hx hb dX9_push_1 (by decide) ?_
  refine lv_icmp_lt (tgt := 27) hx hb dX9_push_3 (by decide) (fun c => ?_) (fun c => ?_)
  · have hf := x_pos c hf
    exact K27 d hf _ _ ls (lv_sub hl [] rfl) G
  · have hf := x_neg c hf
    refine lv_iload_n hx hb dX9_push_6 rfl (lv_at hl 1 rfl) ?_
    refine lv_iconst (v := (3 : Int32)) hx hb dX9_push_7 (by decide) ?_
    refine lv_icmp_gt (tgt := 27) hx hb dX9_push_8 (by decide) (fun c => ?_) (fun c => ?_)
    · have hf := x_pos c hf
      exact K27 d hf _ _ ls (lv_sub hl [] rfl) G
    · have hf := x_neg c hf
      refine lv_iload_n hx hb dX9_push_11 rfl (lv_at hl 1 rfl) ?_
      refine lv_if_eq (tgt := 27) hx hb dX9_push_12 (by decide) (fun c => ?_) (fun c => ?_)
      · have hf := x_pos c hf
        exact K27 d hf _ _ ls (lv_sub hl [] rfl) G
      · have hf := x_neg c hf
        refine lv_aload_n hx hb dX9_push_15 rfl (lv_at hl 0 rfl) ?_
        obtain ⟨v16, hv16, hf⟩ := x_ob hf
        refine xr_getR (ci := 9) (k := 8) S G hv16 rfl kw_489 dX9_push_16 ?_
        obtain ⟨v17, hv17, hf⟩ := x_ob hf
        refine xr_getI (ci := 4) (k := 2) S G hv17 rfl kw_322 dX9_push_19 ?_
        refine lv_bipush (v := (-2 : Int32)) hx hb dX9_push_22 (by decide) ?_
        refine lv_icmp_ne (tgt := 29) hx hb dX9_push_24 (by decide) (fun c => ?_) (fun c => ?_)
        · have hf := x_neg c hf
          refine lv_iload_n hx hb dX9_push_29 rfl (lv_at hl 1 rfl) ?_
          refine lv_if_ge (tgt := 37) hx hb dX9_push_30 (by decide) (fun c => ?_) (fun c => ?_)
          · have hf := x_pos c hf
            refine lv_iconst (v := (1 : Int32)) hx hb dX9_push_37 (by decide) ?_
            exact K38 q0 x1 (1 : Int32) d hf _ _ ls (lv_sub hl [0, 1] rfl) G
          · have hf := x_neg c hf
            refine lv_iconst (v := (-1 : Int32)) hx hb dX9_push_33 (by decide) ?_
            refine lv_goto (tgt := 38) hx hb dX9_push_34 (by decide) ?_
            exact K38 q0 x1 (-1 : Int32) d hf _ _ ls (lv_sub hl [0, 1] rfl) G
        · have hf := x_pos c hf
          exact K27 d hf _ _ ls (lv_sub hl [] rfl) G

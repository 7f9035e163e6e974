-- HalfLandingsModel.begins()V
theorem dX10_begins_0 : decode cX10_begins 0 = .ok (.aload_n 0, 1) := by decide +kernel
theorem dX10_begins_1 : decode cX10_begins 1 = .ok (.iconst 0, 1) := by decide +kernel
theorem dX10_begins_2 : decode cX10_begins 2 = .ok (.invokevirtual 325, 3) := by decide +kernel
theorem dX10_begins_5 : decode cX10_begins 5 = .ok (.return_, 1) := by decide +kernel
theorem hd_X10_begins : yX10_begins.cls = xCn 10 ∧ yX10_begins.cls ≠ "java/lang/invoke/MethodHandle" ∧ yX10_begins.cls ≠ "java/lang/invoke/VarHandle" ∧ (parseMethodDescriptor yX10_begins.desc).map (fun d => d.parameters.length) = some 0 := by decide +kernel
def f_X10_begins (sh : List xSh) (q0 : Nat) (d : xD) : Option xD :=
  (xon 10 sh q0 (f_X10_starts sh q0 (0 : Int32) d)).bind fun d1 => some d1
set_option maxHeartbeats 4000000 in
set_option maxRecDepth 100000 in
theorem mt_X10_begins (l : Launch) (D : va_G) (cid : FieldType → ClassId) (b : Nat) (ex : Bool) (sa sv B0 : Nat) (sh : List xSh) (q0 : Nat) (d : xD) (dz : xD) (hf : f_X10_begins sh q0 d = some dz) : xMet l yX10_begins cX10_begins 1 none 1 0 0 D cid b ex sa sv B0 [.ref (b + q0)] sh d none sh dz := by
  refine xMet.of (by decide) (Nat.le_of_ble_eq_true rfl) ?_
  intro p e s m below meth c ls A S hr hin G hl
  have hl : lv_has ls 1 [(0, .ref (b + q0))] := hl
  generalize ([.ref (b + q0)] : List Value).toArray = av at S ⊢
  have hx := S.1
  have hb := S.2.1
  have hml := S.2.2.1
  have hown := S.2.2.2.1
  have hts := S.2.2.2.2.1
  unfold f_X10_begins at hf
  refine lv_aload_n hx hb dX10_begins_0 rfl (lv_at hl 0 rfl) ?_
  refine lv_iconst (v := (0 : Int32)) hx hb dX10_begins_1 (by decide) ?_
  obtain ⟨d1, hd1, hf⟩ := x_ob hf
  obtain ⟨hqd1, hd1⟩ := xon_of hd1
  refine xr_callV (ci := 10) (As := [.int (0 : Int32)]) (rest := []) (st1 := []) S G hl.1 (fun _ => rfl) (mt_X10_starts l D cid b ex sa sv B0 sh q0 (0 : Int32) d _ hd1) hqd1 (by decide) kw_1164 kw_1166 ks_36 kw_17 kw_1167 hd_X10_starts ⟨Nat.le_of_ble_eq_true rfl, Nat.le_of_ble_eq_true rfl⟩ rfl rfl rfl (Nat.le_of_ble_eq_true rfl) ⟨Nat.le_of_ble_eq_true rfl, Nat.le_of_ble_eq_true rfl⟩ dX10_begins_2 (fun H locs G => ?_)
  cases hf
  exact xr_vret S G (fun _ => rfl) hr dX10_begins_5
-- HalfLandingsModel.fault(I)I
theorem dX10_fault_0 : decode cX10_fault 0 = .ok (.aload_n 0, 1) := by decide +kernel
theorem dX10_fault_1 : decode cX10_fault 1 = .ok (.iconst 0, 1) := by decide +kernel
theorem dX10_fault_2 : decode cX10_fault 2 = .ok (.putfield 145, 3) := by decide +kernel
theorem dX10_fault_5 : decode cX10_fault 5 = .ok (.iload_n 1, 1) := by decide +kernel
theorem dX10_fault_6 : decode cX10_fault 6 = .ok (.ifCond .ne 10, 3) := by decide +kernel
theorem dX10_fault_9 : decode cX10_fault 9 = .ok (.aload_n 0, 1) := by decide +kernel
theorem dX10_fault_10 : decode cX10_fault 10 = .ok (.getfield 288, 3) := by decide +kernel
theorem dX10_fault_13 : decode cX10_fault 13 = .ok (.goto 16, 3) := by decide +kernel
theorem dX10_fault_16 : decode cX10_fault 16 = .ok (.iload_n 1, 1) := by decide +kernel
theorem dX10_fault_17 : decode cX10_fault 17 = .ok (.iconst 1, 1) := by decide +kernel
theorem dX10_fault_18 : decode cX10_fault 18 = .ok (.if_icmp .ne 10, 3) := by decide +kernel
theorem dX10_fault_21 : decode cX10_fault 21 = .ok (.aload_n 0, 1) := by decide +kernel
theorem dX10_fault_22 : decode cX10_fault 22 = .ok (.getfield 61, 3) := by decide +kernel
theorem dX10_fault_25 : decode cX10_fault 25 = .ok (.goto 4, 3) := by decide +kernel
theorem dX10_fault_28 : decode cX10_fault 28 = .ok (.iconst (-1), 1) := by decide +kernel
theorem dX10_fault_29 : decode cX10_fault 29 = .ok (.ireturn, 1) := by decide +kernel
theorem hd_X10_fault : yX10_fault.cls = xCn 10 ∧ yX10_fault.cls ≠ "java/lang/invoke/MethodHandle" ∧ yX10_fault.cls ≠ "java/lang/invoke/VarHandle" ∧ (parseMethodDescriptor yX10_fault.desc).map (fun d => d.parameters.length) = some 1 := by decide +kernel
def k_X10_fault_29 (sh : List xSh) (y0 : Int32) (d : xD) : Option (Int32 × xD) :=
  some (y0, d)
def f_X10_fault (sh : List xSh) (q0 : Nat) (x1 : Int32) (d : xD) : Option (Int32 × xD) :=
  (xpI 10 sh d q0 0 (0 : Int32)).bind fun d1 => if x1 = 0 then ((xgI 10 sh d1 q0 28).bind fun v3 => k_X10_fault_29 sh v3 d1) else (if x1 = (1 : Int32) then ((xgI 10 sh d1 q0 29).bind fun v2 => k_X10_fault_29 sh v2 d1) else (k_X10_fault_29 sh (-1 : Int32) d1))
set_option maxHeartbeats 4000000 in
set_option maxRecDepth 100000 in
theorem mt_X10_fault (l : Launch) (D : va_G) (cid : FieldType → ClassId) (b : Nat) (ex : Bool) (sa sv B0 : Nat) (sh : List xSh) (q0 : Nat) (x1 : Int32) (d : xD) (r : Int32) (dz : xD) (hf : f_X10_fault sh q0 x1 d = some (r, dz)) : xMet l yX10_fault cX10_fault 2 (some .int) 0 0 0 D cid b ex sa sv B0 [.ref (b + q0), .int x1] sh d (some (.int r)) sh dz := by
  refine xMet.of (by decide) (Nat.le_of_ble_eq_true rfl) ?_
  intro p e s m below meth c ls A S hr hin G hl
  have hl : lv_has ls 2 [(0, .ref (b + q0)), (1, .int x1)] := hl
  generalize ([.ref (b + q0), .int x1] : List Value).toArray = av at S ⊢
  have hx := S.1
  have hb := S.2.1
  have hml := S.2.2.1
  have hown := S.2.2.2.1
  have hts := S.2.2.2.2.1
  have K29 : ∀ (y0 : Int32) (d : xD), k_X10_fault_29 sh y0 d = some (r, dz) → ∀ (H : Heap) (locs : List Loc) (ls : Array Slot), lv_has ls 2 [] → xG D cid b A sh d s H locs → W p l e (xRm 0 0 0) s m av below meth c H locs 0 0 (MQ below (xQ D cid b ex A (some (.int r)) sh dz) av s 0 0 A) (F0 m 29 ls [.int y0]) := by
    intro y0 d hf H locs ls hl G
    unfold k_X10_fault_29 at hf
    cases hf
    exact xr_iret S G (fun _ => rfl) hr dX10_fault_29
  unfold f_X10_fault at hf
  refine lv_aload_n hx hb dX10_fault_0 rfl (lv_at hl 0 rfl) ?_
  refine lv_iconst (v := (0 : Int32)) hx hb dX10_fault_1 (by decide) ?_
  obtain ⟨d1, hd1, hf⟩ := x_ob hf
  refine xr_putI (ci := 10) (k := 0) S G hd1 rfl kw_1168 dX10_fault_2 (fun H locs G => ?_)
  refine lv_iload_n hx hb dX10_fault_5 rfl (lv_at hl 1 rfl) ?_
  refine lv_if_ne (tgt := 16) hx hb dX10_fault_6 (by decide) (fun c => ?_) (fun c => ?_)
  · have hf := x_neg c hf
    refine lv_iload_n hx hb dX10_fault_16 rfl (lv_at hl 1 rfl) ?_
    refine lv_iconst (v := (1 : Int32)) hx hb dX10_fault_17 (by decide) ?_
    refine lv_icmp_ne (tgt := 28) hx hb dX10_fault_18 (by decide) (fun c => ?_) (fun c => ?_)
    · have hf := x_neg c hf
      refine lv_iconst (v := (-1 : Int32)) hx hb dX10_fault_28 (by decide) ?_
      exact K29 (-1 : Int32) d1 hf _ _ ls (lv_sub hl [] rfl) G
    · have hf := x_pos c hf
      refine lv_aload_n hx hb dX10_fault_21 rfl (lv_at hl 0 rfl) ?_
      obtain ⟨v2, hv2, hf⟩ := x_ob hf
      refine xr_getI (ci := 10) (k := 29) S G hv2 rfl kw_1197 dX10_fault_22 ?_
      refine lv_goto (tgt := 29) hx hb dX10_fault_25 (by decide) ?_
      exact K29 v2 d1 hf _ _ ls (lv_sub hl [] rfl) G
  · have hf := x_pos c hf
    refine lv_aload_n hx hb dX10_fault_9 rfl (lv_at hl 0 rfl) ?_
    obtain ⟨v3, hv3, hf⟩ := x_ob hf
    refine xr_getI (ci := 10) (k := 28) S G hv3 rfl kw_1196 dX10_fault_10 ?_
    refine lv_goto (tgt := 29) hx hb dX10_fault_13 (by decide) ?_
    exact K29 v3 d1 hf _ _ ls (lv_sub hl [] rfl) G
-- HalfLandingsModel.named(II)I
theorem dX10_named_0 : decode cX10_named 0 = .ok (.aload_n 0, 1) := by decide +kernel
theorem dX10_named_1 : decode cX10_named 1 = .ok (.iconst 0, 1) := by decide +kernel
theorem dX10_named_2 : decode cX10_named 2 = .ok (.putfield 145, 3) := by decide +kernel
theorem dX10_named_5 : decode cX10_named 5 = .ok (.iload_n 1, 1) := by decide +kernel
theorem dX10_named_6 : decode cX10_named 6 = .ok (.lookupswitch 58 #[(0, 26), (1, 42)], 26) := by decide +kernel
theorem dX10_named_32 : decode cX10_named 32 = .ok (.aload_n 0, 1) := by decide +kernel
theorem dX10_named_33 : decode cX10_named 33 = .ok (.getfield 16, 3) := by decide +kernel
theorem dX10_named_36 : decode cX10_named 36 = .ok (.iconst 0, 1) := by decide +kernel
theorem dX10_named_37 : decode cX10_named 37 = .ok (.aload_n 0, 1) := by decide +kernel
theorem dX10_named_38 : decode cX10_named 38 = .ok (.getfield 13, 3) := by decide +kernel
theorem dX10_named_41 : decode cX10_named 41 = .ok (.iconst 1, 1) := by decide +kernel
theorem dX10_named_42 : decode cX10_named 42 = .ok (.iaload, 1) := by decide +kernel
theorem dX10_named_43 : decode cX10_named 43 = .ok (.iload_n 2, 1) := by decide +kernel
theorem dX10_named_44 : decode cX10_named 44 = .ok (.invokestatic 211, 3) := by decide +kernel
theorem dX10_named_47 : decode cX10_named 47 = .ok (.ireturn, 1) := by decide +kernel
theorem dX10_named_48 : decode cX10_named 48 = .ok (.aload_n 0, 1) := by decide +kernel
theorem dX10_named_49 : decode cX10_named 49 = .ok (.getfield 25, 3) := by decide +kernel
theorem dX10_named_52 : decode cX10_named 52 = .ok (.iconst 0, 1) := by decide +kernel
theorem dX10_named_53 : decode cX10_named 53 = .ok (.aload_n 0, 1) := by decide +kernel
theorem dX10_named_54 : decode cX10_named 54 = .ok (.getfield 13, 3) := by decide +kernel
theorem dX10_named_57 : decode cX10_named 57 = .ok (.iconst 2, 1) := by decide +kernel
theorem dX10_named_58 : decode cX10_named 58 = .ok (.iaload, 1) := by decide +kernel
theorem dX10_named_59 : decode cX10_named 59 = .ok (.iload_n 2, 1) := by decide +kernel
theorem dX10_named_60 : decode cX10_named 60 = .ok (.invokestatic 211, 3) := by decide +kernel
theorem dX10_named_63 : decode cX10_named 63 = .ok (.ireturn, 1) := by decide +kernel
theorem dX10_named_64 : decode cX10_named 64 = .ok (.iconst (-1), 1) := by decide +kernel
theorem dX10_named_65 : decode cX10_named 65 = .ok (.ireturn, 1) := by decide +kernel
theorem hd_X10_named : yX10_named.cls = xCn 10 ∧ yX10_named.cls ≠ "java/lang/invoke/MethodHandle" ∧ yX10_named.cls ≠ "java/lang/invoke/VarHandle" ∧ (parseMethodDescriptor yX10_named.desc).map (fun d => d.parameters.length) = some 2 := by decide +kernel
def f_X10_named (sh : List xSh) (q0 : Nat) (x1 : Int32) (x2 : Int32) (d : xD) : Option (Int32 × xD) :=
  (xpI 10 sh d q0 0 (0 : Int32)).bind fun d1 => if x1 = (0 : Int32) then ((xgR 10 sh d1 q0 4).bind fun v3 => (xgR 10 sh d1 q0 3).bind fun v4 => (xaI .int sh d1 v4 (1 : Int32)).bind fun v5 => (f_X10_found sh v3 (0 : Int32) v5 x2 d1).bind fun z6 => some (z6.1, z6.2)) else (if x1 = (1 : Int32) then ((xgR 10 sh d1 q0 7).bind fun v8 => (xgR 10 sh d1 q0 3).bind fun v9 => (xaI .int sh d1 v9 (2 : Int32)).bind fun v10 => (f_X10_found sh v8 (0 : Int32) v10 x2 d1).bind fun z11 => some (z11.1, z11.2)) else (some ((-1 : Int32), d1)))
set_option maxHeartbeats 4000000 in
set_option maxRecDepth 100000 in
theorem mt_X10_named (l : Launch) (D : va_G) (cid : FieldType → ClassId) (b : Nat) (ex : Bool) (sa sv B0 : Nat) (sh : List xSh) (q0 : Nat) (x1 : Int32) (x2 : Int32) (d : xD) (r : Int32) (dz : xD) (hf : f_X10_named sh q0 x1 x2 d = some (r, dz)) : xMet l yX10_named cX10_named 3 (some .int) 1 0 0 D cid b ex sa sv B0 [.ref (b + q0), .int x1, .int x2] sh d (some (.int r)) sh dz := by
  refine xMet.of (by decide) (Nat.le_of_ble_eq_true rfl) ?_
  intro p e s m below meth c ls A S hr hin G hl
  have hl : lv_has ls 3 [(0, .ref (b + q0)), (1, .int x1), (2, .int x2)] := hl
  generalize ([.ref (b + q0), .int x1, .int x2] : List Value).toArray = av at S ⊢
  have hx := S.1
  have hb := S.2.1
  have hml := S.2.2.1
  have hown := S.2.2.2.1
  have hts := S.2.2.2.2.1
  unfold f_X10_named at hf
  refine lv_aload_n hx hb dX10_named_0 rfl (lv_at hl 0 rfl) ?_
  refine lv_iconst (v := (0 : Int32)) hx hb dX10_named_1 (by decide) ?_
  obtain ⟨d1, hd1, hf⟩ := x_ob hf
  refine xr_putI (ci := 10) (k := 0) S G hd1 rfl kw_1168 dX10_named_2 (fun H locs G => ?_)
  refine lv_iload_n hx hb dX10_named_5 rfl (lv_at hl 1 rfl) ?_
  by_cases c2 : x1 = (0 : Int32)
  · have hf := x_pos c2 hf
    refine lv_lookup (tgt := 32) (off := 26) hx hb dX10_named_6 (by decide) (by rw [c2]; decide) (by decide) ?_
    refine lv_aload_n hx hb dX10_named_32 rfl (lv_at hl 0 rfl) ?_
    obtain ⟨v3, hv3, hf⟩ := x_ob hf
    refine xr_getR (ci := 10) (k := 4) S G hv3 rfl kw_1172 dX10_named_33 ?_
    refine lv_iconst (v := (0 : Int32)) hx hb dX10_named_36 (by decide) ?_
    refine lv_aload_n hx hb dX10_named_37 rfl (lv_at hl 0 rfl) ?_
    obtain ⟨v4, hv4, hf⟩ := x_ob hf
    refine xr_getR (ci := 10) (k := 3) S G hv4 rfl kw_1171 dX10_named_38 ?_
    refine lv_iconst (v := (1 : Int32)) hx hb dX10_named_41 (by decide) ?_
    obtain ⟨v5, hv5, hf⟩ := x_ob hf
    refine xr_iald S G hv5 dX10_named_42 ?_
    refine lv_iload_n hx hb dX10_named_43 rfl (lv_at hl 2 rfl) ?_
    obtain ⟨z6, hz6, hf⟩ := x_ob hf
    refine xr_callS (As := [.ref (b + v3), .int (0 : Int32), .int v5, .int x2]) (rest := []) (st1 := [.int z6.1]) S G hl.1 (fun _ => rfl) (mt_X10_found l D cid b ex sa sv B0 sh v3 (0 : Int32) v5 x2 d1 _ _ hz6) kw_1434 kw_1435 kw_17 kw_1436 hd_X10_found ⟨Nat.le_of_ble_eq_true rfl, Nat.le_of_ble_eq_true rfl⟩ rfl rfl rfl (Nat.le_of_ble_eq_true rfl) ⟨Nat.le_of_ble_eq_true rfl, Nat.le_of_ble_eq_true rfl⟩ dX10_named_44 (fun H locs G => ?_)
    cases hf
    exact xr_iret S G (fun _ => rfl) hr dX10_named_47
  · have hf := x_neg c2 hf
    by_cases c7 : x1 = (1 : Int32)
    · have hf := x_pos c7 hf
      refine lv_lookup (tgt := 48) (off := 42) hx hb dX10_named_6 (by decide) (by rw [c7]; decide) (by decide) ?_
      refine lv_aload_n hx hb dX10_named_48 rfl (lv_at hl 0 rfl) ?_
      obtain ⟨v8, hv8, hf⟩ := x_ob hf
      refine xr_getR (ci := 10) (k := 7) S G hv8 rfl kw_1175 dX10_named_49 ?_
      refine lv_iconst (v := (0 : Int32)) hx hb dX10_named_52 (by decide) ?_
      refine lv_aload_n hx hb dX10_named_53 rfl (lv_at hl 0 rfl) ?_
      obtain ⟨v9, hv9, hf⟩ := x_ob hf
      refine xr_getR (ci := 10) (k := 3) S G hv9 rfl kw_1171 dX10_named_54 ?_
      refine lv_iconst (v := (2 : Int32)) hx hb dX10_named_57 (by decide) ?_
      obtain ⟨v10, hv10, hf⟩ := x_ob hf
      refine xr_iald S G hv10 dX10_named_58 ?_
      refine lv_iload_n hx hb dX10_named_59 rfl (lv_at hl 2 rfl) ?_
      obtain ⟨z11, hz11, hf⟩ := x_ob hf
      refine xr_callS (As := [.ref (b + v8), .int (0 : Int32), .int v10, .int x2]) (rest := []) (st1 := [.int z11.1]) S G hl.1 (fun _ => rfl) (mt_X10_found l D cid b ex sa sv B0 sh v8 (0 : Int32) v10 x2 d1 _ _ hz11) kw_1434 kw_1435 kw_17 kw_1436 hd_X10_found ⟨Nat.le_of_ble_eq_true rfl, Nat.le_of_ble_eq_true rfl⟩ rfl rfl rfl (Nat.le_of_ble_eq_true rfl) ⟨Nat.le_of_ble_eq_true rfl, Nat.le_of_ble_eq_true rfl⟩ dX10_named_60 (fun H locs G => ?_)
      cases hf
      exact xr_iret S G (fun _ => rfl) hr dX10_named_63
    · have hf := x_neg c7 hf
      have hks : ∀ q ∈ ([(0, 26), (1, 42)] : List (Int × Int)), (x1).toInt ≠ q.1 := by
        intro q hq
        simp only [List.mem_cons, List.not_mem_nil, or_false] at hq
        rcases hq with rfl | rfl
        · exact x_toInt_ne 0 c2 (by decide)
        · exact x_toInt_ne 1 c7 (by decide)
      refine lv_lookup (tgt := 64) (off := 58) hx hb dX10_named_6 (by decide) (xlk_none _ hks) (by decide) ?_
      refine lv_iconst (v := (-1 : Int32)) hx hb dX10_named_64 (by decide) ?_
      cases hf
      exact xr_iret S G (fun _ => rfl) hr dX10_named_65
-- HalfLandingsModel.is(Z)J
theorem dX10_is_0 : decode cX10_is 0 = .ok (.iload_n 0, 1) := by decide +kernel
theorem dX10_is_1 : decode cX10_is 1 = .ok (.ifCond .eq 7, 3) := by decide +kernel
theorem dX10_is_4 : decode cX10_is 4 = .ok (.lconst 1, 1) := by decide +kernel
theorem dX10_is_5 : decode cX10_is 5 = .ok (.goto 4, 3) := by decide +kernel
theorem dX10_is_8 : decode cX10_is 8 = .ok (.lconst 0, 1) := by decide +kernel
theorem dX10_is_9 : decode cX10_is 9 = .ok (.lreturn, 1) := by decide +kernel
theorem hd_X10_is : yX10_is.cls ≠ "java/lang/invoke/MethodHandle" ∧ yX10_is.cls ≠ "java/lang/invoke/VarHandle" ∧ (parseMethodDescriptor yX10_is.desc).map (fun d => d.parameters.length) = some 1 := by decide +kernel
def k_X10_is_9 (sh : List xSh) (y0 : Int64) (d : xD) : Option (Int64 × xD) :=
  some (y0, d)
def f_X10_is (sh : List xSh) (x0 : Int32) (d : xD) : Option (Int64 × xD) :=
  if x0 = 0 then (k_X10_is_9 sh (0 : Int64) d) else (k_X10_is_9 sh (1 : Int64) d)
set_option maxHeartbeats 4000000 in
set_option maxRecDepth 100000 in
theorem mt_X10_is (l : Launch) (D : va_G) (cid : FieldType → ClassId) (b : Nat) (ex : Bool) (sa sv B0 : Nat) (sh : List xSh) (x0 : Int32) (d : xD) (r : Int64) (dz : xD) (hf : f_X10_is sh x0 d = some (r, dz)) : xMet l yX10_is cX10_is 1 (some .long) 0 0 0 D cid b ex sa sv B0 [.int x0] sh d (some (.long r)) sh dz := by
  refine xMet.of (by decide) (Nat.le_of_ble_eq_true rfl) ?_
  intro p e s m below meth c ls A S hr hin G hl
  have hl : lv_has ls 1 [(0, .int x0)] := hl
  generalize ([.int x0] : List Value).toArray = av at S ⊢
  have hx := S.1
  have hb := S.2.1
  have hml := S.2.2.1
  have hown := S.2.2.2.1
  have hts := S.2.2.2.2.1
  have K9 : ∀ (y0 : Int64) (d : xD), k_X10_is_9 sh y0 d = some (r, dz) → ∀ (H : Heap) (locs : List Loc) (ls : Array Slot), lv_has ls 1 [] → xG D cid b A sh d s H locs → W p l e (xRm 0 0 0) s m av below meth c H locs 0 0 (MQ below (xQ D cid b ex A (some (.long r)) sh dz) av s 0 0 A) (F0 m 9 ls [.long y0]) := by
    intro y0 d hf H locs ls hl G
    unfold k_X10_is_9 at hf
    cases hf
    exact xr_lret S G (fun _ => rfl) hr dX10_is_9
  unfold f_X10_is at hf
  refine lv_iload_n hx hb dX10_is_0 rfl (lv_at hl 0 rfl) ?_
  refine lv_if_eq (tgt := 8) hx hb dX10_is_1 (by decide) (fun c => ?_) (fun c => ?_)
  · have hf := x_pos c hf
    refine lv_lconst (v := (0 : Int64)) hx hb dX10_is_8 (by decide) ?_
    exact K9 (0 : Int64) d hf _ _ ls (lv_sub hl [] rfl) G
  · have hf := x_neg c hf
    refine lv_lconst (v := (1 : Int64)) hx hb dX10_is_4 (by decide) ?_
    refine lv_goto (tgt := 9) hx hb dX10_is_5 (by decide) ?_
    exact K9 (1 : Int64) d hf _ _ ls (lv_sub hl [] rfl) G
-- HalfLandingsModel.works(I)Z
theorem dX10_works_0 : decode cX10_works 0 = .ok (.aload_n 0, 1) := by decide +kernel
theorem dX10_works_1 : decode cX10_works 1 = .ok (.getfield 69, 3) := by decide +kernel
theorem dX10_works_4 : decode cX10_works 4 = .ok (.aload_n 0, 1) := by decide +kernel
theorem dX10_works_5 : decode cX10_works 5 = .ok (.getfield 305, 3) := by decide +kernel
theorem dX10_works_8 : decode cX10_works 8 = .ok (.iconst 1, 1) := by decide +kernel
theorem dX10_works_9 : decode cX10_works 9 = .ok (.isub, 1) := by decide +kernel
theorem dX10_works_10 : decode cX10_works 10 = .ok (.laload, 1) := by decide +kernel
theorem dX10_works_11 : decode cX10_works 11 = .ok (.lstore_n 2, 1) := by decide +kernel
theorem dX10_works_12 : decode cX10_works 12 = .ok (.iload_n 1, 1) := by decide +kernel
theorem dX10_works_13 : decode cX10_works 13 = .ok (.sipush 260, 3) := by decide +kernel
theorem dX10_works_16 : decode cX10_works 16 = .ok (.if_icmp .ne 30, 3) := by decide +kernel
theorem dX10_works_19 : decode cX10_works 19 = .ok (.aload_n 0, 1) := by decide +kernel
theorem dX10_works_20 : decode cX10_works 20 = .ok (.getfield 69, 3) := by decide +kernel
theorem dX10_works_23 : decode cX10_works 23 = .ok (.aload_n 0, 1) := by decide +kernel
theorem dX10_works_24 : decode cX10_works 24 = .ok (.getfield 305, 3) := by decide +kernel
theorem dX10_works_27 : decode cX10_works 27 = .ok (.iconst 1, 1) := by decide +kernel
theorem dX10_works_28 : decode cX10_works 28 = .ok (.isub, 1) := by decide +kernel
theorem dX10_works_29 : decode cX10_works 29 = .ok (.lload_n 2, 1) := by decide +kernel
theorem dX10_works_30 : decode cX10_works 30 = .ok (.lconst 0, 1) := by decide +kernel
theorem dX10_works_31 : decode cX10_works 31 = .ok (.lcmp, 1) := by decide +kernel
theorem dX10_works_32 : decode cX10_works 32 = .ok (.ifCond .ne 7, 3) := by decide +kernel
theorem dX10_works_35 : decode cX10_works 35 = .ok (.iconst 1, 1) := by decide +kernel
theorem dX10_works_36 : decode cX10_works 36 = .ok (.goto 4, 3) := by decide +kernel
theorem dX10_works_39 : decode cX10_works 39 = .ok (.iconst 0, 1) := by decide +kernel
theorem dX10_works_40 : decode cX10_works 40 = .ok (.invokestatic 308, 3) := by decide +kernel
theorem dX10_works_43 : decode cX10_works 43 = .ok (.lastore, 1) := by decide +kernel
theorem dX10_works_44 : decode cX10_works 44 = .ok (.iconst 1, 1) := by decide +kernel
theorem dX10_works_45 : decode cX10_works 45 = .ok (.ireturn, 1) := by decide +kernel
theorem dX10_works_46 : decode cX10_works 46 = .ok (.aload_n 0, 1) := by decide +kernel
theorem dX10_works_47 : decode cX10_works 47 = .ok (.getfield 69, 3) := by decide +kernel
theorem dX10_works_50 : decode cX10_works 50 = .ok (.aload_n 0, 1) := by decide +kernel
theorem dX10_works_51 : decode cX10_works 51 = .ok (.getfield 305, 3) := by decide +kernel
theorem dX10_works_54 : decode cX10_works 54 = .ok (.iconst 2, 1) := by decide +kernel
theorem dX10_works_55 : decode cX10_works 55 = .ok (.isub, 1) := by decide +kernel
theorem dX10_works_56 : decode cX10_works 56 = .ok (.laload, 1) := by decide +kernel
theorem dX10_works_57 : decode cX10_works 57 = .ok (.lstore 4, 2) := by decide +kernel
theorem dX10_works_59 : decode cX10_works 59 = .ok (.aload_n 0, 1) := by decide +kernel
theorem dX10_works_60 : decode cX10_works 60 = .ok (.dup, 1) := by decide +kernel
theorem dX10_works_61 : decode cX10_works 61 = .ok (.getfield 305, 3) := by decide +kernel
theorem dX10_works_64 : decode cX10_works 64 = .ok (.iconst 1, 1) := by decide +kernel
theorem dX10_works_65 : decode cX10_works 65 = .ok (.isub, 1) := by decide +kernel
theorem dX10_works_66 : decode cX10_works 66 = .ok (.putfield 305, 3) := by decide +kernel
theorem dX10_works_69 : decode cX10_works 69 = .ok (.iload_n 1, 1) := by decide +kernel
theorem dX10_works_70 : decode cX10_works 70 = .ok (.lookupswitch 314 #[(42, 116), (43, 98), (45, 107), (47, 151), (60, 168), (61, 208), (62, 188), (256, 228), (257, 268), (258, 248), (261, 288)], 98) := by decide +kernel
theorem dX10_works_168 : decode cX10_works 168 = .ok (.lload 4, 2) := by decide +kernel
theorem dX10_works_170 : decode cX10_works 170 = .ok (.lload_n 2, 1) := by decide +kernel
theorem dX10_works_171 : decode cX10_works 171 = .ok (.ladd, 1) := by decide +kernel
theorem dX10_works_172 : decode cX10_works 172 = .ok (.lstore 6, 2) := by decide +kernel
theorem dX10_works_174 : decode cX10_works 174 = .ok (.goto 233, 3) := by decide +kernel
theorem dX10_works_177 : decode cX10_works 177 = .ok (.lload 4, 2) := by decide +kernel
theorem dX10_works_179 : decode cX10_works 179 = .ok (.lload_n 2, 1) := by decide +kernel
theorem dX10_works_180 : decode cX10_works 180 = .ok (.lsub, 1) := by decide +kernel
theorem dX10_works_181 : decode cX10_works 181 = .ok (.lstore 6, 2) := by decide +kernel
theorem dX10_works_183 : decode cX10_works 183 = .ok (.goto 224, 3) := by decide +kernel
theorem dX10_works_186 : decode cX10_works 186 = .ok (.lload 4, 2) := by decide +kernel
theorem dX10_works_188 : decode cX10_works 188 = .ok (.lconst 0, 1) := by decide +kernel
theorem dX10_works_189 : decode cX10_works 189 = .ok (.lcmp, 1) := by decide +kernel
theorem dX10_works_190 : decode cX10_works 190 = .ok (.ifCond .eq 22, 3) := by decide +kernel
theorem dX10_works_193 : decode cX10_works 193 = .ok (.lload_n 2, 1) := by decide +kernel
theorem dX10_works_194 : decode cX10_works 194 = .ok (.invokestatic 312, 3) := by decide +kernel
theorem dX10_works_197 : decode cX10_works 197 = .ok (.ldc2_w 318, 3) := by decide +kernel
theorem dX10_works_200 : decode cX10_works 200 = .ok (.lload 4, 2) := by decide +kernel
theorem dX10_works_202 : decode cX10_works 202 = .ok (.invokestatic 312, 3) := by decide +kernel
theorem dX10_works_205 : decode cX10_works 205 = .ok (.ldiv, 1) := by decide +kernel
theorem dX10_works_206 : decode cX10_works 206 = .ok (.lcmp, 1) := by decide +kernel
theorem dX10_works_207 : decode cX10_works 207 = .ok (.ifCond .le 5, 3) := by decide +kernel
theorem dX10_works_210 : decode cX10_works 210 = .ok (.iconst 0, 1) := by decide +kernel
theorem dX10_works_211 : decode cX10_works 211 = .ok (.ireturn, 1) := by decide +kernel
theorem dX10_works_212 : decode cX10_works 212 = .ok (.lload 4, 2) := by decide +kernel
theorem dX10_works_214 : decode cX10_works 214 = .ok (.lload_n 2, 1) := by decide +kernel
theorem dX10_works_215 : decode cX10_works 215 = .ok (.lmul, 1) := by decide +kernel
theorem dX10_works_216 : decode cX10_works 216 = .ok (.lstore 6, 2) := by decide +kernel
theorem dX10_works_218 : decode cX10_works 218 = .ok (.goto 189, 3) := by decide +kernel
theorem dX10_works_221 : decode cX10_works 221 = .ok (.lload_n 2, 1) := by decide +kernel
theorem dX10_works_222 : decode cX10_works 222 = .ok (.lconst 0, 1) := by decide +kernel
theorem dX10_works_223 : decode cX10_works 223 = .ok (.lcmp, 1) := by decide +kernel
theorem dX10_works_224 : decode cX10_works 224 = .ok (.ifCond .ne 5, 3) := by decide +kernel
theorem dX10_works_227 : decode cX10_works 227 = .ok (.iconst 0, 1) := by decide +kernel
theorem dX10_works_228 : decode cX10_works 228 = .ok (.ireturn, 1) := by decide +kernel
theorem dX10_works_229 : decode cX10_works 229 = .ok (.lload 4, 2) := by decide +kernel
theorem dX10_works_231 : decode cX10_works 231 = .ok (.lload_n 2, 1) := by decide +kernel
theorem dX10_works_232 : decode cX10_works 232 = .ok (.ldiv, 1) := by decide +kernel
theorem dX10_works_233 : decode cX10_works 233 = .ok (.lstore 6, 2) := by decide +kernel
theorem dX10_works_235 : decode cX10_works 235 = .ok (.goto 172, 3) := by decide +kernel
theorem dX10_works_238 : decode cX10_works 238 = .ok (.lload 4, 2) := by decide +kernel
theorem dX10_works_240 : decode cX10_works 240 = .ok (.lload_n 2, 1) := by decide +kernel
theorem dX10_works_241 : decode cX10_works 241 = .ok (.lcmp, 1) := by decide +kernel
theorem dX10_works_242 : decode cX10_works 242 = .ok (.ifCond .ge 7, 3) := by decide +kernel
theorem dX10_works_245 : decode cX10_works 245 = .ok (.iconst 1, 1) := by decide +kernel
theorem dX10_works_246 : decode cX10_works 246 = .ok (.goto 4, 3) := by decide +kernel
theorem dX10_works_249 : decode cX10_works 249 = .ok (.iconst 0, 1) := by decide +kernel
theorem dX10_works_250 : decode cX10_works 250 = .ok (.invokestatic 308, 3) := by decide +kernel
theorem dX10_works_253 : decode cX10_works 253 = .ok (.lstore 6, 2) := by decide +kernel
theorem dX10_works_255 : decode cX10_works 255 = .ok (.goto 152, 3) := by decide +kernel
theorem dX10_works_258 : decode cX10_works 258 = .ok (.lload 4, 2) := by decide +kernel
theorem dX10_works_260 : decode cX10_works 260 = .ok (.lload_n 2, 1) := by decide +kernel
theorem dX10_works_261 : decode cX10_works 261 = .ok (.lcmp, 1) := by decide +kernel
theorem dX10_works_262 : decode cX10_works 262 = .ok (.ifCond .le 7, 3) := by decide +kernel
theorem dX10_works_265 : decode cX10_works 265 = .ok (.iconst 1, 1) := by decide +kernel
theorem dX10_works_266 : decode cX10_works 266 = .ok (.goto 4, 3) := by decide +kernel
theorem dX10_works_269 : decode cX10_works 269 = .ok (.iconst 0, 1) := by decide +kernel
theorem dX10_works_270 : decode cX10_works 270 = .ok (.invokestatic 308, 3) := by decide +kernel
theorem dX10_works_273 : decode cX10_works 273 = .ok (.lstore 6, 2) := by decide +kernel
theorem dX10_works_275 : decode cX10_works 275 = .ok (.goto 132, 3) := by decide +kernel
theorem dX10_works_278 : decode cX10_works 278 = .ok (.lload 4, 2) := by decide +kernel
theorem dX10_works_280 : decode cX10_works 280 = .ok (.lload_n 2, 1) := by decide +kernel
theorem dX10_works_281 : decode cX10_works 281 = .ok (.lcmp, 1) := by decide +kernel
theorem dX10_works_282 : decode cX10_works 282 = .ok (.ifCond .ne 7, 3) := by decide +kernel
theorem dX10_works_285 : decode cX10_works 285 = .ok (.iconst 1, 1) := by decide +kernel
theorem dX10_works_286 : decode cX10_works 286 = .ok (.goto 4, 3) := by decide +kernel
theorem dX10_works_289 : decode cX10_works 289 = .ok (.iconst 0, 1) := by decide +kernel
theorem dX10_works_290 : decode cX10_works 290 = .ok (.invokestatic 308, 3) := by decide +kernel
theorem dX10_works_293 : decode cX10_works 293 = .ok (.lstore 6, 2) := by decide +kernel
theorem dX10_works_295 : decode cX10_works 295 = .ok (.goto 112, 3) := by decide +kernel
theorem dX10_works_298 : decode cX10_works 298 = .ok (.lload 4, 2) := by decide +kernel
theorem dX10_works_300 : decode cX10_works 300 = .ok (.lload_n 2, 1) := by decide +kernel
theorem dX10_works_301 : decode cX10_works 301 = .ok (.lcmp, 1) := by decide +kernel
theorem dX10_works_302 : decode cX10_works 302 = .ok (.ifCond .gt 7, 3) := by decide +kernel
theorem dX10_works_305 : decode cX10_works 305 = .ok (.iconst 1, 1) := by decide +kernel
theorem dX10_works_306 : decode cX10_works 306 = .ok (.goto 4, 3) := by decide +kernel
theorem dX10_works_309 : decode cX10_works 309 = .ok (.iconst 0, 1) := by decide +kernel
theorem dX10_works_310 : decode cX10_works 310 = .ok (.invokestatic 308, 3) := by decide +kernel
theorem dX10_works_313 : decode cX10_works 313 = .ok (.lstore 6, 2) := by decide +kernel
theorem dX10_works_315 : decode cX10_works 315 = .ok (.goto 92, 3) := by decide +kernel
theorem dX10_works_318 : decode cX10_works 318 = .ok (.lload 4, 2) := by decide +kernel
theorem dX10_works_320 : decode cX10_works 320 = .ok (.lload_n 2, 1) := by decide +kernel
theorem dX10_works_321 : decode cX10_works 321 = .ok (.lcmp, 1) := by decide +kernel
theorem dX10_works_322 : decode cX10_works 322 = .ok (.ifCond .lt 7, 3) := by decide +kernel
theorem dX10_works_325 : decode cX10_works 325 = .ok (.iconst 1, 1) := by decide +kernel
theorem dX10_works_326 : decode cX10_works 326 = .ok (.goto 4, 3) := by decide +kernel
theorem dX10_works_329 : decode cX10_works 329 = .ok (.iconst 0, 1) := by decide +kernel
theorem dX10_works_330 : decode cX10_works 330 = .ok (.invokestatic 308, 3) := by decide +kernel
theorem dX10_works_333 : decode cX10_works 333 = .ok (.lstore 6, 2) := by decide +kernel
theorem dX10_works_335 : decode cX10_works 335 = .ok (.goto 72, 3) := by decide +kernel
theorem dX10_works_338 : decode cX10_works 338 = .ok (.lload 4, 2) := by decide +kernel
theorem dX10_works_340 : decode cX10_works 340 = .ok (.lload_n 2, 1) := by decide +kernel
theorem dX10_works_341 : decode cX10_works 341 = .ok (.lcmp, 1) := by decide +kernel
theorem dX10_works_342 : decode cX10_works 342 = .ok (.ifCond .eq 7, 3) := by decide +kernel
theorem dX10_works_345 : decode cX10_works 345 = .ok (.iconst 1, 1) := by decide +kernel
theorem dX10_works_346 : decode cX10_works 346 = .ok (.goto 4, 3) := by decide +kernel
theorem dX10_works_349 : decode cX10_works 349 = .ok (.iconst 0, 1) := by decide +kernel
theorem dX10_works_350 : decode cX10_works 350 = .ok (.invokestatic 308, 3) := by decide +kernel
theorem dX10_works_353 : decode cX10_works 353 = .ok (.lstore 6, 2) := by decide +kernel
theorem dX10_works_355 : decode cX10_works 355 = .ok (.goto 52, 3) := by decide +kernel
theorem dX10_works_358 : decode cX10_works 358 = .ok (.lload 4, 2) := by decide +kernel
theorem dX10_works_360 : decode cX10_works 360 = .ok (.lconst 0, 1) := by decide +kernel
theorem dX10_works_361 : decode cX10_works 361 = .ok (.lcmp, 1) := by decide +kernel
theorem dX10_works_362 : decode cX10_works 362 = .ok (.ifCond .eq 13, 3) := by decide +kernel
theorem dX10_works_365 : decode cX10_works 365 = .ok (.lload_n 2, 1) := by decide +kernel
theorem dX10_works_366 : decode cX10_works 366 = .ok (.lconst 0, 1) := by decide +kernel
theorem dX10_works_367 : decode cX10_works 367 = .ok (.lcmp, 1) := by decide +kernel
theorem dX10_works_368 : decode cX10_works 368 = .ok (.ifCond .eq 7, 3) := by decide +kernel
theorem dX10_works_371 : decode cX10_works 371 = .ok (.iconst 1, 1) := by decide +kernel
theorem dX10_works_372 : decode cX10_works 372 = .ok (.goto 4, 3) := by decide +kernel
theorem dX10_works_375 : decode cX10_works 375 = .ok (.iconst 0, 1) := by decide +kernel
theorem dX10_works_376 : decode cX10_works 376 = .ok (.invokestatic 308, 3) := by decide +kernel
theorem dX10_works_379 : decode cX10_works 379 = .ok (.lstore 6, 2) := by decide +kernel
theorem dX10_works_381 : decode cX10_works 381 = .ok (.goto 26, 3) := by decide +kernel
theorem dX10_works_384 : decode cX10_works 384 = .ok (.lload 4, 2) := by decide +kernel
theorem dX10_works_386 : decode cX10_works 386 = .ok (.lconst 0, 1) := by decide +kernel
theorem dX10_works_387 : decode cX10_works 387 = .ok (.lcmp, 1) := by decide +kernel
theorem dX10_works_388 : decode cX10_works 388 = .ok (.ifCond .ne 9, 3) := by decide +kernel
theorem dX10_works_391 : decode cX10_works 391 = .ok (.lload_n 2, 1) := by decide +kernel
theorem dX10_works_392 : decode cX10_works 392 = .ok (.lconst 0, 1) := by decide +kernel
theorem dX10_works_393 : decode cX10_works 393 = .ok (.lcmp, 1) := by decide +kernel
theorem dX10_works_394 : decode cX10_works 394 = .ok (.ifCond .eq 7, 3) := by decide +kernel
theorem dX10_works_397 : decode cX10_works 397 = .ok (.iconst 1, 1) := by decide +kernel
theorem dX10_works_398 : decode cX10_works 398 = .ok (.goto 4, 3) := by decide +kernel
theorem dX10_works_401 : decode cX10_works 401 = .ok (.iconst 0, 1) := by decide +kernel
theorem dX10_works_402 : decode cX10_works 402 = .ok (.invokestatic 308, 3) := by decide +kernel
theorem dX10_works_405 : decode cX10_works 405 = .ok (.lstore 6, 2) := by decide +kernel
theorem dX10_works_407 : decode cX10_works 407 = .ok (.aload_n 0, 1) := by decide +kernel
theorem dX10_works_408 : decode cX10_works 408 = .ok (.getfield 69, 3) := by decide +kernel
theorem dX10_works_411 : decode cX10_works 411 = .ok (.aload_n 0, 1) := by decide +kernel
theorem dX10_works_412 : decode cX10_works 412 = .ok (.getfield 305, 3) := by decide +kernel
theorem dX10_works_415 : decode cX10_works 415 = .ok (.iconst 1, 1) := by decide +kernel
theorem dX10_works_416 : decode cX10_works 416 = .ok (.isub, 1) := by decide +kernel
theorem dX10_works_417 : decode cX10_works 417 = .ok (.lload 6, 2) := by decide +kernel
theorem dX10_works_419 : decode cX10_works 419 = .ok (.lastore, 1) := by decide +kernel
theorem dX10_works_420 : decode cX10_works 420 = .ok (.lload 6, 2) := by decide +kernel
theorem dX10_works_422 : decode cX10_works 422 = .ok (.ldc2_w 318, 3) := by decide +kernel
theorem dX10_works_425 : decode cX10_works 425 = .ok (.lcmp, 1) := by decide +kernel
theorem dX10_works_426 : decode cX10_works 426 = .ok (.ifCond .gt 16, 3) := by decide +kernel
theorem dX10_works_429 : decode cX10_works 429 = .ok (.lload 6, 2) := by decide +kernel
theorem dX10_works_431 : decode cX10_works 431 = .ok (.ldc2_w 320, 3) := by decide +kernel
theorem dX10_works_434 : decode cX10_works 434 = .ok (.lcmp, 1) := by decide +kernel
theorem dX10_works_435 : decode cX10_works 435 = .ok (.ifCond .lt 7, 3) := by decide +kernel
theorem dX10_works_438 : decode cX10_works 438 = .ok (.iconst 1, 1) := by decide +kernel
theorem dX10_works_439 : decode cX10_works 439 = .ok (.goto 4, 3) := by decide +kernel
theorem dX10_works_442 : decode cX10_works 442 = .ok (.iconst 0, 1) := by decide +kernel
theorem dX10_works_443 : decode cX10_works 443 = .ok (.ireturn, 1) := by decide +kernel
theorem hd_X10_works : yX10_works.cls = xCn 10 ∧ yX10_works.cls ≠ "java/lang/invoke/MethodHandle" ∧ yX10_works.cls ≠ "java/lang/invoke/VarHandle" ∧ (parseMethodDescriptor yX10_works.desc).map (fun d => d.parameters.length) = some 1 := by decide +kernel
def k_X10_works_443 (sh : List xSh) (y0 : Int32) (d : xD) : Option (Int32 × xD) :=
  (xz y0).bind fun v1 => some (v1, d)
def k_X10_works_442 (sh : List xSh) (d : xD) : Option (Int32 × xD) :=
  k_X10_works_443 sh (0 : Int32) d
def k_X10_works_407 (sh : List xSh) (q0 : Nat) (x6 : Int64) (d : xD) : Option (Int32 × xD) :=
  (xgR 10 sh d q0 33).bind fun v2 => (xgI 10 sh d q0 34).bind fun v3 => (xsL sh d v2 (v3 - (1 : Int32)) x6).bind fun d4 => if 0 < (lg_cmp x6 (1000000000000 : Int64)) then (k_X10_works_442 sh d4) else (if (lg_cmp x6 (-1000000000000 : Int64)) < 0 then (k_X10_works_442 sh d4) else (k_X10_works_443 sh (1 : Int32) d4))
def k_X10_works_212 (sh : List xSh) (q0 : Nat) (x2 : Int64) (x4 : Int64) (d : xD) : Option (Int32 × xD) :=
  k_X10_works_407 sh q0 (x4 * x2) d
def k_X10_works_250 (sh : List xSh) (q0 : Nat) (y0 : Int32) (d : xD) : Option (Int32 × xD) :=
  (f_X10_is sh y0 d).bind fun z5 => k_X10_works_407 sh q0 z5.1 z5.2
def k_X10_works_290 (sh : List xSh) (q0 : Nat) (y0 : Int32) (d : xD) : Option (Int32 × xD) :=
  (f_X10_is sh y0 d).bind fun z6 => k_X10_works_407 sh q0 z6.1 z6.2
def k_X10_works_270 (sh : List xSh) (q0 : Nat) (y0 : Int32) (d : xD) : Option (Int32 × xD) :=
  (f_X10_is sh y0 d).bind fun z7 => k_X10_works_407 sh q0 z7.1 z7.2
def k_X10_works_310 (sh : List xSh) (q0 : Nat) (y0 : Int32) (d : xD) : Option (Int32 × xD) :=
  (f_X10_is sh y0 d).bind fun z8 => k_X10_works_407 sh q0 z8.1 z8.2
def k_X10_works_350 (sh : List xSh) (q0 : Nat) (y0 : Int32) (d : xD) : Option (Int32 × xD) :=
  (f_X10_is sh y0 d).bind fun z9 => k_X10_works_407 sh q0 z9.1 z9.2
def k_X10_works_330 (sh : List xSh) (q0 : Nat) (y0 : Int32) (d : xD) : Option (Int32 × xD) :=
  (f_X10_is sh y0 d).bind fun z10 => k_X10_works_407 sh q0 z10.1 z10.2
def k_X10_works_376 (sh : List xSh) (q0 : Nat) (y0 : Int32) (d : xD) : Option (Int32 × xD) :=
  (f_X10_is sh y0 d).bind fun z11 => k_X10_works_407 sh q0 z11.1 z11.2
def k_X10_works_375 (sh : List xSh) (q0 : Nat) (d : xD) : Option (Int32 × xD) :=
  k_X10_works_376 sh q0 (0 : Int32) d
def k_X10_works_402 (sh : List xSh) (q0 : Nat) (y0 : Int32) (d : xD) : Option (Int32 × xD) :=
  (f_X10_is sh y0 d).bind fun z12 => k_X10_works_407 sh q0 z12.1 z12.2
def k_X10_works_397 (sh : List xSh) (q0 : Nat) (d : xD) : Option (Int32 × xD) :=
  k_X10_works_402 sh q0 (1 : Int32) d
def k_X10_works_40 (sh : List xSh) (p0 : Nat) (y1 : Int32) (y2 : Int32) (d : xD) : Option (Int32 × xD) :=
  (f_X10_is sh y2 d).bind fun z13 => (xsL sh z13.2 p0 y1 z13.1).bind fun d14 => some ((1 : Int32), d14)
def f_X10_works (sh : List xSh) (q0 : Nat) (x1 : Int32) (d : xD) : Option (Int32 × xD) :=
  (xgR 10 sh d q0 33).bind fun v15 => (xgI 10 sh d q0 34).bind fun v16 => (xaL sh d v15 (v16 - (1 : Int32))).bind fun v17 => if x1 = (260 : Int32) then ((xgR 10 sh d q0 33).bind fun v36 => (xgI 10 sh d q0 34).bind fun v37 => if (lg_cmp v17 (0 : Int64)) = 0 then (k_X10_works_40 sh v36 (v37 - (1 : Int32)) (1 : Int32) d) else (k_X10_works_40 sh v36 (v37 - (1 : Int32)) (0 : Int32) d)) else ((xgR 10 sh d q0 33).bind fun v18 => (xgI 10 sh d q0 34).bind fun v19 => (xaL sh d v18 (v19 - (2 : Int32))).bind fun v20 => (xgI 10 sh d q0 34).bind fun v21 => (xpI 10 sh d q0 34 (v21 - (1 : Int32))).bind fun d22 => if x1 = (42 : Int32) then (if (lg_cmp v20 (0 : Int64)) = 0 then (k_X10_works_212 sh q0 v17 v20 d22) else ((xdL (1000000000000 : Int64) (if 0 < v20 then v20 else -v20)).bind fun v24 => if (lg_cmp (if 0 < v17 then v17 else -v17) v24) ≤ 0 then (k_X10_works_212 sh q0 v17 v20 d22) else (some ((0 : Int32), d22)))) else (if x1 = (43 : Int32) then (k_X10_works_407 sh q0 (v20 + v17) d22) else (if x1 = (45 : Int32) then (k_X10_works_407 sh q0 (v20 - v17) d22) else (if x1 = (47 : Int32) then (if (lg_cmp v17 (0 : Int64)) = 0 then (some ((0 : Int32), d22)) else ((xdL v20 v17).bind fun v28 => k_X10_works_407 sh q0 v28 d22)) else (if x1 = (60 : Int32) then (if 0 ≤ (lg_cmp v20 v17) then (k_X10_works_250 sh q0 (0 : Int32) d22) else (k_X10_works_250 sh q0 (1 : Int32) d22)) else (if x1 = (61 : Int32) then (if (lg_cmp v20 v17) = 0 then (k_X10_works_290 sh q0 (1 : Int32) d22) else (k_X10_works_290 sh q0 (0 : Int32) d22)) else (if x1 = (62 : Int32) then (if (lg_cmp v20 v17) ≤ 0 then (k_X10_works_270 sh q0 (0 : Int32) d22) else (k_X10_works_270 sh q0 (1 : Int32) d22)) else (if x1 = (256 : Int32) then (if 0 < (lg_cmp v20 v17) then (k_X10_works_310 sh q0 (0 : Int32) d22) else (k_X10_works_310 sh q0 (1 : Int32) d22)) else (if x1 = (257 : Int32) then (if (lg_cmp v20 v17) = 0 then (k_X10_works_350 sh q0 (0 : Int32) d22) else (k_X10_works_350 sh q0 (1 : Int32) d22)) else (if x1 = (258 : Int32) then (if (lg_cmp v20 v17) < 0 then (k_X10_works_330 sh q0 (0 : Int32) d22) else (k_X10_works_330 sh q0 (1 : Int32) d22)) else (if x1 = (261 : Int32) then (if (lg_cmp v20 (0 : Int64)) = 0 then (k_X10_works_375 sh q0 d22) else (if (lg_cmp v17 (0 : Int64)) = 0 then (k_X10_works_375 sh q0 d22) else (k_X10_works_376 sh q0 (1 : Int32) d22))) else (if (lg_cmp v20 (0 : Int64)) = 0 then (if (lg_cmp v17 (0 : Int64)) = 0 then (k_X10_works_402 sh q0 (0 : Int32) d22) else (k_X10_works_397 sh q0 d22)) else (k_X10_works_397 sh q0 d22)))))))))))))
set_option maxHeartbeats 4000000 in
set_option maxRecDepth 100000 in
theorem mt_X10_works (l : Launch) (D : va_G) (cid : FieldType → ClassId) (b : Nat) (ex : Bool) (sa sv B0 : Nat) (sh : List xSh) (q0 : Nat) (x1 : Int32) (d : xD) (r : Int32) (dz : xD) (hf : f_X10_works sh q0 x1 d = some (r, dz)) : xMet l yX10_works cX10_works 8 (some .boolean) 1 0 0 D cid b ex sa sv B0 [.ref (b + q0), .int x1] sh d (some (.int r)) sh dz := by
  refine xMet.of (by decide) (Nat.le_of_ble_eq_true rfl) ?_
  intro p e s m below meth c ls A S hr hin G hl
  have hl : lv_has ls 8 [(0, .ref (b + q0)), (1, .int x1)] := hl
  generalize ([.ref (b + q0), .int x1] : List Value).toArray = av at S ⊢
  have hx := S.1
  have hb := S.2.1
  have hml := S.2.2.1
  have hown := S.2.2.2.1
  have hts := S.2.2.2.2.1
  have K443 : ∀ (y0 : Int32) (d : xD), k_X10_works_443 sh y0 d = some (r, dz) → ∀ (H : Heap) (locs : List Loc) (ls : Array Slot), lv_has ls 8 [] → xG D cid b A sh d s H locs → W p l e (xRm 1 0 0) s m av below meth c H locs 0 0 (MQ below (xQ D cid b ex A (some (.int r)) sh dz) av s 0 0 A) (F0 m 443 ls [.int y0]) := by
    intro y0 d hf H locs ls hl G
    unfold k_X10_works_443 at hf
    obtain ⟨v1, hv1, hf⟩ := x_ob hf
    cases hf
    exact xr_zret S G (fun _ => rfl) hr hv1 dX10_works_443
  have K442 : ∀ (d : xD), k_X10_works_442 sh d = some (r, dz) → ∀ (H : Heap) (locs : List Loc) (ls : Array Slot), lv_has ls 8 [] → xG D cid b A sh d s H locs → W p l e (xRm 1 0 0) s m av below meth c H locs 0 0 (MQ below (xQ D cid b ex A (some (.int r)) sh dz) av s 0 0 A) (F0 m 442 ls []) := by
    intro d hf H locs ls hl G
    unfold k_X10_works_442 at hf
    refine lv_iconst (v := (0 : Int32)) hx hb dX10_works_442 (by decide) ?_
    exact K443 (0 : Int32) d hf _ _ ls (lv_sub hl [] rfl) G
  have K407 : ∀ (q0 : Nat) (x6 : Int64) (d : xD), k_X10_works_407 sh q0 x6 d = some (r, dz) → ∀ (H : Heap) (locs : List Loc) (ls : Array Slot), lv_has ls 8 [(0, .ref (b + q0)), (6, .long x6)] → xG D cid b A sh d s H locs → W p l e (xRm 1 0 0) s m av below meth c H locs 0 0 (MQ below (xQ D cid b ex A (some (.int r)) sh dz) av s 0 0 A) (F0 m 407 ls []) := by
    intro q0 x6 d hf H locs ls hl G
    unfold k_X10_works_407 at hf
    refine lv_aload_n hx hb dX10_works_407 rfl (lv_at hl 0 rfl) ?_
    obtain ⟨v2, hv2, hf⟩ := x_ob hf
    refine xr_getR (ci := 10) (k := 33) S G hv2 rfl kw_1201 dX10_works_408 ?_
    refine lv_aload_n hx hb dX10_works_411 rfl (lv_at hl 0 rfl) ?_
    obtain ⟨v3, hv3, hf⟩ := x_ob hf
    refine xr_getI (ci := 10) (k := 34) S G hv3 rfl kw_1202 dX10_works_412 ?_
    refine lv_iconst (v := (1 : Int32)) hx hb dX10_works_415 (by decide) ?_
    refine lv_isub hx hb dX10_works_416 ?_
    refine lv_lload hx hb dX10_works_417 (lv_at hl 1 rfl) ?_
    obtain ⟨d4, hd4, hf⟩ := x_ob hf
    refine xr_last S G hd4 dX10_works_419 (fun H locs G => ?_)
    refine lv_lload hx hb dX10_works_420 (lv_at hl 1 rfl) ?_
    refine lv_ldc2 (v := (1000000000000 : Int64)) hx hb hown (hts _ kw_1566) dX10_works_422 ?_
    refine W.lcmp hx hb dX10_works_425 ?_
    refine lv_if_gt (tgt := 442) hx hb dX10_works_426 (by decide) (fun c => ?_) (fun c => ?_)
    · have hf := x_pos c hf
      exact K442 d4 hf _ _ ls (lv_sub hl [] rfl) G
    · have hf := x_neg c hf
      refine lv_lload hx hb dX10_works_429 (lv_at hl 1 rfl) ?_
      refine lv_ldc2 (v := (-1000000000000 : Int64)) hx hb hown (hts _ kw_1567) dX10_works_431 ?_
      refine W.lcmp hx hb dX10_works_434 ?_
      refine lv_if_lt (tgt := 442) hx hb dX10_works_435 (by decide) (fun c => ?_) (fun c => ?_)
      · have hf := x_pos c hf
        exact K442 d4 hf _ _ ls (lv_sub hl [] rfl) G
      · have hf := x_neg c hf
        refine lv_iconst (v := (1 : Int32)) hx hb dX10_works_438 (by decide) ?_
        refine lv_goto (tgt := 443) hx hb dX10_works_439 (by decide) ?_
        exact K443 (1 : Int32) d4 hf _ _ ls (lv_sub hl [] rfl) G
  have K212 : ∀ (q0 : Nat) (x2 : Int64) (x4 : Int64) (d : xD), k_X10_works_212 sh q0 x2 x4 d = some (r, dz) → ∀ (H : Heap) (locs : List Loc) (ls : Array Slot), lv_has ls 8 [(0, .ref (b + q0)), (2, .long x2), (4, .long x4)] → xG D cid b A sh d s H locs → W p l e (xRm 1 0 0) s m av below meth c H locs 0 0 (MQ below (xQ D cid b ex A (some (.int r)) sh dz) av s 0 0 A) (F0 m 212 ls []) := by
    intro q0 x2 x4 d hf H locs ls hl G
    unfold k_X10_works_212 at hf
    refine lv_lload hx hb dX10_works_212 (lv_at hl 2 rfl) ?_
    refine lv_lload_n hx hb dX10_works_214 rfl (lv_at hl 1 rfl) ?_
    refine lv_lmul hx hb dX10_works_215 ?_
    refine lv_lstore (lv' := [(6, .long (x4 * x2)), (0, .ref (b + q0)), (2, .long x2), (4, .long x4)]) hx hb dX10_works_216 hl (by decide) rfl (fun ls hl => ?_)
    refine lv_goto (tgt := 407) hx hb dX10_works_218 (by decide) ?_
    exact K407 q0 (x4 * x2) d hf _ _ ls (lv_sub hl [1, 0] rfl) G
  have K250 : ∀ (q0 : Nat) (y0 : Int32) (d : xD), k_X10_works_250 sh q0 y0 d = some (r, dz) → ∀ (H : Heap) (locs : List Loc) (ls : Array Slot), lv_has ls 8 [(0, .ref (b + q0))] → xG D cid b A sh d s H locs → W p l e (xRm 1 0 0) s m av below meth c H locs 0 0 (MQ below (xQ D cid b ex A (some (.int r)) sh dz) av s 0 0 A) (F0 m 250 ls [.int y0]) := by
    intro q0 y0 d hf H locs ls hl G
    unfold k_X10_works_250 at hf
    obtain ⟨z5, hz5, hf⟩ := x_ob hf
    refine xr_callS (As := [.int y0]) (rest := []) (st1 := [.long z5.1]) S G hl.1 (fun _ => rfl) (mt_X10_is l D cid b ex sa sv B0 sh y0 d _ _ hz5) kw_1560 kw_1561 kw_17 kw_1562 hd_X10_is ⟨Nat.le_of_ble_eq_true rfl, Nat.le_of_ble_eq_true rfl⟩ rfl rfl rfl (Nat.le_of_ble_eq_true rfl) ⟨Nat.le_of_ble_eq_true rfl, Nat.le_of_ble_eq_true rfl⟩ dX10_works_250 (fun H locs G => ?_)
    refine lv_lstore (lv' := [(6, .long z5.1), (0, .ref (b + q0))]) hx hb dX10_works_253 hl (by decide) rfl (fun ls hl => ?_)
    refine lv_goto (tgt := 407) hx hb dX10_works_255 (by decide) ?_
    exact K407 q0 z5.1 z5.2 hf _ _ ls (lv_sub hl [1, 0] rfl) G
  have K290 : ∀ (q0 : Nat) (y0 : Int32) (d : xD), k_X10_works_290 sh q0 y0 d = some (r, dz) → ∀ (H : Heap) (locs : List Loc) (ls : Array Slot), lv_has ls 8 [(0, .ref (b + q0))] → xG D cid b A sh d s H locs → W p l e (xRm 1 0 0) s m av below meth c H locs 0 0 (MQ below (xQ D cid b ex A (some (.int r)) sh dz) av s 0 0 A) (F0 m 290 ls [.int y0]) := by
    intro q0 y0 d hf H locs ls hl G
    unfold k_X10_works_290 at hf
    obtain ⟨z6, hz6, hf⟩ := x_ob hf
    refine xr_callS (As := [.int y0]) (rest := []) (st1 := [.long z6.1]) S G hl.1 (fun _ => rfl) (mt_X10_is l D cid b ex sa sv B0 sh y0 d _ _ hz6) kw_1560 kw_1561 kw_17 kw_1562 hd_X10_is ⟨Nat.le_of_ble_eq_true rfl, Nat.le_of_ble_eq_true rfl⟩ rfl rfl rfl (Nat.le_of_ble_eq_true rfl) ⟨Nat.le_of_ble_eq_true rfl, Nat.le_of_ble_eq_true rfl⟩ dX10_works_290 (fun H locs G => ?_)
    refine lv_lstore (lv' := [(6, .long z6.1), (0, .ref (b + q0))]) hx hb dX10_works_293 hl (by decide) rfl (fun ls hl => ?_)
    refine lv_goto (tgt := 407) hx hb dX10_works_295 (by decide) ?_
    exact K407 q0 z6.1 z6.2 hf _ _ ls (lv_sub hl [1, 0] rfl) G
  have K270 : ∀ (q0 : Nat) (y0 : Int32) (d : xD), k_X10_works_270 sh q0 y0 d = some (r, dz) → ∀ (H : Heap) (locs : List Loc) (ls : Array Slot), lv_has ls 8 [(0, .ref (b + q0))] → xG D cid b A sh d s H locs → W p l e (xRm 1 0 0) s m av below meth c H locs 0 0 (MQ below (xQ D cid b ex A (some (.int r)) sh dz) av s 0 0 A) (F0 m 270 ls [.int y0]) := by
    intro q0 y0 d hf H locs ls hl G
    unfold k_X10_works_270 at hf
    obtain ⟨z7, hz7, hf⟩ := x_ob hf
    refine xr_callS (As := [.int y0]) (rest := []) (st1 := [.long z7.1]) S G hl.1 (fun _ => rfl) (mt_X10_is l D cid b ex sa sv B0 sh y0 d _ _ hz7) kw_1560 kw_1561 kw_17 kw_1562 hd_X10_is ⟨Nat.le_of_ble_eq_true rfl, Nat.le_of_ble_eq_true rfl⟩ rfl rfl rfl (Nat.le_of_ble_eq_true rfl) ⟨Nat.le_of_ble_eq_true rfl, Nat.le_of_ble_eq_true rfl⟩ dX10_works_270 (fun H locs G => ?_)
    refine lv_lstore (lv' := [(6, .long z7.1), (0, .ref (b + q0))]) hx hb dX10_works_273 hl (by decide) rfl (fun ls hl => ?_)
    refine lv_goto (tgt := 407) hx hb dX10_works_275 (by decide) ?_
    exact K407 q0 z7.1 z7.2 hf _ _ ls (lv_sub hl [1, 0] rfl) G
  have K310 : ∀ (q0 : Nat) (y0 : Int32) (d : xD), k_X10_works_310 sh q0 y0 d = some (r, dz) → ∀ (H : Heap) (locs : List Loc) (ls : Array Slot), lv_has ls 8 [(0, .ref (b + q0))] → xG D cid b A sh d s H locs → W p l e (xRm 1 0 0) s m av below meth c H locs 0 0 (MQ below (xQ D cid b ex A (some (.int r)) sh dz) av s 0 0 A) (F0 m 310 ls [.int y0]) := by
    intro q0 y0 d hf H locs ls hl G
    unfold k_X10_works_310 at hf
    obtain ⟨z8, hz8, hf⟩ := x_ob hf
    refine xr_callS (As := [.int y0]) (rest := []) (st1 := [.long z8.1]) S G hl.1 (fun _ => rfl) (mt_X10_is l D cid b ex sa sv B0 sh y0 d _ _ hz8) kw_1560 kw_1561 kw_17 kw_1562 hd_X10_is ⟨Nat.le_of_ble_eq_true rfl, Nat.le_of_ble_eq_true rfl⟩ rfl rfl rfl (Nat.le_of_ble_eq_true rfl) ⟨Nat.le_of_ble_eq_true rfl, Nat.le_of_ble_eq_true rfl⟩ dX10_works_310 (fun H locs G => ?_)
    refine lv_lstore (lv' := [(6, .long z8.1), (0, .ref (b + q0))]) hx hb dX10_works_313 hl (by decide) rfl (fun ls hl => ?_)
    refine lv_goto (tgt := 407) hx hb dX10_works_315 (by decide) ?_
    exact K407 q0 z8.1 z8.2 hf _ _ ls (lv_sub hl [1, 0] rfl) G
  have K350 : ∀ (q0 : Nat) (y0 : Int32) (d : xD), k_X10_works_350 sh q0 y0 d = some (r, dz) → ∀ (H : Heap) (locs : List Loc) (ls : Array Slot), lv_has ls 8 [(0, .ref (b + q0))] → xG D cid b A sh d s H locs → W p l e (xRm 1 0 0) s m av below meth c H locs 0 0 (MQ below (xQ D cid b ex A (some (.int r)) sh dz) av s 0 0 A) (F0 m 350 ls [.int y0]) := by
    intro q0 y0 d hf H locs ls hl G
    unfold k_X10_works_350 at hf
    obtain ⟨z9, hz9, hf⟩ := x_ob hf
    refine xr_callS (As := [.int y0]) (rest := []) (st1 := [.long z9.1]) S G hl.1 (fun _ => rfl) (mt_X10_is l D cid b ex sa sv B0 sh y0 d _ _ hz9) kw_1560 kw_1561 kw_17 kw_1562 hd_X10_is ⟨Nat.le_of_ble_eq_true rfl, Nat.le_of_ble_eq_true rfl⟩ rfl rfl rfl (Nat.le_of_ble_eq_true rfl) ⟨Nat.le_of_ble_eq_true rfl, Nat.le_of_ble_eq_true rfl⟩ dX10_works_350 (fun H locs G => ?_)
    refine lv_lstore (lv' := [(6, .long z9.1), (0, .ref (b + q0))]) hx hb dX10_works_353 hl (by decide) rfl (fun ls hl => ?_)
    refine lv_goto (tgt := 407) hx hb dX10_works_355 (by decide) ?_
    exact K407 q0 z9.1 z9.2 hf _ _ ls (lv_sub hl [1, 0] rfl) G
  have K330 : ∀ (q0 : Nat) (y0 : Int32) (d : xD), k_X10_works_330 sh q0 y0 d = some (r, dz) → ∀ (H : Heap) (locs : List Loc) (ls : Array Slot), lv_has ls 8 [(0, .ref (b + q0))] → xG D cid b A sh d s H locs → W p l e (xRm 1 0 0) s m av below meth c H locs 0 0 (MQ below (xQ D cid b ex A (some (.int r)) sh dz) av s 0 0 A) (F0 m 330 ls [.int y0]) := by
    intro q0 y0 d hf H locs ls hl G
    unfold k_X10_works_330 at hf
    obtain ⟨z10, hz10, hf⟩ := x_ob hf
    refine xr_callS (As := [.int y0]) (rest := []) (st1 := [.long z10.1]) S G hl.1 (fun _ => rfl) (mt_X10_is l D cid b ex sa sv B0 sh y0 d _ _ hz10) kw_1560 kw_1561 kw_17 kw_1562 hd_X10_is ⟨Nat.le_of_ble_eq_true rfl, Nat.le_of_ble_eq_true rfl⟩ rfl rfl rfl (Nat.le_of_ble_eq_true rfl) ⟨Nat.le_of_ble_eq_true rfl, Nat.le_of_ble_eq_true rfl⟩ dX10_works_330 (fun H locs G => ?_)
    refine lv_lstore (lv' := [(6, .long z10.1), (0, .ref (b + q0))]) hx hb dX10_works_333 hl (by decide) rfl (fun ls hl => ?_)
    refine lv_goto (tgt := 407) hx hb dX10_works_335 (by decide) ?_
    exact K407 q0 z10.1 z10.2 hf _ _ ls (lv_sub hl [1, 0] rfl) G
  have K376 : ∀ (q0 : Nat) (y0 : Int32) (d : xD), k_X10_works_376 sh q0 y0 d = some (r, dz) → ∀ (H : Heap) (locs : List Loc) (ls : Array Slot), lv_has ls 8 [(0, .ref (b + q0))] → xG D cid b A sh d s H locs → W p l e (xRm 1 0 0) s m av below meth c H locs 0 0 (MQ below (xQ D cid b ex A (some (.int r)) sh dz) av s 0 0 A) (F0 m 376 ls [.int y0]) := by
    intro q0 y0 d hf H locs ls hl G
    unfold k_X10_works_376 at hf
    obtain ⟨z11, hz11, hf⟩ := x_ob hf
    refine xr_callS (As := [.int y0]) (rest := []) (st1 := [.long z11.1]) S G hl.1 (fun _ => rfl) (mt_X10_is l D cid b ex sa sv B0 sh y0 d _ _ hz11) kw_1560 kw_1561 kw_17 kw_1562 hd_X10_is ⟨Nat.le_of_ble_eq_true rfl, Nat.le_of_ble_eq_true rfl⟩ rfl rfl rfl (Nat.le_of_ble_eq_true rfl) ⟨Nat.le_of_ble_eq_true rfl, Nat.le_of_ble_eq_true rfl⟩ dX10_works_376 (fun H locs G => ?_)
    refine lv_lstore (lv' := [(6, .long z11.1), (0, .ref (b + q0))]) hx hb dX10_works_379 hl (by decide) rfl (fun ls hl => ?_)
    refine lv_goto (tgt := 407) hx hb dX10_works_381 (by decide) ?_
    exact K407 q0 z11.1 z11.2 hf _ _ ls (lv_sub hl [1, 0] rfl) G
  have K375 : ∀ (q0 : Nat) (d : xD), k_X10_works_375 sh q0 d = some (r, dz) → ∀ (H : Heap) (locs : List Loc) (ls : Array Slot), lv_has ls 8 [(0, .ref (b + q0))] → xG D cid b A sh d s H locs → W p l e (xRm 1 0 0) s m av below meth c H locs 0 0 (MQ below (xQ D cid b ex A (some (.int r)) sh dz) av s 0 0 A) (F0 m 375 ls []) := by
    intro q0 d hf H locs ls hl G
    unfold k_X10_works_375 at hf
    refine lv_iconst (v := (0 : Int32)) hx hb dX10_works_375 (by decide) ?_
    exact K376 q0 (0 : Int32) d hf _ _ ls (lv_sub hl [0] rfl) G
  have K402 : ∀ (q0 : Nat) (y0 : Int32) (d : xD), k_X10_works_402 sh q0 y0 d = some (r, dz) → ∀ (H : Heap) (locs : List Loc) (ls : Array Slot), lv_has ls 8 [(0, .ref (b + q0))] → xG D cid b A sh d s H locs → W p l e (xRm 1 0 0) s m av below meth c H locs 0 0 (MQ below (xQ D cid b ex A (some (.int r)) sh dz) av s 0 0 A) (F0 m 402 ls [.int y0]) := by
    intro q0 y0 d hf H locs ls hl G
    unfold k_X10_works_402 at hf
    obtain ⟨z12, hz12, hf⟩ := x_ob hf
    refine xr_callS (As := [.int y0]) (rest := []) (st1 := [.long z12.1]) S G hl.1 (fun _ => rfl) (mt_X10_is l D cid b ex sa sv B0 sh y0 d _ _ hz12) kw_1560 kw_1561 kw_17 kw_1562 hd_X10_is ⟨Nat.le_of_ble_eq_true rfl, Nat.le_of_ble_eq_true rfl⟩ rfl rfl rfl (Nat.le_of_ble_eq_true rfl) ⟨Nat.le_of_ble_eq_true rfl, Nat.le_of_ble_eq_true rfl⟩ dX10_works_402 (fun H locs G => ?_)
    refine lv_lstore (lv' := [(6, .long z12.1), (0, .ref (b + q0))]) hx hb dX10_works_405 hl (by decide) rfl (fun ls hl => ?_)
    exact K407 q0 z12.1 z12.2 hf _ _ ls (lv_sub hl [1, 0] rfl) G
  have K397 : ∀ (q0 : Nat) (d : xD), k_X10_works_397 sh q0 d = some (r, dz) → ∀ (H : Heap) (locs : List Loc) (ls : Array Slot), lv_has ls 8 [(0, .ref (b + q0))] → xG D cid b A sh d s H locs → W p l e (xRm 1 0 0) s m av below meth c H locs 0 0 (MQ below (xQ D cid b ex A (some (.int r)) sh dz) av s 0 0 A) (F0 m 397 ls []) := by
    intro q0 d hf H locs ls hl G
    unfold k_X10_works_397 at hf
    refine lv_iconst (v := (1 : Int32)) hx hb dX10_works_397 (by decide) ?_
    refine lv_goto (tgt := 402) hx hb dX10_works_398 (by decide) ?_
    exact K402 q0 (1 : Int32) d hf _ _ ls (lv_sub hl [0] rfl) G
  have K40 : ∀ (p0 : Nat) (y1 : Int32) (y2 : Int32) (d : xD), k_X10_works_40 sh p0 y1 y2 d = some (r, dz) → ∀ (H : Heap) (locs : List Loc) (ls : Array Slot), lv_has ls 8 [] → xG D cid b A sh d s H locs → W p l e (xRm 1 0 0) s m av below meth c H locs 0 0 (MQ below (xQ D cid b ex A (some (.int r)) sh dz) av s 0 0 A) (F0 m 40 ls [.int y2, .int y1, .ref (b + p0)]) := by
    intro p0 y1 y2 d hf H locs ls hl G
    unfold k_X10_works_40 at hf
    obtain ⟨z13, hz13, hf⟩ := x_ob hf
    refine xr_callS (As := [.int y2]) (rest := [.int y1, .ref (b + p0)]) (st1 := [.long z13.1, .int y1, .ref (b + p0)]) S G hl.1 (fun _ => rfl) (mt_X10_is l D cid b ex sa sv B0 sh y2 d _ _ hz13) kw_1560 kw_1561 kw_17 kw_1562 hd_X10_is ⟨Nat.le_of_ble_eq_true rfl, Nat.le_of_ble_eq_true rfl⟩ rfl rfl rfl (Nat.le_of_ble_eq_true rfl) ⟨Nat.le_of_ble_eq_true rfl, Nat.le_of_ble_eq_true rfl⟩ dX10_works_40 (fun H locs G => ?_)
    obtain ⟨d14, hd14, hf⟩ := x_ob hf
    refine xr_last S G hd14 dX10_works_43 (fun H locs G => ?_)
    refine lv_iconst (v := (1 : Int32)) hx hb dX10_works_44 (by decide) ?_
    cases hf
    exact xr_zret S G (fun _ => rfl) hr (by decide) dX10_works_45
  unfold f_X10_works at hf
  refine lv_aload_n hx hb dX10_works_0 rfl (lv_at hl 0 rfl) ?_
  obtain ⟨v15, hv15, hf⟩ := x_ob hf
  refine xr_getR (ci := 10) (k := 33) S G hv15 rfl kw_1201 dX10_works_1 ?_
  refine lv_aload_n hx hb dX10_works_4 rfl (lv_at hl 0 rfl) ?_
  obtain ⟨v16, hv16, hf⟩ := x_ob hf
  refine xr_getI (ci := 10) (k := 34) S G hv16 rfl kw_1202 dX10_works_5 ?_
  refine lv_iconst (v := (1 : Int32)) hx hb dX10_works_8 (by decide) ?_
  refine lv_isub hx hb dX10_works_9 ?_
  obtain ⟨v17, hv17, hf⟩ := x_ob hf
  refine xr_lald S G hv17 dX10_works_10 ?_
  refine lv_lstore_n (lv' := [(2, .long v17), (0, .ref (b + q0)), (1, .int x1)]) hx hb dX10_works_11 rfl hl (by decide) rfl (fun ls hl => ?_)
  refine lv_iload_n hx hb dX10_works_12 rfl (lv_at hl 2 rfl) ?_
  refine lv_sipush (v := (260 : Int32)) hx hb dX10_works_13 (by decide) ?_
  refine lv_icmp_ne (tgt := 46) hx hb dX10_works_16 (by decide) (fun c => ?_) (fun c => ?_)
  · have hf := x_neg c hf
    refine lv_aload_n hx hb dX10_works_46 rfl (lv_at hl 1 rfl) ?_
    obtain ⟨v18, hv18, hf⟩ := x_ob hf
    refine xr_getR (ci := 10) (k := 33) S G hv18 rfl kw_1201 dX10_works_47 ?_
    refine lv_aload_n hx hb dX10_works_50 rfl (lv_at hl 1 rfl) ?_
    obtain ⟨v19, hv19, hf⟩ := x_ob hf
    refine xr_getI (ci := 10) (k := 34) S G hv19 rfl kw_1202 dX10_works_51 ?_
    refine lv_iconst (v := (2 : Int32)) hx hb dX10_works_54 (by decide) ?_
    refine lv_isub hx hb dX10_works_55 ?_
    obtain ⟨v20, hv20, hf⟩ := x_ob hf
    refine xr_lald S G hv20 dX10_works_56 ?_
    refine lv_lstore (lv' := [(4, .long v20), (2, .long v17), (0, .ref (b + q0)), (1, .int x1)]) hx hb dX10_works_57 hl (by decide) rfl (fun ls hl => ?_)
    refine lv_aload_n hx hb dX10_works_59 rfl (lv_at hl 2 rfl) ?_
    refine lv_dup hx hb dX10_works_60 rfl ?_
    obtain ⟨v21, hv21, hf⟩ := x_ob hf
    refine xr_getI (ci := 10) (k := 34) S G hv21 rfl kw_1202 dX10_works_61 ?_
    refine lv_iconst (v := (1 : Int32)) hx hb dX10_works_64 (by decide) ?_
    refine lv_isub hx hb dX10_works_65 ?_
    obtain ⟨d22, hd22, hf⟩ := x_ob hf
    refine xr_putI (ci := 10) (k := 34) S G hd22 rfl kw_1202 dX10_works_66 (fun H locs G => ?_)
    refine lv_iload_n hx hb dX10_works_69 rfl (lv_at hl 3 rfl) ?_
    by_cases c23 : x1 = (42 : Int32)
    · have hf := x_pos c23 hf
      refine lv_lookup (tgt := 186) (off := 116) hx hb dX10_works_70 (by decide) (by rw [c23]; decide) (by decide) ?_
      refine lv_lload hx hb dX10_works_186 (lv_at hl 0 rfl) ?_
      refine lv_lconst (v := (0 : Int64)) hx hb dX10_works_188 (by decide) ?_
      refine W.lcmp hx hb dX10_works_189 ?_
      refine lv_if_eq (tgt := 212) hx hb dX10_works_190 (by decide) (fun c => ?_) (fun c => ?_)
      · have hf := x_pos c hf
        exact K212 q0 v17 v20 d22 hf _ _ ls (lv_sub hl [2, 1, 0] rfl) G
      · have hf := x_neg c hf
        refine lv_lload_n hx hb dX10_works_193 rfl (lv_at hl 1 rfl) ?_
        refine va_mabs_long hx hb (hml.trans hl.1.symm) hown (hts _ kw_1563) (hts _ kw_1564) (hts _ kw_18) (hts _ kp_mabs_long) (Nat.le_of_ble_eq_true rfl) (Nat.le_of_ble_eq_true rfl) (Nat.le_refl _) (Nat.le_refl _) dX10_works_194 ?_
        refine lv_ldc2 (v := (1000000000000 : Int64)) hx hb hown (hts _ kw_1566) dX10_works_197 ?_
        refine lv_lload hx hb dX10_works_200 (lv_at hl 0 rfl) ?_
        refine va_mabs_long hx hb (hml.trans hl.1.symm) hown (hts _ kw_1563) (hts _ kw_1564) (hts _ kw_18) (hts _ kp_mabs_long) (Nat.le_of_ble_eq_true rfl) (Nat.le_of_ble_eq_true rfl) (Nat.le_refl _) (Nat.le_refl _) dX10_works_202 ?_
        obtain ⟨v24, hv24, hf⟩ := x_ob hf
        refine xr_ldiv hx hb hv24 dX10_works_205 ?_
        refine W.lcmp hx hb dX10_works_206 ?_
        refine lv_if_le (tgt := 212) hx hb dX10_works_207 (by decide) (fun c => ?_) (fun c => ?_)
        · have hf := x_pos c hf
          exact K212 q0 v17 v20 d22 hf _ _ ls (lv_sub hl [2, 1, 0] rfl) G
        · have hf := x_neg c hf
          refine lv_iconst (v := (0 : Int32)) hx hb dX10_works_210 (by decide) ?_
          cases hf
          exact xr_zret S G (fun _ => rfl) hr (by decide) dX10_works_211
    · have hf := x_neg c23 hf
      by_cases c25 : x1 = (43 : Int32)
      · have hf := x_pos c25 hf
        refine lv_lookup (tgt := 168) (off := 98) hx hb dX10_works_70 (by decide) (by rw [c25]; decide) (by decide) ?_
        refine lv_lload hx hb dX10_works_168 (lv_at hl 0 rfl) ?_
        refine lv_lload_n hx hb dX10_works_170 rfl (lv_at hl 1 rfl) ?_
        refine lv_ladd hx hb dX10_works_171 ?_
        refine lv_lstore (lv' := [(6, .long (v20 + v17)), (4, .long v20), (2, .long v17), (0, .ref (b + q0)), (1, .int x1)]) hx hb dX10_works_172 hl (by decide) rfl (fun ls hl => ?_)
        refine lv_goto (tgt := 407) hx hb dX10_works_174 (by decide) ?_
        exact K407 q0 (v20 + v17) d22 hf _ _ ls (lv_sub hl [3, 0] rfl) G
      · have hf := x_neg c25 hf
        by_cases c26 : x1 = (45 : Int32)
        · have hf := x_pos c26 hf
          refine lv_lookup (tgt := 177) (off := 107) hx hb dX10_works_70 (by decide) (by rw [c26]; decide) (by decide) ?_
          refine lv_lload hx hb dX10_works_177 (lv_at hl 0 rfl) ?_
          refine lv_lload_n hx hb dX10_works_179 rfl (lv_at hl 1 rfl) ?_
          refine lv_lsub hx hb dX10_works_180 ?_
          refine lv_lstore (lv' := [(6, .long (v20 - v17)), (4, .long v20), (2, .long v17), (0, .ref (b + q0)), (1, .int x1)]) hx hb dX10_works_181 hl (by decide) rfl (fun ls hl => ?_)
          refine lv_goto (tgt := 407) hx hb dX10_works_183 (by decide) ?_
          exact K407 q0 (v20 - v17) d22 hf _ _ ls (lv_sub hl [3, 0] rfl) G
        · have hf := x_neg c26 hf
          by_cases c27 : x1 = (47 : Int32)
          · have hf := x_pos c27 hf
            refine lv_lookup (tgt := 221) (off := 151) hx hb dX10_works_70 (by decide) (by rw [c27]; decide) (by decide) ?_
            refine lv_lload_n hx hb dX10_works_221 rfl (lv_at hl 1 rfl) ?_
            refine lv_lconst (v := (0 : Int64)) hx hb dX10_works_222 (by decide) ?_
            refine W.lcmp hx hb dX10_works_223 ?_
            refine lv_if_ne (tgt := 229) hx hb dX10_works_224 (by decide) (fun c => ?_) (fun c => ?_)
            · have hf := x_neg c hf
              refine lv_lload hx hb dX10_works_229 (lv_at hl 0 rfl) ?_
              refine lv_lload_n hx hb dX10_works_231 rfl (lv_at hl 1 rfl) ?_
              obtain ⟨v28, hv28, hf⟩ := x_ob hf
              refine xr_ldiv hx hb hv28 dX10_works_232 ?_
              refine lv_lstore (lv' := [(6, .long v28), (4, .long v20), (2, .long v17), (0, .ref (b + q0)), (1, .int x1)]) hx hb dX10_works_233 hl (by decide) rfl (fun ls hl => ?_)
              refine lv_goto (tgt := 407) hx hb dX10_works_235 (by decide) ?_
              exact K407 q0 v28 d22 hf _ _ ls (lv_sub hl [3, 0] rfl) G
            · have hf := x_pos c hf
              refine lv_iconst (v := (0 : Int32)) hx hb dX10_works_227 (by decide) ?_
              cases hf
              exact xr_zret S G (fun _ => rfl) hr (by decide) dX10_works_228
          · have hf := x_neg c27 hf
            by_cases c29 : x1 = (60 : Int32)
            · have hf := x_pos c29 hf
              refine lv_lookup (tgt := 238) (off := 168) hx hb dX10_works_70 (by decide) (by rw [c29]; decide) (by decide) ?_
              refine lv_lload hx hb dX10_works_238 (lv_at hl 0 rfl) ?_
              refine lv_lload_n hx hb dX10_works_240 rfl (lv_at hl 1 rfl) ?_
              refine W.lcmp hx hb dX10_works_241 ?_
              refine lv_if_ge (tgt := 249) hx hb dX10_works_242 (by decide) (fun c => ?_) (fun c => ?_)
              · have hf := x_pos c hf
                refine lv_iconst (v := (0 : Int32)) hx hb dX10_works_249 (by decide) ?_
                exact K250 q0 (0 : Int32) d22 hf _ _ ls (lv_sub hl [2] rfl) G
              · have hf := x_neg c hf
                refine lv_iconst (v := (1 : Int32)) hx hb dX10_works_245 (by decide) ?_
                refine lv_goto (tgt := 250) hx hb dX10_works_246 (by decide) ?_
                exact K250 q0 (1 : Int32) d22 hf _ _ ls (lv_sub hl [2] rfl) G
            · have hf := x_neg c29 hf
              by_cases c30 : x1 = (61 : Int32)
              · have hf := x_pos c30 hf
                refine lv_lookup (tgt := 278) (off := 208) hx hb dX10_works_70 (by decide) (by rw [c30]; decide) (by decide) ?_
                refine lv_lload hx hb dX10_works_278 (lv_at hl 0 rfl) ?_
                refine lv_lload_n hx hb dX10_works_280 rfl (lv_at hl 1 rfl) ?_
                refine W.lcmp hx hb dX10_works_281 ?_
                refine lv_if_ne (tgt := 289) hx hb dX10_works_282 (by decide) (fun c => ?_) (fun c => ?_)
                · have hf := x_neg c hf
                  refine lv_iconst (v := (0 : Int32)) hx hb dX10_works_289 (by decide) ?_
                  exact K290 q0 (0 : Int32) d22 hf _ _ ls (lv_sub hl [2] rfl) G
                · have hf := x_pos c hf
                  refine lv_iconst (v := (1 : Int32)) hx hb dX10_works_285 (by decide) ?_
                  refine lv_goto (tgt := 290) hx hb dX10_works_286 (by decide) ?_
                  exact K290 q0 (1 : Int32) d22 hf _ _ ls (lv_sub hl [2] rfl) G
              · have hf := x_neg c30 hf
                by_cases c31 : x1 = (62 : Int32)
                · have hf := x_pos c31 hf
                  refine lv_lookup (tgt := 258) (off := 188) hx hb dX10_works_70 (by decide) (by rw [c31]; decide) (by decide) ?_
                  refine lv_lload hx hb dX10_works_258 (lv_at hl 0 rfl) ?_
                  refine lv_lload_n hx hb dX10_works_260 rfl (lv_at hl 1 rfl) ?_
                  refine W.lcmp hx hb dX10_works_261 ?_
                  refine lv_if_le (tgt := 269) hx hb dX10_works_262 (by decide) (fun c => ?_) (fun c => ?_)
                  · have hf := x_pos c hf
                    refine lv_iconst (v := (0 : Int32)) hx hb dX10_works_269 (by decide) ?_
                    exact K270 q0 (0 : Int32) d22 hf _ _ ls (lv_sub hl [2] rfl) G
                  · have hf := x_neg c hf
                    refine lv_iconst (v := (1 : Int32)) hx hb dX10_works_265 (by decide) ?_
                    refine lv_goto (tgt := 270) hx hb dX10_works_266 (by decide) ?_
                    exact K270 q0 (1 : Int32) d22 hf _ _ ls (lv_sub hl [2] rfl) G
                · have hf := x_neg c31 hf
                  by_cases c32 : x1 = (256 : Int32)
                  · have hf := x_pos c32 hf
                    refine lv_lookup (tgt := 298) (off := 228) hx hb dX10_works_70 (by decide) (by rw [c32]; decide) (by decide) ?_
                    refine lv_lload hx hb dX10_works_298 (lv_at hl 0 rfl) ?_
                    refine lv_lload_n hx hb dX10_works_300 rfl (lv_at hl 1 rfl) ?_
                    refine W.lcmp hx hb dX10_works_301 ?_
                    refine lv_if_gt (tgt := 309) hx hb dX10_works_302 (by decide) (fun c => ?_) (fun c => ?_)
                    · have hf := x_pos c hf
                      refine lv_iconst (v := (0 : Int32)) hx hb dX10_works_309 (by decide) ?_
                      exact K310 q0 (0 : Int32) d22 hf _ _ ls (lv_sub hl [2] rfl) G
                    · have hf := x_neg c hf
                      refine lv_iconst (v := (1 : Int32)) hx hb dX10_works_305 (by decide) ?_
                      refine lv_goto (tgt := 310) hx hb dX10_works_306 (by decide) ?_
                      exact K310 q0 (1 : Int32) d22 hf _ _ ls (lv_sub hl [2] rfl) G
                  · have hf := x_neg c32 hf
                    by_cases c33 : x1 = (257 : Int32)
                    · have hf := x_pos c33 hf
                      refine lv_lookup (tgt := 338) (off := 268) hx hb dX10_works_70 (by decide) (by rw [c33]; decide) (by decide) ?_
                      refine lv_lload hx hb dX10_works_338 (lv_at hl 0 rfl) ?_
                      refine lv_lload_n hx hb dX10_works_340 rfl (lv_at hl 1 rfl) ?_
                      refine W.lcmp hx hb dX10_works_341 ?_
                      refine lv_if_eq (tgt := 349) hx hb dX10_works_342 (by decide) (fun c => ?_) (fun c => ?_)
                      · have hf := x_pos c hf
                        refine lv_iconst (v := (0 : Int32)) hx hb dX10_works_349 (by decide) ?_
                        exact K350 q0 (0 : Int32) d22 hf _ _ ls (lv_sub hl [2] rfl) G
                      · have hf := x_neg c hf
                        refine lv_iconst (v := (1 : Int32)) hx hb dX10_works_345 (by decide) ?_
                        refine lv_goto (tgt := 350) hx hb dX10_works_346 (by decide) ?_
                        exact K350 q0 (1 : Int32) d22 hf _ _ ls (lv_sub hl [2] rfl) G
                    · have hf := x_neg c33 hf
                      by_cases c34 : x1 = (258 : Int32)
                      · have hf := x_pos c34 hf
                        refine lv_lookup (tgt := 318) (off := 248) hx hb dX10_works_70 (by decide) (by rw [c34]; decide) (by decide) ?_
                        refine lv_lload hx hb dX10_works_318 (lv_at hl 0 rfl) ?_
                        refine lv_lload_n hx hb dX10_works_320 rfl (lv_at hl 1 rfl) ?_
                        refine W.lcmp hx hb dX10_works_321 ?_
                        refine lv_if_lt (tgt := 329) hx hb dX10_works_322 (by decide) (fun c => ?_) (fun c => ?_)
                        · have hf := x_pos c hf
                          refine lv_iconst (v := (0 : Int32)) hx hb dX10_works_329 (by decide) ?_
                          exact K330 q0 (0 : Int32) d22 hf _ _ ls (lv_sub hl [2] rfl) G
                        · have hf := x_neg c hf
                          refine lv_iconst (v := (1 : Int32)) hx hb dX10_works_325 (by decide) ?_
                          refine lv_goto (tgt := 330) hx hb dX10_works_326 (by decide) ?_
                          exact K330 q0 (1 : Int32) d22 hf _ _ ls (lv_sub hl [2] rfl) G
                      · have hf := x_neg c34 hf
                        by_cases c35 : x1 = (261 : Int32)
                        · have hf := x_pos c35 hf
                          refine lv_lookup (tgt := 358) (off := 288) hx hb dX10_works_70 (by decide) (by rw [c35]; decide) (by decide) ?_
                          refine lv_lload hx hb dX10_works_358 (lv_at hl 0 rfl) ?_
                          refine lv_lconst (v := (0 : Int64)) hx hb dX10_works_360 (by decide) ?_
                          refine W.lcmp hx hb dX10_works_361 ?_
                          refine lv_if_eq (tgt := 375) hx hb dX10_works_362 (by decide) (fun c => ?_) (fun c => ?_)
                          · have hf := x_pos c hf
                            exact K375 q0 d22 hf _ _ ls (lv_sub hl [2] rfl) G
                          · have hf := x_neg c hf
                            refine lv_lload_n hx hb dX10_works_365 rfl (lv_at hl 1 rfl) ?_
                            refine lv_lconst (v := (0 : Int64)) hx hb dX10_works_366 (by decide) ?_
                            refine W.lcmp hx hb dX10_works_367 ?_
                            refine lv_if_eq (tgt := 375) hx hb dX10_works_368 (by decide) (fun c => ?_) (fun c => ?_)
                            · have hf := x_pos c hf
                              exact K375 q0 d22 hf _ _ ls (lv_sub hl [2] rfl) G
                            · have hf := x_neg c hf
                              refine lv_iconst (v := (1 : Int32)) hx hb dX10_works_371 (by decide) ?_
                              refine lv_goto (tgt := 376) hx hb dX10_works_372 (by decide) ?_
                              exact K376 q0 (1 : Int32) d22 hf _ _ ls (lv_sub hl [2] rfl) G
                        · have hf := x_neg c35 hf
                          have hks : ∀ q ∈ ([(42, 116), (43, 98), (45, 107), (47, 151), (60, 168), (61, 208), (62, 188), (256, 228), (257, 268), (258, 248), (261, 288)] : List (Int × Int)), (x1).toInt ≠ q.1 := by
                            intro q hq
                            simp only [List.mem_cons, List.not_mem_nil, or_false] at hq
                            rcases hq with rfl | rfl | rfl | rfl | rfl | rfl | rfl | rfl | rfl | rfl | rfl
                            · exact x_toInt_ne 42 c23 (by decide)
                            · exact x_toInt_ne 43 c25 (by decide)
                            · exact x_toInt_ne 45 c26 (by decide)
                            · exact x_toInt_ne 47 c27 (by decide)
                            · exact x_toInt_ne 60 c29 (by decide)
                            · exact x_toInt_ne 61 c30 (by decide)
                            · exact x_toInt_ne 62 c31 (by decide)
                            · exact x_toInt_ne 256 c32 (by decide)
                            · exact x_toInt_ne 257 c33 (by decide)
                            · exact x_toInt_ne 258 c34 (by decide)
                            · exact x_toInt_ne 261 c35 (by decide)
                          refine lv_lookup (tgt := 384) (off := 314) hx hb dX10_works_70 (by decide) (xlk_none _ hks) (by decide) ?_
                          refine lv_lload hx hb dX10_works_384 (lv_at hl 0 rfl) ?_
                          refine lv_lconst (v := (0 : Int64)) hx hb dX10_works_386 (by decide) ?_
                          refine W.lcmp hx hb dX10_works_387 ?_
                          refine lv_if_ne (tgt := 397) hx hb dX10_works_388 (by decide) (fun c => ?_) (fun c => ?_)
                          · have hf := x_neg c hf
                            exact K397 q0 d22 hf _ _ ls (lv_sub hl [2] rfl) G
                          · have hf := x_pos c hf
                            refine lv_lload_n hx hb dX10_works_391 rfl (lv_at hl 1 rfl) ?_
                            refine lv_lconst (v := (0 : Int64)) hx hb dX10_works_392 (by decide) ?_
                            refine W.lcmp hx hb dX10_works_393 ?_
                            refine lv_if_eq (tgt := 401) hx hb dX10_works_394 (by decide) (fun c => ?_) (fun c => ?_)
                            · have hf := x_pos c hf
                              refine lv_iconst (v := (0 : Int32)) hx hb dX10_works_401 (by decide) ?_
                              exact K402 q0 (0 : Int32) d22 hf _ _ ls (lv_sub hl [2] rfl) G
                            · have hf := x_neg c hf
                              exact K397 q0 d22 hf _ _ ls (lv_sub hl [2] rfl) G
  · have hf := x_pos c hf
    refine lv_aload_n hx hb dX10_works_19 rfl (lv_at hl 1 rfl) ?_
    obtain ⟨v36, hv36, hf⟩ := x_ob hf
    refine xr_getR (ci := 10) (k := 33) S G hv36 rfl kw_1201 dX10_works_20 ?_
    refine lv_aload_n hx hb dX10_works_23 rfl (lv_at hl 1 rfl) ?_
    obtain ⟨v37, hv37, hf⟩ := x_ob hf
    refine xr_getI (ci := 10) (k := 34) S G hv37 rfl kw_1202 dX10_works_24 ?_
    refine lv_iconst (v := (1 : Int32)) hx hb dX10_works_27 (by decide) ?_
    refine lv_isub hx hb dX10_works_28 ?_
    refine lv_lload_n hx hb dX10_works_29 rfl (lv_at hl 0 rfl) ?_
    refine lv_lconst (v := (0 : Int64)) hx hb dX10_works_30 (by decide) ?_
    refine W.lcmp hx hb dX10_works_31 ?_
    refine lv_if_ne (tgt := 39) hx hb dX10_works_32 (by decide) (fun c => ?_) (fun c => ?_)
    · have hf := x_neg c hf
      refine lv_iconst (v := (0 : Int32)) hx hb dX10_works_39 (by decide) ?_
      exact K40 v36 (v37 - (1 : Int32)) (0 : Int32) d hf _ _ ls (lv_sub hl [] rfl) G
    · have hf := x_pos c hf
      refine lv_iconst (v := (1 : Int32)) hx hb dX10_works_35 (by decide) ?_
      refine lv_goto (tgt := 40) hx hb dX10_works_36 (by decide) ?_
      exact K40 v36 (v37 - (1 : Int32)) (1 : Int32) d hf _ _ ls (lv_sub hl [] rfl) G
-- HalfLandingsModel.goes(I)Z
theorem dX10_goes_0 : decode cX10_goes 0 = .ok (.aload_n 0, 1) := by decide +kernel
theorem dX10_goes_1 : decode cX10_goes 1 = .ok (.iconst 0, 1) := by decide +kernel
theorem dX10_goes_2 : decode cX10_goes 2 = .ok (.putfield 305, 3) := by decide +kernel
theorem dX10_goes_5 : decode cX10_goes 5 = .ok (.aload_n 0, 1) := by decide +kernel
theorem dX10_goes_6 : decode cX10_goes 6 = .ok (.getfield 49, 3) := by decide +kernel
theorem dX10_goes_9 : decode cX10_goes 9 = .ok (.iload_n 1, 1) := by decide +kernel
theorem dX10_goes_10 : decode cX10_goes 10 = .ok (.iaload, 1) := by decide +kernel
theorem dX10_goes_11 : decode cX10_goes 11 = .ok (.istore_n 2, 1) := by decide +kernel
theorem dX10_goes_12 : decode cX10_goes 12 = .ok (.iload_n 2, 1) := by decide +kernel
theorem dX10_goes_13 : decode cX10_goes 13 = .ok (.aload_n 0, 1) := by decide +kernel
theorem dX10_goes_14 : decode cX10_goes 14 = .ok (.getfield 52, 3) := by decide +kernel
theorem dX10_goes_17 : decode cX10_goes 17 = .ok (.iload_n 1, 1) := by decide +kernel
theorem dX10_goes_18 : decode cX10_goes 18 = .ok (.iaload, 1) := by decide +kernel
theorem dX10_goes_19 : decode cX10_goes 19 = .ok (.if_icmp .ge 83, 3) := by decide +kernel
theorem dX10_goes_22 : decode cX10_goes 22 = .ok (.aload_n 0, 1) := by decide +kernel
theorem dX10_goes_23 : decode cX10_goes 23 = .ok (.getfield 55, 3) := by decide +kernel
theorem dX10_goes_26 : decode cX10_goes 26 = .ok (.iload_n 2, 1) := by decide +kernel
theorem dX10_goes_27 : decode cX10_goes 27 = .ok (.iaload, 1) := by decide +kernel
theorem dX10_goes_28 : decode cX10_goes 28 = .ok (.iconst 2, 1) := by decide +kernel
theorem dX10_goes_29 : decode cX10_goes 29 = .ok (.if_icmp .ne 18, 3) := by decide +kernel
theorem dX10_goes_32 : decode cX10_goes 32 = .ok (.aload_n 0, 1) := by decide +kernel
theorem dX10_goes_33 : decode cX10_goes 33 = .ok (.aload_n 0, 1) := by decide +kernel
theorem dX10_goes_34 : decode cX10_goes 34 = .ok (.getfield 58, 3) := by decide +kernel
theorem dX10_goes_37 : decode cX10_goes 37 = .ok (.iload_n 2, 1) := by decide +kernel
theorem dX10_goes_38 : decode cX10_goes 38 = .ok (.iaload, 1) := by decide +kernel
theorem dX10_goes_39 : decode cX10_goes 39 = .ok (.invokevirtual 322, 3) := by decide +kernel
theorem dX10_goes_42 : decode cX10_goes 42 = .ok (.ifCond .ne 54, 3) := by decide +kernel
theorem dX10_goes_45 : decode cX10_goes 45 = .ok (.iconst 0, 1) := by decide +kernel
theorem dX10_goes_46 : decode cX10_goes 46 = .ok (.ireturn, 1) := by decide +kernel
theorem dX10_goes_47 : decode cX10_goes 47 = .ok (.aload_n 0, 1) := by decide +kernel
theorem dX10_goes_48 : decode cX10_goes 48 = .ok (.getfield 69, 3) := by decide +kernel
theorem dX10_goes_51 : decode cX10_goes 51 = .ok (.aload_n 0, 1) := by decide +kernel
theorem dX10_goes_52 : decode cX10_goes 52 = .ok (.getfield 305, 3) := by decide +kernel
theorem dX10_goes_55 : decode cX10_goes 55 = .ok (.aload_n 0, 1) := by decide +kernel
theorem dX10_goes_56 : decode cX10_goes 56 = .ok (.getfield 55, 3) := by decide +kernel
theorem dX10_goes_59 : decode cX10_goes 59 = .ok (.iload_n 2, 1) := by decide +kernel
theorem dX10_goes_60 : decode cX10_goes 60 = .ok (.iaload, 1) := by decide +kernel
theorem dX10_goes_61 : decode cX10_goes 61 = .ok (.ifCond .ne 13, 3) := by decide +kernel
theorem dX10_goes_64 : decode cX10_goes 64 = .ok (.aload_n 0, 1) := by decide +kernel
theorem dX10_goes_65 : decode cX10_goes 65 = .ok (.getfield 58, 3) := by decide +kernel
theorem dX10_goes_68 : decode cX10_goes 68 = .ok (.iload_n 2, 1) := by decide +kernel
theorem dX10_goes_69 : decode cX10_goes 69 = .ok (.iaload, 1) := by decide +kernel
theorem dX10_goes_70 : decode cX10_goes 70 = .ok (.i2l, 1) := by decide +kernel
theorem dX10_goes_71 : decode cX10_goes 71 = .ok (.goto 14, 3) := by decide +kernel
theorem dX10_goes_74 : decode cX10_goes 74 = .ok (.aload_n 0, 1) := by decide +kernel
theorem dX10_goes_75 : decode cX10_goes 75 = .ok (.getfield 65, 3) := by decide +kernel
theorem dX10_goes_78 : decode cX10_goes 78 = .ok (.aload_n 0, 1) := by decide +kernel
theorem dX10_goes_79 : decode cX10_goes 79 = .ok (.getfield 58, 3) := by decide +kernel
theorem dX10_goes_82 : decode cX10_goes 82 = .ok (.iload_n 2, 1) := by decide +kernel
theorem dX10_goes_83 : decode cX10_goes 83 = .ok (.iaload, 1) := by decide +kernel
theorem dX10_goes_84 : decode cX10_goes 84 = .ok (.laload, 1) := by decide +kernel
theorem dX10_goes_85 : decode cX10_goes 85 = .ok (.lastore, 1) := by decide +kernel
theorem dX10_goes_86 : decode cX10_goes 86 = .ok (.aload_n 0, 1) := by decide +kernel
theorem dX10_goes_87 : decode cX10_goes 87 = .ok (.dup, 1) := by decide +kernel
theorem dX10_goes_88 : decode cX10_goes 88 = .ok (.getfield 305, 3) := by decide +kernel
theorem dX10_goes_91 : decode cX10_goes 91 = .ok (.iconst 1, 1) := by decide +kernel
theorem dX10_goes_92 : decode cX10_goes 92 = .ok (.iadd, 1) := by decide +kernel
theorem dX10_goes_93 : decode cX10_goes 93 = .ok (.putfield 305, 3) := by decide +kernel
theorem dX10_goes_96 : decode cX10_goes 96 = .ok (.iinc 2 1, 3) := by decide +kernel
theorem dX10_goes_99 : decode cX10_goes 99 = .ok (.goto (-87), 3) := by decide +kernel
theorem dX10_goes_102 : decode cX10_goes 102 = .ok (.iconst 1, 1) := by decide +kernel
theorem dX10_goes_103 : decode cX10_goes 103 = .ok (.ireturn, 1) := by decide +kernel
theorem hd_X10_goes : yX10_goes.cls = xCn 10 ∧ yX10_goes.cls ≠ "java/lang/invoke/MethodHandle" ∧ yX10_goes.cls ≠ "java/lang/invoke/VarHandle" ∧ (parseMethodDescriptor yX10_goes.desc).map (fun d => d.parameters.length) = some 1 := by decide +kernel
def k_X10_goes_102 (sh : List xSh) (d : xD) : Option (Int32 × xD) :=
  some ((1 : Int32), d)
def k_X10_goes_96 (sh : List xSh) (rec12 : Nat → Int32 → Int32 → xD → Option (Int32 × xD)) (q0 : Nat) (x1 : Int32) (x2 : Int32) (d : xD) : Option (Int32 × xD) :=
  rec12 q0 x1 (x2 + 1) d
def k_X10_goes_85 (sh : List xSh) (rec12 : Nat → Int32 → Int32 → xD → Option (Int32 × xD)) (q0 : Nat) (x1 : Int32) (x2 : Int32) (p0 : Nat) (y1 : Int32) (y2 : Int64) (d : xD) : Option (Int32 × xD) :=
  (xsL sh d p0 y1 y2).bind fun d1 => (xgI 10 sh d1 q0 34).bind fun v2 => (xpI 10 sh d1 q0 34 (v2 + (1 : Int32))).bind fun d3 => k_X10_goes_96 sh rec12 q0 x1 x2 d3
def k_X10_goes_45 (sh : List xSh) (d : xD) : Option (Int32 × xD) :=
  some ((0 : Int32), d)
def b_X10_goes_12 (sh : List xSh) (rec12 : Nat → Int32 → Int32 → xD → Option (Int32 × xD)) (q0 : Nat) (x1 : Int32) (x2 : Int32) (d : xD) : Option (Int32 × xD) :=
  (xgR 10 sh d q0 16).bind fun v4 => (xaI .int sh d v4 x1).bind fun v5 => if v5 ≤ x2 then (k_X10_goes_102 sh d) else ((xgR 10 sh d q0 17).bind fun v6 => (xaI .int sh d v6 x2).bind fun v7 => if v7 = (2 : Int32) then ((xgR 10 sh d q0 18).bind fun v18 => (xaI .int sh d v18 x2).bind fun v19 => (xon 10 sh q0 (f_X10_works sh q0 v19 d)).bind fun z20 => if z20.1 = 0 then (k_X10_goes_45 sh z20.2) else (k_X10_goes_96 sh rec12 q0 x1 x2 z20.2)) else ((xgR 10 sh d q0 33).bind fun v8 => (xgI 10 sh d q0 34).bind fun v9 => (xgR 10 sh d q0 17).bind fun v10 => (xaI .int sh d v10 x2).bind fun v11 => if v11 = 0 then ((xgR 10 sh d q0 18).bind fun v16 => (xaI .int sh d v16 x2).bind fun v17 => k_X10_goes_85 sh rec12 q0 x1 x2 v8 v9 ((v17).toInt64) d) else ((xgR 10 sh d q0 32).bind fun v12 => (xgR 10 sh d q0 18).bind fun v13 => (xaI .int sh d v13 x2).bind fun v14 => (xaL sh d v12 v14).bind fun v15 => k_X10_goes_85 sh rec12 q0 x1 x2 v8 v9 v15 d)))
def f_X10_goes (sh : List xSh) (q0 : Nat) (x1 : Int32) (d : xD) : Option (Int32 × xD) :=
  (xpI 10 sh d q0 34 (0 : Int32)).bind fun d21 => (xgR 10 sh d21 q0 15).bind fun v22 => (xaI .int sh d21 v22 x1).bind fun v23 => xloop (fun _ _ _ _ => none) (b_X10_goes_12 sh) xF q0 x1 v23 d21
set_option maxHeartbeats 4000000 in
set_option maxRecDepth 100000 in
theorem mt_X10_goes (l : Launch) (D : va_G) (cid : FieldType → ClassId) (b : Nat) (ex : Bool) (sa sv B0 : Nat) (sh : List xSh) (q0 : Nat) (x1 : Int32) (d : xD) (r : Int32) (dz : xD) (hf : f_X10_goes sh q0 x1 d = some (r, dz)) : xMet l yX10_goes cX10_goes 3 (some .boolean) 2 0 0 D cid b ex sa sv B0 [.ref (b + q0), .int x1] sh d (some (.int r)) sh dz := by
  refine xMet.of (by decide) (Nat.le_of_ble_eq_true rfl) ?_
  intro p e s m below meth c ls A S hr hin G hl
  have hl : lv_has ls 3 [(0, .ref (b + q0)), (1, .int x1)] := hl
  generalize ([.ref (b + q0), .int x1] : List Value).toArray = av at S ⊢
  have hx := S.1
  have hb := S.2.1
  have hml := S.2.2.1
  have hown := S.2.2.2.1
  have hts := S.2.2.2.2.1
  have K102 : ∀ (d : xD), k_X10_goes_102 sh d = some (r, dz) → ∀ (H : Heap) (locs : List Loc) (ls : Array Slot), lv_has ls 3 [] → xG D cid b A sh d s H locs → W p l e (xRm 2 0 0) s m av below meth c H locs 0 0 (MQ below (xQ D cid b ex A (some (.int r)) sh dz) av s 0 0 A) (F0 m 102 ls []) := by
    intro d hf H locs ls hl G
    unfold k_X10_goes_102 at hf
    refine lv_iconst (v := (1 : Int32)) hx hb dX10_goes_102 (by decide) ?_
    cases hf
    exact xr_zret S G (fun _ => rfl) hr (by decide) dX10_goes_103
  have K96 : ∀ (rec12 : Nat → Int32 → Int32 → xD → Option (Int32 × xD)) (hrec12 : ∀ (q0 : Nat) (x1 : Int32) (x2 : Int32) (d : xD), rec12 q0 x1 x2 d = some (r, dz) → ∀ (H : Heap) (locs : List Loc) (ls : Array Slot), lv_has ls 3 [(0, .ref (b + q0)), (1, .int x1), (2, .int x2)] → xG D cid b A sh d s H locs → W p l e (xRm 2 0 0) s m av below meth c H locs 0 0 (MQ below (xQ D cid b ex A (some (.int r)) sh dz) av s 0 0 A) (F0 m 12 ls [])) (q0 : Nat) (x1 : Int32) (x2 : Int32) (d : xD), k_X10_goes_96 sh rec12 q0 x1 x2 d = some (r, dz) → ∀ (H : Heap) (locs : List Loc) (ls : Array Slot), lv_has ls 3 [(0, .ref (b + q0)), (1, .int x1), (2, .int x2)] → xG D cid b A sh d s H locs → W p l e (xRm 2 0 0) s m av below meth c H locs 0 0 (MQ below (xQ D cid b ex A (some (.int r)) sh dz) av s 0 0 A) (F0 m 96 ls []) := by
    intro rec12 hrec12 q0 x1 x2 d hf H locs ls hl G
    unfold k_X10_goes_96 at hf
    refine lv_iinc (v := (x2 + 1)) (lv' := [(2, .int (x2 + 1)), (0, .ref (b + q0)), (1, .int x1)]) hx hb dX10_goes_96 hl (k := 2) rfl rfl (by decide) rfl (fun ls hl => ?_)
    refine lv_goto (tgt := 12) hx hb dX10_goes_99 (by decide) ?_
    exact hrec12 q0 x1 (x2 + 1) d hf _ _ ls (lv_sub hl [1, 2, 0] rfl) G
  have K85 : ∀ (rec12 : Nat → Int32 → Int32 → xD → Option (Int32 × xD)) (hrec12 : ∀ (q0 : Nat) (x1 : Int32) (x2 : Int32) (d : xD), rec12 q0 x1 x2 d = some (r, dz) → ∀ (H : Heap) (locs : List Loc) (ls : Array Slot), lv_has ls 3 [(0, .ref (b + q0)), (1, .int x1), (2, .int x2)] → xG D cid b A sh d s H locs → W p l e (xRm 2 0 0) s m av below meth c H locs 0 0 (MQ below (xQ D cid b ex A (some (.int r)) sh dz) av s 0 0 A) (F0 m 12 ls [])) (q0 : Nat) (x1 : Int32) (x2 : Int32) (p0 : Nat) (y1 : Int32) (y2 : Int64) (d : xD), k_X10_goes_85 sh rec12 q0 x1 x2 p0 y1 y2 d = some (r, dz) → ∀ (H : Heap) (locs : List Loc) (ls : Array Slot), lv_has ls 3 [(0, .ref (b + q0)), (1, .int x1), (2, .int x2)] → xG D cid b A sh d s H locs → W p l e (xRm 2 0 0) s m av below meth c H locs 0 0 (MQ below (xQ D cid b ex A (some (.int r)) sh dz) av s 0 0 A) (F0 m 85 ls [.long y2, .int y1, .ref (b + p0)]) := by
    intro rec12 hrec12 q0 x1 x2 p0 y1 y2 d hf H locs ls hl G
    unfold k_X10_goes_85 at hf
    obtain ⟨d1, hd1, hf⟩ := x_ob hf
    refine xr_last S G hd1 dX10_goes_85 (fun H locs G => ?_)
    refine lv_aload_n hx hb dX10_goes_86 rfl (lv_at hl 0 rfl) ?_
    refine lv_dup hx hb dX10_goes_87 rfl ?_
    obtain ⟨v2, hv2, hf⟩ := x_ob hf
    refine xr_getI (ci := 10) (k := 34) S G hv2 rfl kw_1202 dX10_goes_88 ?_
    refine lv_iconst (v := (1 : Int32)) hx hb dX10_goes_91 (by decide) ?_
    refine lv_iadd hx hb dX10_goes_92 ?_
    obtain ⟨d3, hd3, hf⟩ := x_ob hf
    refine xr_putI (ci := 10) (k := 34) S G hd3 rfl kw_1202 dX10_goes_93 (fun H locs G => ?_)
    exact K96 _ hrec12 q0 x1 x2 d3 hf _ _ ls (lv_sub hl [0, 1, 2] rfl) G
  have K45 : ∀ (d : xD), k_X10_goes_45 sh d = some (r, dz) → ∀ (H : Heap) (locs : List Loc) (ls : Array Slot), lv_has ls 3 [] → xG D cid b A sh d s H locs → W p l e (xRm 2 0 0) s m av below meth c H locs 0 0 (MQ below (xQ D cid b ex A (some (.int r)) sh dz) av s 0 0 A) (F0 m 45 ls []) := by
    intro d hf H locs ls hl G
    unfold k_X10_goes_45 at hf
    refine lv_iconst (v := (0 : Int32)) hx hb dX10_goes_45 (by decide) ?_
    cases hf
    exact xr_zret S G (fun _ => rfl) hr (by decide) dX10_goes_46
  have K12 : ∀ (n : Nat) (q0 : Nat) (x1 : Int32) (x2 : Int32) (d : xD), xloop (fun _ _ _ _ => none) (b_X10_goes_12 sh) n q0 x1 x2 d = some (r, dz) → ∀ (H : Heap) (locs : List Loc) (ls : Array Slot), lv_has ls 3 [(0, .ref (b + q0)), (1, .int x1), (2, .int x2)] → xG D cid b A sh d s H locs → W p l e (xRm 2 0 0) s m av below meth c H locs 0 0 (MQ below (xQ D cid b ex A (some (.int r)) sh dz) av s 0 0 A) (F0 m 12 ls []) := by
    intro n
    induction n with
    | zero =>
      intro q0 x1 x2 d hf
      have hf : (none : Option (Int32 × xD)) = some (r, dz) := hf
      cases hf
    | succ n hrec12 =>
      intro q0 x1 x2 d hf H locs ls hl G
      have hf : b_X10_goes_12 sh (xloop (fun _ _ _ _ => none) (b_X10_goes_12 sh) n) q0 x1 x2 d = some (r, dz) := hf
      unfold b_X10_goes_12 at hf
      refine lv_iload_n hx hb dX10_goes_12 rfl (lv_at hl 2 rfl) ?_
      refine lv_aload_n hx hb dX10_goes_13 rfl (lv_at hl 0 rfl) ?_
      obtain ⟨v4, hv4, hf⟩ := x_ob hf
      refine xr_getR (ci := 10) (k := 16) S G hv4 rfl kw_1184 dX10_goes_14 ?_
      refine lv_iload_n hx hb dX10_goes_17 rfl (lv_at hl 1 rfl) ?_
      obtain ⟨v5, hv5, hf⟩ := x_ob hf
      refine xr_iald S G hv5 dX10_goes_18 ?_
      refine lv_icmp_ge (tgt := 102) hx hb dX10_goes_19 (by decide) (fun c => ?_) (fun c => ?_)
      · have hf := x_pos c hf
        exact K102 d hf _ _ ls (lv_sub hl [] rfl) G
      · have hf := x_neg c hf
        refine lv_aload_n hx hb dX10_goes_22 rfl (lv_at hl 0 rfl) ?_
        obtain ⟨v6, hv6, hf⟩ := x_ob hf
        refine xr_getR (ci := 10) (k := 17) S G hv6 rfl kw_1185 dX10_goes_23 ?_
        refine lv_iload_n hx hb dX10_goes_26 rfl (lv_at hl 2 rfl) ?_
        obtain ⟨v7, hv7, hf⟩ := x_ob hf
        refine xr_iald S G hv7 dX10_goes_27 ?_
        refine lv_iconst (v := (2 : Int32)) hx hb dX10_goes_28 (by decide) ?_
        refine lv_icmp_ne (tgt := 47) hx hb dX10_goes_29 (by decide) (fun c => ?_) (fun c => ?_)
        · have hf := x_neg c hf
          refine lv_aload_n hx hb dX10_goes_47 rfl (lv_at hl 0 rfl) ?_
          obtain ⟨v8, hv8, hf⟩ := x_ob hf
          refine xr_getR (ci := 10) (k := 33) S G hv8 rfl kw_1201 dX10_goes_48 ?_
          refine lv_aload_n hx hb dX10_goes_51 rfl (lv_at hl 0 rfl) ?_
          obtain ⟨v9, hv9, hf⟩ := x_ob hf
          refine xr_getI (ci := 10) (k := 34) S G hv9 rfl kw_1202 dX10_goes_52 ?_
          refine lv_aload_n hx hb dX10_goes_55 rfl (lv_at hl 0 rfl) ?_
          obtain ⟨v10, hv10, hf⟩ := x_ob hf
          refine xr_getR (ci := 10) (k := 17) S G hv10 rfl kw_1185 dX10_goes_56 ?_
          refine lv_iload_n hx hb dX10_goes_59 rfl (lv_at hl 2 rfl) ?_
          obtain ⟨v11, hv11, hf⟩ := x_ob hf
          refine xr_iald S G hv11 dX10_goes_60 ?_
          refine lv_if_ne (tgt := 74) hx hb dX10_goes_61 (by decide) (fun c => ?_) (fun c => ?_)
          · have hf := x_neg c hf
            refine lv_aload_n hx hb dX10_goes_74 rfl (lv_at hl 0 rfl) ?_
            obtain ⟨v12, hv12, hf⟩ := x_ob hf
            refine xr_getR (ci := 10) (k := 32) S G hv12 rfl kw_1200 dX10_goes_75 ?_
            refine lv_aload_n hx hb dX10_goes_78 rfl (lv_at hl 0 rfl) ?_
            obtain ⟨v13, hv13, hf⟩ := x_ob hf
            refine xr_getR (ci := 10) (k := 18) S G hv13 rfl kw_1186 dX10_goes_79 ?_
            refine lv_iload_n hx hb dX10_goes_82 rfl (lv_at hl 2 rfl) ?_
            obtain ⟨v14, hv14, hf⟩ := x_ob hf
            refine xr_iald S G hv14 dX10_goes_83 ?_
            obtain ⟨v15, hv15, hf⟩ := x_ob hf
            refine xr_lald S G hv15 dX10_goes_84 ?_
            exact K85 _ hrec12 q0 x1 x2 v8 v9 v15 d hf _ _ ls (lv_sub hl [0, 1, 2] rfl) G
          · have hf := x_pos c hf
            refine lv_aload_n hx hb dX10_goes_64 rfl (lv_at hl 0 rfl) ?_
            obtain ⟨v16, hv16, hf⟩ := x_ob hf
            refine xr_getR (ci := 10) (k := 18) S G hv16 rfl kw_1186 dX10_goes_65 ?_
            refine lv_iload_n hx hb dX10_goes_68 rfl (lv_at hl 2 rfl) ?_
            obtain ⟨v17, hv17, hf⟩ := x_ob hf
            refine xr_iald S G hv17 dX10_goes_69 ?_
            refine lv_i2l (v := (v17).toInt64) hx hb dX10_goes_70 rfl ?_
            refine lv_goto (tgt := 85) hx hb dX10_goes_71 (by decide) ?_
            exact K85 _ hrec12 q0 x1 x2 v8 v9 ((v17).toInt64) d hf _ _ ls (lv_sub hl [0, 1, 2] rfl) G
        · have hf := x_pos c hf
          refine lv_aload_n hx hb dX10_goes_32 rfl (lv_at hl 0 rfl) ?_
          refine lv_aload_n hx hb dX10_goes_33 rfl (lv_at hl 0 rfl) ?_
          obtain ⟨v18, hv18, hf⟩ := x_ob hf
          refine xr_getR (ci := 10) (k := 18) S G hv18 rfl kw_1186 dX10_goes_34 ?_
          refine lv_iload_n hx hb dX10_goes_37 rfl (lv_at hl 2 rfl) ?_
          obtain ⟨v19, hv19, hf⟩ := x_ob hf
          refine xr_iald S G hv19 dX10_goes_38 ?_
          obtain ⟨z20, hz20, hf⟩ := x_ob hf
          obtain ⟨hqz20, hz20⟩ := xon_of hz20
          refine xr_callV (ci := 10) (As := [.int v19]) (rest := []) (st1 := [.int z20.1]) S G hl.1 (fun _ => rfl) (mt_X10_works l D cid b ex sa sv B0 sh q0 v19 d _ _ hz20) hqz20 (by decide) kw_1556 kw_1558 ks_70 kw_17 kw_1559 hd_X10_works ⟨Nat.le_of_ble_eq_true rfl, Nat.le_of_ble_eq_true rfl⟩ rfl rfl rfl (Nat.le_of_ble_eq_true rfl) ⟨Nat.le_of_ble_eq_true rfl, Nat.le_of_ble_eq_true rfl⟩ dX10_goes_39 (fun H locs G => ?_)
          refine lv_if_ne (tgt := 96) hx hb dX10_goes_42 (by decide) (fun c => ?_) (fun c => ?_)
          · have hf := x_neg c hf
            exact K96 _ hrec12 q0 x1 x2 z20.2 hf _ _ ls (lv_sub hl [0, 1, 2] rfl) G
          · have hf := x_pos c hf
            exact K45 z20.2 hf _ _ ls (lv_sub hl [] rfl) G
  unfold f_X10_goes at hf
  refine lv_aload_n hx hb dX10_goes_0 rfl (lv_at hl 0 rfl) ?_
  refine lv_iconst (v := (0 : Int32)) hx hb dX10_goes_1 (by decide) ?_
  obtain ⟨d21, hd21, hf⟩ := x_ob hf
  refine xr_putI (ci := 10) (k := 34) S G hd21 rfl kw_1202 dX10_goes_2 (fun H locs G => ?_)
  refine lv_aload_n hx hb dX10_goes_5 rfl (lv_at hl 0 rfl) ?_
  obtain ⟨v22, hv22, hf⟩ := x_ob hf
  refine xr_getR (ci := 10) (k := 15) S G hv22 rfl kw_1183 dX10_goes_6 ?_
  refine lv_iload_n hx hb dX10_goes_9 rfl (lv_at hl 1 rfl) ?_
  obtain ⟨v23, hv23, hf⟩ := x_ob hf
  refine xr_iald S G hv23 dX10_goes_10 ?_
  refine lv_istore_n (lv' := [(2, .int v23), (0, .ref (b + q0)), (1, .int x1)]) hx hb dX10_goes_11 rfl hl (by decide) rfl (fun ls hl => ?_)
  exact K12 xF q0 x1 v23 d21 hf _ _ ls (lv_sub hl [1, 2, 0] rfl) G
-- HalfLandingsModel.hasLaw(I)Z
theorem dX10_hasLaw_0 : decode cX10_hasLaw 0 = .ok (.aload_n 0, 1) := by decide +kernel
theorem dX10_hasLaw_1 : decode cX10_hasLaw 1 = .ok (.getfield 52, 3) := by decide +kernel
theorem dX10_hasLaw_4 : decode cX10_hasLaw 4 = .ok (.iload_n 1, 1) := by decide +kernel
theorem dX10_hasLaw_5 : decode cX10_hasLaw 5 = .ok (.iaload, 1) := by decide +kernel
theorem dX10_hasLaw_6 : decode cX10_hasLaw 6 = .ok (.aload_n 0, 1) := by decide +kernel
theorem dX10_hasLaw_7 : decode cX10_hasLaw 7 = .ok (.getfield 49, 3) := by decide +kernel
theorem dX10_hasLaw_10 : decode cX10_hasLaw 10 = .ok (.iload_n 1, 1) := by decide +kernel
theorem dX10_hasLaw_11 : decode cX10_hasLaw 11 = .ok (.iaload, 1) := by decide +kernel
theorem dX10_hasLaw_12 : decode cX10_hasLaw 12 = .ok (.if_icmp .le 7, 3) := by decide +kernel
theorem dX10_hasLaw_15 : decode cX10_hasLaw 15 = .ok (.iconst 1, 1) := by decide +kernel
theorem dX10_hasLaw_16 : decode cX10_hasLaw 16 = .ok (.goto 4, 3) := by decide +kernel
theorem dX10_hasLaw_19 : decode cX10_hasLaw 19 = .ok (.iconst 0, 1) := by decide +kernel
theorem dX10_hasLaw_20 : decode cX10_hasLaw 20 = .ok (.ireturn, 1) := by decide +kernel
theorem hd_X10_hasLaw : yX10_hasLaw.cls = xCn 10 ∧ yX10_hasLaw.cls ≠ "java/lang/invoke/MethodHandle" ∧ yX10_hasLaw.cls ≠ "java/lang/invoke/VarHandle" ∧ (parseMethodDescriptor yX10_hasLaw.desc).map (fun d => d.parameters.length) = some 1 := by decide +kernel
def k_X10_hasLaw_20 (sh : List xSh) (y0 : Int32) (d : xD) : Option (Int32 × xD) :=
  (xz y0).bind fun v1 => some (v1, d)
def f_X10_hasLaw (sh : List xSh) (q0 : Nat) (x1 : Int32) (d : xD) : Option (Int32 × xD) :=
  (xgR 10 sh d q0 16).bind fun v2 => (xaI .int sh d v2 x1).bind fun v3 => (xgR 10 sh d q0 15).bind fun v4 => (xaI .int sh d v4 x1).bind fun v5 => if v3 ≤ v5 then (k_X10_hasLaw_20 sh (0 : Int32) d) else (k_X10_hasLaw_20 sh (1 : Int32) d)
set_option maxHeartbeats 4000000 in
set_option maxRecDepth 100000 in
theorem mt_X10_hasLaw (l : Launch) (D : va_G) (cid : FieldType → ClassId) (b : Nat) (ex : Bool) (sa sv B0 : Nat) (sh : List xSh) (q0 : Nat) (x1 : Int32) (d : xD) (r : Int32) (dz : xD) (hf : f_X10_hasLaw sh q0 x1 d = some (r, dz)) : xMet l yX10_hasLaw cX10_hasLaw 2 (some .boolean) 0 0 0 D cid b ex sa sv B0 [.ref (b + q0), .int x1] sh d (some (.int r)) sh dz := by
  refine xMet.of (by decide) (Nat.le_of_ble_eq_true rfl) ?_
  intro p e s m below meth c ls A S hr hin G hl
  have hl : lv_has ls 2 [(0, .ref (b + q0)), (1, .int x1)] := hl
  generalize ([.ref (b + q0), .int x1] : List Value).toArray = av at S ⊢
  have hx := S.1
  have hb := S.2.1
  have hml := S.2.2.1
  have hown := S.2.2.2.1
  have hts := S.2.2.2.2.1
  have K20 : ∀ (y0 : Int32) (d : xD), k_X10_hasLaw_20 sh y0 d = some (r, dz) → ∀ (H : Heap) (locs : List Loc) (ls : Array Slot), lv_has ls 2 [] → xG D cid b A sh d s H locs → W p l e (xRm 0 0 0) s m av below meth c H locs 0 0 (MQ below (xQ D cid b ex A (some (.int r)) sh dz) av s 0 0 A) (F0 m 20 ls [.int y0]) := by
    intro y0 d hf H locs ls hl G
    unfold k_X10_hasLaw_20 at hf
    obtain ⟨v1, hv1, hf⟩ := x_ob hf
    cases hf
    exact xr_zret S G (fun _ => rfl) hr hv1 dX10_hasLaw_20
  unfold f_X10_hasLaw at hf
  refine lv_aload_n hx hb dX10_hasLaw_0 rfl (lv_at hl 0 rfl) ?_
  obtain ⟨v2, hv2, hf⟩ := x_ob hf
  refine xr_getR (ci := 10) (k := 16) S G hv2 rfl kw_1184 dX10_hasLaw_1 ?_
  refine lv_iload_n hx hb dX10_hasLaw_4 rfl (lv_at hl 1 rfl) ?_
  obtain ⟨v3, hv3, hf⟩ := x_ob hf
  refine xr_iald S G hv3 dX10_hasLaw_5 ?_
  refine lv_aload_n hx hb dX10_hasLaw_6 rfl (lv_at hl 0 rfl) ?_
  obtain ⟨v4, hv4, hf⟩ := x_ob hf
  refine xr_getR (ci := 10) (k := 15) S G hv4 rfl kw_1183 dX10_hasLaw_7 ?_
  refine lv_iload_n hx hb dX10_hasLaw_10 rfl (lv_at hl 1 rfl) ?_
  obtain ⟨v5, hv5, hf⟩ := x_ob hf
  refine xr_iald S G hv5 dX10_hasLaw_11 ?_
  refine lv_icmp_le (tgt := 19) hx hb dX10_hasLaw_12 (by decide) (fun c => ?_) (fun c => ?_)
  · have hf := x_pos c hf
    refine lv_iconst (v := (0 : Int32)) hx hb dX10_hasLaw_19 (by decide) ?_
    exact K20 (0 : Int32) d hf _ _ ls (lv_sub hl [] rfl) G
  · have hf := x_neg c hf
    refine lv_iconst (v := (1 : Int32)) hx hb dX10_hasLaw_15 (by decide) ?_
    refine lv_goto (tgt := 20) hx hb dX10_hasLaw_16 (by decide) ?_
    exact K20 (1 : Int32) d hf _ _ ls (lv_sub hl [] rfl) G
-- HalfLandingsModel.copies(II)V
theorem dX10_copies_0 : decode cX10_copies 0 = .ok (.aload_n 0, 1) := by decide +kernel
theorem dX10_copies_1 : decode cX10_copies 1 = .ok (.getfield 72, 3) := by decide +kernel
theorem dX10_copies_4 : decode cX10_copies 4 = .ok (.iload_n 1, 1) := by decide +kernel
theorem dX10_copies_5 : decode cX10_copies 5 = .ok (.aload_n 0, 1) := by decide +kernel
theorem dX10_copies_6 : decode cX10_copies 6 = .ok (.getfield 72, 3) := by decide +kernel
theorem dX10_copies_9 : decode cX10_copies 9 = .ok (.iload_n 2, 1) := by decide +kernel
theorem dX10_copies_10 : decode cX10_copies 10 = .ok (.iaload, 1) := by decide +kernel
theorem dX10_copies_11 : decode cX10_copies 11 = .ok (.iastore, 1) := by decide +kernel
theorem dX10_copies_12 : decode cX10_copies 12 = .ok (.aload_n 0, 1) := by decide +kernel
theorem dX10_copies_13 : decode cX10_copies 13 = .ok (.getfield 75, 3) := by decide +kernel
theorem dX10_copies_16 : decode cX10_copies 16 = .ok (.iload_n 1, 1) := by decide +kernel
theorem dX10_copies_17 : decode cX10_copies 17 = .ok (.aload_n 0, 1) := by decide +kernel
theorem dX10_copies_18 : decode cX10_copies 18 = .ok (.getfield 75, 3) := by decide +kernel
theorem dX10_copies_21 : decode cX10_copies 21 = .ok (.iload_n 2, 1) := by decide +kernel
theorem dX10_copies_22 : decode cX10_copies 22 = .ok (.iaload, 1) := by decide +kernel
theorem dX10_copies_23 : decode cX10_copies 23 = .ok (.iastore, 1) := by decide +kernel
theorem dX10_copies_24 : decode cX10_copies 24 = .ok (.aload_n 0, 1) := by decide +kernel
theorem dX10_copies_25 : decode cX10_copies 25 = .ok (.getfield 78, 3) := by decide +kernel
theorem dX10_copies_28 : decode cX10_copies 28 = .ok (.iload_n 1, 1) := by decide +kernel
theorem dX10_copies_29 : decode cX10_copies 29 = .ok (.aload_n 0, 1) := by decide +kernel
theorem dX10_copies_30 : decode cX10_copies 30 = .ok (.getfield 78, 3) := by decide +kernel
theorem dX10_copies_33 : decode cX10_copies 33 = .ok (.iload_n 2, 1) := by decide +kernel
theorem dX10_copies_34 : decode cX10_copies 34 = .ok (.iaload, 1) := by decide +kernel
theorem dX10_copies_35 : decode cX10_copies 35 = .ok (.iastore, 1) := by decide +kernel
theorem dX10_copies_36 : decode cX10_copies 36 = .ok (.aload_n 0, 1) := by decide +kernel
theorem dX10_copies_37 : decode cX10_copies 37 = .ok (.getfield 81, 3) := by decide +kernel
theorem dX10_copies_40 : decode cX10_copies 40 = .ok (.iload_n 1, 1) := by decide +kernel
theorem dX10_copies_41 : decode cX10_copies 41 = .ok (.aload_n 0, 1) := by decide +kernel
theorem dX10_copies_42 : decode cX10_copies 42 = .ok (.getfield 81, 3) := by decide +kernel
theorem dX10_copies_45 : decode cX10_copies 45 = .ok (.iload_n 2, 1) := by decide +kernel
theorem dX10_copies_46 : decode cX10_copies 46 = .ok (.iaload, 1) := by decide +kernel
theorem dX10_copies_47 : decode cX10_copies 47 = .ok (.iastore, 1) := by decide +kernel
theorem dX10_copies_48 : decode cX10_copies 48 = .ok (.aload_n 0, 1) := by decide +kernel
theorem dX10_copies_49 : decode cX10_copies 49 = .ok (.getfield 84, 3) := by decide +kernel
theorem dX10_copies_52 : decode cX10_copies 52 = .ok (.iload_n 1, 1) := by decide +kernel
theorem dX10_copies_53 : decode cX10_copies 53 = .ok (.aload_n 0, 1) := by decide +kernel
theorem dX10_copies_54 : decode cX10_copies 54 = .ok (.getfield 84, 3) := by decide +kernel
theorem dX10_copies_57 : decode cX10_copies 57 = .ok (.iload_n 2, 1) := by decide +kernel
theorem dX10_copies_58 : decode cX10_copies 58 = .ok (.iaload, 1) := by decide +kernel
theorem dX10_copies_59 : decode cX10_copies 59 = .ok (.iastore, 1) := by decide +kernel
theorem dX10_copies_60 : decode cX10_copies 60 = .ok (.iconst 0, 1) := by decide +kernel
theorem dX10_copies_61 : decode cX10_copies 61 = .ok (.istore_n 3, 1) := by decide +kernel
theorem dX10_copies_62 : decode cX10_copies 62 = .ok (.iload_n 3, 1) := by decide +kernel
theorem dX10_copies_63 : decode cX10_copies 63 = .ok (.bipush 6, 2) := by decide +kernel
theorem dX10_copies_65 : decode cX10_copies 65 = .ok (.if_icmp .ge 123, 3) := by decide +kernel
theorem dX10_copies_68 : decode cX10_copies 68 = .ok (.bipush 6, 2) := by decide +kernel
theorem dX10_copies_70 : decode cX10_copies 70 = .ok (.iload_n 1, 1) := by decide +kernel
theorem dX10_copies_71 : decode cX10_copies 71 = .ok (.imul, 1) := by decide +kernel
theorem dX10_copies_72 : decode cX10_copies 72 = .ok (.iload_n 3, 1) := by decide +kernel
theorem dX10_copies_73 : decode cX10_copies 73 = .ok (.iadd, 1) := by decide +kernel
theorem dX10_copies_74 : decode cX10_copies 74 = .ok (.istore 4, 2) := by decide +kernel
theorem dX10_copies_76 : decode cX10_copies 76 = .ok (.bipush 6, 2) := by decide +kernel
theorem dX10_copies_78 : decode cX10_copies 78 = .ok (.iload_n 2, 1) := by decide +kernel
theorem dX10_copies_79 : decode cX10_copies 79 = .ok (.imul, 1) := by decide +kernel
theorem dX10_copies_80 : decode cX10_copies 80 = .ok (.iload_n 3, 1) := by decide +kernel
theorem dX10_copies_81 : decode cX10_copies 81 = .ok (.iadd, 1) := by decide +kernel
theorem dX10_copies_82 : decode cX10_copies 82 = .ok (.istore 5, 2) := by decide +kernel
theorem dX10_copies_84 : decode cX10_copies 84 = .ok (.aload_n 0, 1) := by decide +kernel
theorem dX10_copies_85 : decode cX10_copies 85 = .ok (.getfield 87, 3) := by decide +kernel
theorem dX10_copies_88 : decode cX10_copies 88 = .ok (.iload 4, 2) := by decide +kernel
theorem dX10_copies_90 : decode cX10_copies 90 = .ok (.aload_n 0, 1) := by decide +kernel
theorem dX10_copies_91 : decode cX10_copies 91 = .ok (.getfield 87, 3) := by decide +kernel
theorem dX10_copies_94 : decode cX10_copies 94 = .ok (.iload 5, 2) := by decide +kernel
theorem dX10_copies_96 : decode cX10_copies 96 = .ok (.iaload, 1) := by decide +kernel
theorem dX10_copies_97 : decode cX10_copies 97 = .ok (.iastore, 1) := by decide +kernel
theorem dX10_copies_98 : decode cX10_copies 98 = .ok (.aload_n 0, 1) := by decide +kernel
theorem dX10_copies_99 : decode cX10_copies 99 = .ok (.getfield 90, 3) := by decide +kernel
theorem dX10_copies_102 : decode cX10_copies 102 = .ok (.iload 4, 2) := by decide +kernel
theorem dX10_copies_104 : decode cX10_copies 104 = .ok (.aload_n 0, 1) := by decide +kernel
theorem dX10_copies_105 : decode cX10_copies 105 = .ok (.getfield 90, 3) := by decide +kernel
theorem dX10_copies_108 : decode cX10_copies 108 = .ok (.iload 5, 2) := by decide +kernel
theorem dX10_copies_110 : decode cX10_copies 110 = .ok (.iaload, 1) := by decide +kernel
theorem dX10_copies_111 : decode cX10_copies 111 = .ok (.iastore, 1) := by decide +kernel
theorem dX10_copies_112 : decode cX10_copies 112 = .ok (.aload_n 0, 1) := by decide +kernel
theorem dX10_copies_113 : decode cX10_copies 113 = .ok (.getfield 93, 3) := by decide +kernel
theorem dX10_copies_116 : decode cX10_copies 116 = .ok (.iload 4, 2) := by decide +kernel
theorem dX10_copies_118 : decode cX10_copies 118 = .ok (.aload_n 0, 1) := by decide +kernel
theorem dX10_copies_119 : decode cX10_copies 119 = .ok (.getfield 93, 3) := by decide +kernel
theorem dX10_copies_122 : decode cX10_copies 122 = .ok (.iload 5, 2) := by decide +kernel
theorem dX10_copies_124 : decode cX10_copies 124 = .ok (.iaload, 1) := by decide +kernel
theorem dX10_copies_125 : decode cX10_copies 125 = .ok (.iastore, 1) := by decide +kernel
theorem dX10_copies_126 : decode cX10_copies 126 = .ok (.aload_n 0, 1) := by decide +kernel
theorem dX10_copies_127 : decode cX10_copies 127 = .ok (.getfield 96, 3) := by decide +kernel
theorem dX10_copies_130 : decode cX10_copies 130 = .ok (.iload 4, 2) := by decide +kernel
theorem dX10_copies_132 : decode cX10_copies 132 = .ok (.aload_n 0, 1) := by decide +kernel
theorem dX10_copies_133 : decode cX10_copies 133 = .ok (.getfield 96, 3) := by decide +kernel
theorem dX10_copies_136 : decode cX10_copies 136 = .ok (.iload 5, 2) := by decide +kernel
theorem dX10_copies_138 : decode cX10_copies 138 = .ok (.iaload, 1) := by decide +kernel
theorem dX10_copies_139 : decode cX10_copies 139 = .ok (.iastore, 1) := by decide +kernel
theorem dX10_copies_140 : decode cX10_copies 140 = .ok (.aload_n 0, 1) := by decide +kernel
theorem dX10_copies_141 : decode cX10_copies 141 = .ok (.getfield 99, 3) := by decide +kernel
theorem dX10_copies_144 : decode cX10_copies 144 = .ok (.iload 4, 2) := by decide +kernel
theorem dX10_copies_146 : decode cX10_copies 146 = .ok (.aload_n 0, 1) := by decide +kernel
theorem dX10_copies_147 : decode cX10_copies 147 = .ok (.getfield 99, 3) := by decide +kernel
theorem dX10_copies_150 : decode cX10_copies 150 = .ok (.iload 5, 2) := by decide +kernel
theorem dX10_copies_152 : decode cX10_copies 152 = .ok (.iaload, 1) := by decide +kernel
theorem dX10_copies_153 : decode cX10_copies 153 = .ok (.iastore, 1) := by decide +kernel
theorem dX10_copies_154 : decode cX10_copies 154 = .ok (.aload_n 0, 1) := by decide +kernel
theorem dX10_copies_155 : decode cX10_copies 155 = .ok (.getfield 102, 3) := by decide +kernel
theorem dX10_copies_158 : decode cX10_copies 158 = .ok (.iload 4, 2) := by decide +kernel
theorem dX10_copies_160 : decode cX10_copies 160 = .ok (.aload_n 0, 1) := by decide +kernel
theorem dX10_copies_161 : decode cX10_copies 161 = .ok (.getfield 102, 3) := by decide +kernel
theorem dX10_copies_164 : decode cX10_copies 164 = .ok (.iload 5, 2) := by decide +kernel
theorem dX10_copies_166 : decode cX10_copies 166 = .ok (.iaload, 1) := by decide +kernel
theorem dX10_copies_167 : decode cX10_copies 167 = .ok (.iastore, 1) := by decide +kernel
theorem dX10_copies_168 : decode cX10_copies 168 = .ok (.aload_n 0, 1) := by decide +kernel
theorem dX10_copies_169 : decode cX10_copies 169 = .ok (.getfield 105, 3) := by decide +kernel
theorem dX10_copies_172 : decode cX10_copies 172 = .ok (.iload 4, 2) := by decide +kernel
theorem dX10_copies_174 : decode cX10_copies 174 = .ok (.aload_n 0, 1) := by decide +kernel
theorem dX10_copies_175 : decode cX10_copies 175 = .ok (.getfield 105, 3) := by decide +kernel
theorem dX10_copies_178 : decode cX10_copies 178 = .ok (.iload 5, 2) := by decide +kernel
theorem dX10_copies_180 : decode cX10_copies 180 = .ok (.iaload, 1) := by decide +kernel
theorem dX10_copies_181 : decode cX10_copies 181 = .ok (.iastore, 1) := by decide +kernel
theorem dX10_copies_182 : decode cX10_copies 182 = .ok (.iinc 3 1, 3) := by decide +kernel
theorem dX10_copies_185 : decode cX10_copies 185 = .ok (.goto (-123), 3) := by decide +kernel
theorem dX10_copies_188 : decode cX10_copies 188 = .ok (.iconst 0, 1) := by decide +kernel
theorem dX10_copies_189 : decode cX10_copies 189 = .ok (.istore_n 3, 1) := by decide +kernel
theorem dX10_copies_190 : decode cX10_copies 190 = .ok (.iload_n 3, 1) := by decide +kernel
theorem dX10_copies_191 : decode cX10_copies 191 = .ok (.bipush 8, 2) := by decide +kernel
theorem dX10_copies_193 : decode cX10_copies 193 = .ok (.if_icmp .ge 31, 3) := by decide +kernel
theorem dX10_copies_196 : decode cX10_copies 196 = .ok (.aload_n 0, 1) := by decide +kernel
theorem dX10_copies_197 : decode cX10_copies 197 = .ok (.getfield 108, 3) := by decide +kernel
theorem dX10_copies_200 : decode cX10_copies 200 = .ok (.bipush 8, 2) := by decide +kernel
theorem dX10_copies_202 : decode cX10_copies 202 = .ok (.iload_n 1, 1) := by decide +kernel
theorem dX10_copies_203 : decode cX10_copies 203 = .ok (.imul, 1) := by decide +kernel
theorem dX10_copies_204 : decode cX10_copies 204 = .ok (.iload_n 3, 1) := by decide +kernel
theorem dX10_copies_205 : decode cX10_copies 205 = .ok (.iadd, 1) := by decide +kernel
theorem dX10_copies_206 : decode cX10_copies 206 = .ok (.aload_n 0, 1) := by decide +kernel
theorem dX10_copies_207 : decode cX10_copies 207 = .ok (.getfield 108, 3) := by decide +kernel
theorem dX10_copies_210 : decode cX10_copies 210 = .ok (.bipush 8, 2) := by decide +kernel
theorem dX10_copies_212 : decode cX10_copies 212 = .ok (.iload_n 2, 1) := by decide +kernel
theorem dX10_copies_213 : decode cX10_copies 213 = .ok (.imul, 1) := by decide +kernel
theorem dX10_copies_214 : decode cX10_copies 214 = .ok (.iload_n 3, 1) := by decide +kernel
theorem dX10_copies_215 : decode cX10_copies 215 = .ok (.iadd, 1) := by decide +kernel
theorem dX10_copies_216 : decode cX10_copies 216 = .ok (.iaload, 1) := by decide +kernel
theorem dX10_copies_217 : decode cX10_copies 217 = .ok (.iastore, 1) := by decide +kernel
theorem dX10_copies_218 : decode cX10_copies 218 = .ok (.iinc 3 1, 3) := by decide +kernel
theorem dX10_copies_221 : decode cX10_copies 221 = .ok (.goto (-31), 3) := by decide +kernel
theorem dX10_copies_224 : decode cX10_copies 224 = .ok (.return_, 1) := by decide +kernel
theorem hd_X10_copies : yX10_copies.cls = xCn 10 ∧ yX10_copies.cls ≠ "java/lang/invoke/MethodHandle" ∧ yX10_copies.cls ≠ "java/lang/invoke/VarHandle" ∧ (parseMethodDescriptor yX10_copies.desc).map (fun d => d.parameters.length) = some 2 := by decide +kernel
def k_X10_copies_224 (sh : List xSh) (d : xD) : Option xD :=
  some d
def b_X10_copies_190 (sh : List xSh) (rec190 : Nat → Int32 → Int32 → Int32 → xD → Option xD) (q0 : Nat) (x1 : Int32) (x2 : Int32) (x3 : Int32) (d : xD) : Option xD :=
  if (8 : Int32) ≤ x3 then (k_X10_copies_224 sh d) else ((xgR 10 sh d q0 47).bind fun v1 => (xgR 10 sh d q0 47).bind fun v2 => (xaI .int sh d v2 (((8 : Int32) * x2) + x3)).bind fun v3 => (xsI .int sh d v1 (((8 : Int32) * x1) + x3) v3).bind fun d4 => rec190 q0 x1 x2 (x3 + 1) d4)
def k_X10_copies_188 (sh : List xSh) (q0 : Nat) (x1 : Int32) (x2 : Int32) (d : xD) : Option xD :=
  xloop (fun _ _ _ _ _ => none) (b_X10_copies_190 sh) xF q0 x1 x2 (0 : Int32) d
def b_X10_copies_62 (sh : List xSh) (rec62 : Nat → Int32 → Int32 → Int32 → xD → Option xD) (q0 : Nat) (x1 : Int32) (x2 : Int32) (x3 : Int32) (d : xD) : Option xD :=
  if (6 : Int32) ≤ x3 then (k_X10_copies_188 sh q0 x1 x2 d) else ((xgR 10 sh d q0 40).bind fun v5 => (xgR 10 sh d q0 40).bind fun v6 => (xaI .int sh d v6 (((6 : Int32) * x2) + x3)).bind fun v7 => (xsI .int sh d v5 (((6 : Int32) * x1) + x3) v7).bind fun d8 => (xgR 10 sh d8 q0 41).bind fun v9 => (xgR 10 sh d8 q0 41).bind fun v10 => (xaI .int sh d8 v10 (((6 : Int32) * x2) + x3)).bind fun v11 => (xsI .int sh d8 v9 (((6 : Int32) * x1) + x3) v11).bind fun d12 => (xgR 10 sh d12 q0 42).bind fun v13 => (xgR 10 sh d12 q0 42).bind fun v14 => (xaI .int sh d12 v14 (((6 : Int32) * x2) + x3)).bind fun v15 => (xsI .int sh d12 v13 (((6 : Int32) * x1) + x3) v15).bind fun d16 => (xgR 10 sh d16 q0 43).bind fun v17 => (xgR 10 sh d16 q0 43).bind fun v18 => (xaI .int sh d16 v18 (((6 : Int32) * x2) + x3)).bind fun v19 => (xsI .int sh d16 v17 (((6 : Int32) * x1) + x3) v19).bind fun d20 => (xgR 10 sh d20 q0 44).bind fun v21 => (xgR 10 sh d20 q0 44).bind fun v22 => (xaI .int sh d20 v22 (((6 : Int32) * x2) + x3)).bind fun v23 => (xsI .int sh d20 v21 (((6 : Int32) * x1) + x3) v23).bind fun d24 => (xgR 10 sh d24 q0 45).bind fun v25 => (xgR 10 sh d24 q0 45).bind fun v26 => (xaI .int sh d24 v26 (((6 : Int32) * x2) + x3)).bind fun v27 => (xsI .int sh d24 v25 (((6 : Int32) * x1) + x3) v27).bind fun d28 => (xgR 10 sh d28 q0 46).bind fun v29 => (xgR 10 sh d28 q0 46).bind fun v30 => (xaI .int sh d28 v30 (((6 : Int32) * x2) + x3)).bind fun v31 => (xsI .int sh d28 v29 (((6 : Int32) * x1) + x3) v31).bind fun d32 => rec62 q0 x1 x2 (x3 + 1) d32)
def f_X10_copies (sh : List xSh) (q0 : Nat) (x1 : Int32) (x2 : Int32) (d : xD) : Option xD :=
  (xgR 10 sh d q0 35).bind fun v33 => (xgR 10 sh d q0 35).bind fun v34 => (xaI .int sh d v34 x2).bind fun v35 => (xsI .int sh d v33 x1 v35).bind fun d36 => (xgR 10 sh d36 q0 36).bind fun v37 => (xgR 10 sh d36 q0 36).bind fun v38 => (xaI .int sh d36 v38 x2).bind fun v39 => (xsI .int sh d36 v37 x1 v39).bind fun d40 => (xgR 10 sh d40 q0 37).bind fun v41 => (xgR 10 sh d40 q0 37).bind fun v42 => (xaI .int sh d40 v42 x2).bind fun v43 => (xsI .int sh d40 v41 x1 v43).bind fun d44 => (xgR 10 sh d44 q0 38).bind fun v45 => (xgR 10 sh d44 q0 38).bind fun v46 => (xaI .int sh d44 v46 x2).bind fun v47 => (xsI .int sh d44 v45 x1 v47).bind fun d48 => (xgR 10 sh d48 q0 39).bind fun v49 => (xgR 10 sh d48 q0 39).bind fun v50 => (xaI .int sh d48 v50 x2).bind fun v51 => (xsI .int sh d48 v49 x1 v51).bind fun d52 => xloop (fun _ _ _ _ _ => none) (b_X10_copies_62 sh) xF q0 x1 x2 (0 : Int32) d52
set_option maxHeartbeats 4000000 in
set_option maxRecDepth 100000 in
theorem mt_X10_copies (l : Launch) (D : va_G) (cid : FieldType → ClassId) (b : Nat) (ex : Bool) (sa sv B0 : Nat) (sh : List xSh) (q0 : Nat) (x1 : Int32) (x2 : Int32) (d : xD) (dz : xD) (hf : f_X10_copies sh q0 x1 x2 d = some dz) : xMet l yX10_copies cX10_copies 6 none 0 0 0 D cid b ex sa sv B0 [.ref (b + q0), .int x1, .int x2] sh d none sh dz := by
  refine xMet.of (by decide) (Nat.le_of_ble_eq_true rfl) ?_
  intro p e s m below meth c ls A S hr hin G hl
  have hl : lv_has ls 6 [(0, .ref (b + q0)), (1, .int x1), (2, .int x2)] := hl
  generalize ([.ref (b + q0), .int x1, .int x2] : List Value).toArray = av at S ⊢
  have hx := S.1
  have hb := S.2.1
  have hml := S.2.2.1
  have hown := S.2.2.2.1
  have hts := S.2.2.2.2.1
  have K224 : ∀ (d : xD), k_X10_copies_224 sh d = some dz → ∀ (H : Heap) (locs : List Loc) (ls : Array Slot), lv_has ls 6 [] → xG D cid b A sh d s H locs → W p l e (xRm 0 0 0) s m av below meth c H locs 0 0 (MQ below (xQ D cid b ex A none sh dz) av s 0 0 A) (F0 m 224 ls []) := by
    intro d hf H locs ls hl G
    unfold k_X10_copies_224 at hf
    cases hf
    exact xr_vret S G (fun _ => rfl) hr dX10_copies_224
  have K190 : ∀ (n : Nat) (q0 : Nat) (x1 : Int32) (x2 : Int32) (x3 : Int32) (d : xD), xloop (fun _ _ _ _ _ => none) (b_X10_copies_190 sh) n q0 x1 x2 x3 d = some dz → ∀ (H : Heap) (locs : List Loc) (ls : Array Slot), lv_has ls 6 [(0, .ref (b + q0)), (1, .int x1), (2, .int x2), (3, .int x3)] → xG D cid b A sh d s H locs → W p l e (xRm 0 0 0) s m av below meth c H locs 0 0 (MQ below (xQ D cid b ex A none sh dz) av s 0 0 A) (F0 m 190 ls []) := by
    intro n
    induction n with
    | zero =>
      intro q0 x1 x2 x3 d hf
      have hf : (none : Option xD) = some dz := hf
      cases hf
    | succ n hrec190 =>
      intro q0 x1 x2 x3 d hf H locs ls hl G
      have hf : b_X10_copies_190 sh (xloop (fun _ _ _ _ _ => none) (b_X10_copies_190 sh) n) q0 x1 x2 x3 d = some dz := hf
      unfold b_X10_copies_190 at hf
      refine lv_iload_n hx hb dX10_copies_190 rfl (lv_at hl 3 rfl) ?_
      refine lv_bipush (v := (8 : Int32)) hx hb dX10_copies_191 (by decide) ?_
      refine lv_icmp_ge (tgt := 224) hx hb dX10_copies_193 (by decide) (fun c => ?_) (fun c => ?_)
      · have hf := x_pos c hf
        exact K224 d hf _ _ ls (lv_sub hl [] rfl) G
      · have hf := x_neg c hf
        refine lv_aload_n hx hb dX10_copies_196 rfl (lv_at hl 0 rfl) ?_
        obtain ⟨v1, hv1, hf⟩ := x_ob hf
        refine xr_getR (ci := 10) (k := 47) S G hv1 rfl kw_1215 dX10_copies_197 ?_
        refine lv_bipush (v := (8 : Int32)) hx hb dX10_copies_200 (by decide) ?_
        refine lv_iload_n hx hb dX10_copies_202 rfl (lv_at hl 1 rfl) ?_
        refine lv_imul hx hb dX10_copies_203 ?_
        refine lv_iload_n hx hb dX10_copies_204 rfl (lv_at hl 3 rfl) ?_
        refine lv_iadd hx hb dX10_copies_205 ?_
        refine lv_aload_n hx hb dX10_copies_206 rfl (lv_at hl 0 rfl) ?_
        obtain ⟨v2, hv2, hf⟩ := x_ob hf
        refine xr_getR (ci := 10) (k := 47) S G hv2 rfl kw_1215 dX10_copies_207 ?_
        refine lv_bipush (v := (8 : Int32)) hx hb dX10_copies_210 (by decide) ?_
        refine lv_iload_n hx hb dX10_copies_212 rfl (lv_at hl 2 rfl) ?_
        refine lv_imul hx hb dX10_copies_213 ?_
        refine lv_iload_n hx hb dX10_copies_214 rfl (lv_at hl 3 rfl) ?_
        refine lv_iadd hx hb dX10_copies_215 ?_
        obtain ⟨v3, hv3, hf⟩ := x_ob hf
        refine xr_iald S G hv3 dX10_copies_216 ?_
        obtain ⟨d4, hd4, hf⟩ := x_ob hf
        refine xr_iast S G hd4 dX10_copies_217 (fun H locs G => ?_)
        refine lv_iinc (v := (x3 + 1)) (lv' := [(3, .int (x3 + 1)), (0, .ref (b + q0)), (1, .int x1), (2, .int x2)]) hx hb dX10_copies_218 hl (k := 3) rfl rfl (by decide) rfl (fun ls hl => ?_)
        refine lv_goto (tgt := 190) hx hb dX10_copies_221 (by decide) ?_
        exact hrec190 q0 x1 x2 (x3 + 1) d4 hf _ _ ls (lv_sub hl [1, 2, 3, 0] rfl) G
  have K188 : ∀ (q0 : Nat) (x1 : Int32) (x2 : Int32) (d : xD), k_X10_copies_188 sh q0 x1 x2 d = some dz → ∀ (H : Heap) (locs : List Loc) (ls : Array Slot), lv_has ls 6 [(0, .ref (b + q0)), (1, .int x1), (2, .int x2)] → xG D cid b A sh d s H locs → W p l e (xRm 0 0 0) s m av below meth c H locs 0 0 (MQ below (xQ D cid b ex A none sh dz) av s 0 0 A) (F0 m 188 ls []) := by
    intro q0 x1 x2 d hf H locs ls hl G
    unfold k_X10_copies_188 at hf
    refine lv_iconst (v := (0 : Int32)) hx hb dX10_copies_188 (by decide) ?_
    refine lv_istore_n (lv' := [(3, .int (0 : Int32)), (0, .ref (b + q0)), (1, .int x1), (2, .int x2)]) hx hb dX10_copies_189 rfl hl (by decide) rfl (fun ls hl => ?_)
    exact K190 xF q0 x1 x2 (0 : Int32) d hf _ _ ls (lv_sub hl [1, 2, 3, 0] rfl) G
  have K62 : ∀ (n : Nat) (q0 : Nat) (x1 : Int32) (x2 : Int32) (x3 : Int32) (d : xD), xloop (fun _ _ _ _ _ => none) (b_X10_copies_62 sh) n q0 x1 x2 x3 d = some dz → ∀ (H : Heap) (locs : List Loc) (ls : Array Slot), lv_has ls 6 [(0, .ref (b + q0)), (1, .int x1), (2, .int x2), (3, .int x3)] → xG D cid b A sh d s H locs → W p l e (xRm 0 0 0) s m av below meth c H locs 0 0 (MQ below (xQ D cid b ex A none sh dz) av s 0 0 A) (F0 m 62 ls []) := by
    intro n
    induction n with
    | zero =>
      intro q0 x1 x2 x3 d hf
      have hf : (none : Option xD) = some dz := hf
      cases hf
    | succ n hrec62 =>
      intro q0 x1 x2 x3 d hf H locs ls hl G
      have hf : b_X10_copies_62 sh (xloop (fun _ _ _ _ _ => none) (b_X10_copies_62 sh) n) q0 x1 x2 x3 d = some dz := hf
      unfold b_X10_copies_62 at hf
      refine lv_iload_n hx hb dX10_copies_62 rfl (lv_at hl 3 rfl) ?_
      refine lv_bipush (v := (6 : Int32)) hx hb dX10_copies_63 (by decide) ?_
      refine lv_icmp_ge (tgt := 188) hx hb dX10_copies_65 (by decide) (fun c => ?_) (fun c => ?_)
      · have hf := x_pos c hf
        exact K188 q0 x1 x2 d hf _ _ ls (lv_sub hl [0, 1, 2] rfl) G
      · have hf := x_neg c hf
        refine lv_bipush (v := (6 : Int32)) hx hb dX10_copies_68 (by decide) ?_
        refine lv_iload_n hx hb dX10_copies_70 rfl (lv_at hl 1 rfl) ?_
        refine lv_imul hx hb dX10_copies_71 ?_
        refine lv_iload_n hx hb dX10_copies_72 rfl (lv_at hl 3 rfl) ?_
        refine lv_iadd hx hb dX10_copies_73 ?_
        refine lv_istore (lv' := [(4, .int (((6 : Int32) * x1) + x3)), (0, .ref (b + q0)), (1, .int x1), (2, .int x2), (3, .int x3)]) hx hb dX10_copies_74 hl (by decide) rfl (fun ls hl => ?_)
        refine lv_bipush (v := (6 : Int32)) hx hb dX10_copies_76 (by decide) ?_
        refine lv_iload_n hx hb dX10_copies_78 rfl (lv_at hl 3 rfl) ?_
        refine lv_imul hx hb dX10_copies_79 ?_
        refine lv_iload_n hx hb dX10_copies_80 rfl (lv_at hl 4 rfl) ?_
        refine lv_iadd hx hb dX10_copies_81 ?_
        refine lv_istore (lv' := [(5, .int (((6 : Int32) * x2) + x3)), (4, .int (((6 : Int32) * x1) + x3)), (0, .ref (b + q0)), (1, .int x1), (2, .int x2), (3, .int x3)]) hx hb dX10_copies_82 hl (by decide) rfl (fun ls hl => ?_)
        refine lv_aload_n hx hb dX10_copies_84 rfl (lv_at hl 2 rfl) ?_
        obtain ⟨v5, hv5, hf⟩ := x_ob hf
        refine xr_getR (ci := 10) (k := 40) S G hv5 rfl kw_1208 dX10_copies_85 ?_
        refine lv_iload hx hb dX10_copies_88 (lv_at hl 1 rfl) ?_
        refine lv_aload_n hx hb dX10_copies_90 rfl (lv_at hl 2 rfl) ?_
        obtain ⟨v6, hv6, hf⟩ := x_ob hf
        refine xr_getR (ci := 10) (k := 40) S G hv6 rfl kw_1208 dX10_copies_91 ?_
        refine lv_iload hx hb dX10_copies_94 (lv_at hl 0 rfl) ?_
        obtain ⟨v7, hv7, hf⟩ := x_ob hf
        refine xr_iald S G hv7 dX10_copies_96 ?_
        obtain ⟨d8, hd8, hf⟩ := x_ob hf
        refine xr_iast S G hd8 dX10_copies_97 (fun H locs G => ?_)
        refine lv_aload_n hx hb dX10_copies_98 rfl (lv_at hl 2 rfl) ?_
        obtain ⟨v9, hv9, hf⟩ := x_ob hf
        refine xr_getR (ci := 10) (k := 41) S G hv9 rfl kw_1209 dX10_copies_99 ?_
        refine lv_iload hx hb dX10_copies_102 (lv_at hl 1 rfl) ?_
        refine lv_aload_n hx hb dX10_copies_104 rfl (lv_at hl 2 rfl) ?_
        obtain ⟨v10, hv10, hf⟩ := x_ob hf
        refine xr_getR (ci := 10) (k := 41) S G hv10 rfl kw_1209 dX10_copies_105 ?_
        refine lv_iload hx hb dX10_copies_108 (lv_at hl 0 rfl) ?_
        obtain ⟨v11, hv11, hf⟩ := x_ob hf
        refine xr_iald S G hv11 dX10_copies_110 ?_
        obtain ⟨d12, hd12, hf⟩ := x_ob hf
        refine xr_iast S G hd12 dX10_copies_111 (fun H locs G => ?_)
        refine lv_aload_n hx hb dX10_copies_112 rfl (lv_at hl 2 rfl) ?_
        obtain ⟨v13, hv13, hf⟩ := x_ob hf
        refine xr_getR (ci := 10) (k := 42) S G hv13 rfl kw_1210 dX10_copies_113 ?_
        refine lv_iload hx hb dX10_copies_116 (lv_at hl 1 rfl) ?_
        refine lv_aload_n hx hb dX10_copies_118 rfl (lv_at hl 2 rfl) ?_
        obtain ⟨v14, hv14, hf⟩ := x_ob hf
        refine xr_getR (ci := 10) (k := 42) S G hv14 rfl kw_1210 dX10_copies_119 ?_
        refine lv_iload hx hb dX10_copies_122 (lv_at hl 0 rfl) ?_
        obtain ⟨v15, hv15, hf⟩ := x_ob hf
        refine xr_iald S G hv15 dX10_copies_124 ?_
        obtain ⟨d16, hd16, hf⟩ := x_ob hf
        refine xr_iast S G hd16 dX10_copies_125 (fun H locs G => ?_)
        refine lv_aload_n hx hb dX10_copies_126 rfl (lv_at hl 2 rfl) ?_
        obtain ⟨v17, hv17, hf⟩ := x_ob hf
        refine xr_getR (ci := 10) (k := 43) S G hv17 rfl kw_1211 dX10_copies_127 ?_
        refine lv_iload hx hb dX10_copies_130 (lv_at hl 1 rfl) ?_
        refine lv_aload_n hx hb dX10_copies_132 rfl (lv_at hl 2 rfl) ?_
        obtain ⟨v18, hv18, hf⟩ := x_ob hf
        refine xr_getR (ci := 10) (k := 43) S G hv18 rfl kw_1211 dX10_copies_133 ?_
        refine lv_iload hx hb dX10_copies_136 (lv_at hl 0 rfl) ?_
        obtain ⟨v19, hv19, hf⟩ := x_ob hf
        refine xr_iald S G hv19 dX10_copies_138 ?_
        obtain ⟨d20, hd20, hf⟩ := x_ob hf
        refine xr_iast S G hd20 dX10_copies_139 (fun H locs G => ?_)
        refine lv_aload_n hx hb dX10_copies_140 rfl (lv_at hl 2 rfl) ?_
        obtain ⟨v21, hv21, hf⟩ := x_ob hf
        refine xr_getR (ci := 10) (k := 44) S G hv21 rfl kw_1212 dX10_copies_141 ?_
        refine lv_iload hx hb dX10_copies_144 (lv_at hl 1 rfl) ?_
        refine lv_aload_n hx hb dX10_copies_146 rfl (lv_at hl 2 rfl) ?_
        obtain ⟨v22, hv22, hf⟩ := x_ob hf
        refine xr_getR (ci := 10) (k := 44) S G hv22 rfl kw_1212 dX10_copies_147 ?_
        refine lv_iload hx hb dX10_copies_150 (lv_at hl 0 rfl) ?_
        obtain ⟨v23, hv23, hf⟩ := x_ob hf
        refine xr_iald S G hv23 dX10_copies_152 ?_
        obtain ⟨d24, hd24, hf⟩ := x_ob hf
        refine xr_iast S G hd24 dX10_copies_153 (fun H locs G => ?_)
        refine lv_aload_n hx hb dX10_copies_154 rfl (lv_at hl 2 rfl) ?_
        obtain ⟨v25, hv25, hf⟩ := x_ob hf
        refine xr_getR (ci := 10) (k := 45) S G hv25 rfl kw_1213 dX10_copies_155 ?_
        refine lv_iload hx hb dX10_copies_158 (lv_at hl 1 rfl) ?_
        refine lv_aload_n hx hb dX10_copies_160 rfl (lv_at hl 2 rfl) ?_
        obtain ⟨v26, hv26, hf⟩ := x_ob hf
        refine xr_getR (ci := 10) (k := 45) S G hv26 rfl kw_1213 dX10_copies_161 ?_
        refine lv_iload hx hb dX10_copies_164 (lv_at hl 0 rfl) ?_
        obtain ⟨v27, hv27, hf⟩ := x_ob hf
        refine xr_iald S G hv27 dX10_copies_166 ?_
        obtain ⟨d28, hd28, hf⟩ := x_ob hf
        refine xr_iast S G hd28 dX10_copies_167 (fun H locs G => ?_)
        refine lv_aload_n hx hb dX10_copies_168 rfl (lv_at hl 2 rfl) ?_
        obtain ⟨v29, hv29, hf⟩ := x_ob hf
        refine xr_getR (ci := 10) (k := 46) S G hv29 rfl kw_1214 dX10_copies_169 ?_
        refine lv_iload hx hb dX10_copies_172 (lv_at hl 1 rfl) ?_
        refine lv_aload_n hx hb dX10_copies_174 rfl (lv_at hl 2 rfl) ?_
        obtain ⟨v30, hv30, hf⟩ := x_ob hf
        refine xr_getR (ci := 10) (k := 46) S G hv30 rfl kw_1214 dX10_copies_175 ?_
        refine lv_iload hx hb dX10_copies_178 (lv_at hl 0 rfl) ?_
        obtain ⟨v31, hv31, hf⟩ := x_ob hf
        refine xr_iald S G hv31 dX10_copies_180 ?_
        obtain ⟨d32, hd32, hf⟩ := x_ob hf
        refine xr_iast S G hd32 dX10_copies_181 (fun H locs G => ?_)
        refine lv_iinc (v := (x3 + 1)) (lv' := [(3, .int (x3 + 1)), (5, .int (((6 : Int32) * x2) + x3)), (4, .int (((6 : Int32) * x1) + x3)), (0, .ref (b + q0)), (1, .int x1), (2, .int x2)]) hx hb dX10_copies_182 hl (k := 5) rfl rfl (by decide) rfl (fun ls hl => ?_)
        refine lv_goto (tgt := 62) hx hb dX10_copies_185 (by decide) ?_
        exact hrec62 q0 x1 x2 (x3 + 1) d32 hf _ _ ls (lv_sub hl [3, 4, 5, 0] rfl) G
  unfold f_X10_copies at hf
  refine lv_aload_n hx hb dX10_copies_0 rfl (lv_at hl 0 rfl) ?_
  obtain ⟨v33, hv33, hf⟩ := x_ob hf
  refine xr_getR (ci := 10) (k := 35) S G hv33 rfl kw_1203 dX10_copies_1 ?_
  refine lv_iload_n hx hb dX10_copies_4 rfl (lv_at hl 1 rfl) ?_
  refine lv_aload_n hx hb dX10_copies_5 rfl (lv_at hl 0 rfl) ?_
  obtain ⟨v34, hv34, hf⟩ := x_ob hf
  refine xr_getR (ci := 10) (k := 35) S G hv34 rfl kw_1203 dX10_copies_6 ?_
  refine lv_iload_n hx hb dX10_copies_9 rfl (lv_at hl 2 rfl) ?_
  obtain ⟨v35, hv35, hf⟩ := x_ob hf
  refine xr_iald S G hv35 dX10_copies_10 ?_
  obtain ⟨d36, hd36, hf⟩ := x_ob hf
  refine xr_iast S G hd36 dX10_copies_11 (fun H locs G => ?_)
  refine lv_aload_n hx hb dX10_copies_12 rfl (lv_at hl 0 rfl) ?_
  obtain ⟨v37, hv37, hf⟩ := x_ob hf
  refine xr_getR (ci := 10) (k := 36) S G hv37 rfl kw_1204 dX10_copies_13 ?_
  refine lv_iload_n hx hb dX10_copies_16 rfl (lv_at hl 1 rfl) ?_
  refine lv_aload_n hx hb dX10_copies_17 rfl (lv_at hl 0 rfl) ?_
  obtain ⟨v38, hv38, hf⟩ := x_ob hf
  refine xr_getR (ci := 10) (k := 36) S G hv38 rfl kw_1204 dX10_copies_18 ?_
  refine lv_iload_n hx hb dX10_copies_21 rfl (lv_at hl 2 rfl) ?_
  obtain ⟨v39, hv39, hf⟩ := x_ob hf
  refine xr_iald S G hv39 dX10_copies_22 ?_
  obtain ⟨d40, hd40, hf⟩ := x_ob hf
  refine xr_iast S G hd40 dX10_copies_23 (fun H locs G => ?_)
  refine lv_aload_n hx hb dX10_copies_24 rfl (lv_at hl 0 rfl) ?_
  obtain ⟨v41, hv41, hf⟩ := x_ob hf
  refine xr_getR (ci := 10) (k := 37) S G hv41 rfl kw_1205 dX10_copies_25 ?_
  refine lv_iload_n hx hb dX10_copies_28 rfl (lv_at hl 1 rfl) ?_
  refine lv_aload_n hx hb dX10_copies_29 rfl (lv_at hl 0 rfl) ?_
  obtain ⟨v42, hv42, hf⟩ := x_ob hf
  refine xr_getR (ci := 10) (k := 37) S G hv42 rfl kw_1205 dX10_copies_30 ?_
  refine lv_iload_n hx hb dX10_copies_33 rfl (lv_at hl 2 rfl) ?_
  obtain ⟨v43, hv43, hf⟩ := x_ob hf
  refine xr_iald S G hv43 dX10_copies_34 ?_
  obtain ⟨d44, hd44, hf⟩ := x_ob hf
  refine xr_iast S G hd44 dX10_copies_35 (fun H locs G => ?_)
  refine lv_aload_n hx hb dX10_copies_36 rfl (lv_at hl 0 rfl) ?_
  obtain ⟨v45, hv45, hf⟩ := x_ob hf
  refine xr_getR (ci := 10) (k := 38) S G hv45 rfl kw_1206 dX10_copies_37 ?_
  refine lv_iload_n hx hb dX10_copies_40 rfl (lv_at hl 1 rfl) ?_
  refine lv_aload_n hx hb dX10_copies_41 rfl (lv_at hl 0 rfl) ?_
  obtain ⟨v46, hv46, hf⟩ := x_ob hf
  refine xr_getR (ci := 10) (k := 38) S G hv46 rfl kw_1206 dX10_copies_42 ?_
  refine lv_iload_n hx hb dX10_copies_45 rfl (lv_at hl 2 rfl) ?_
  obtain ⟨v47, hv47, hf⟩ := x_ob hf
  refine xr_iald S G hv47 dX10_copies_46 ?_
  obtain ⟨d48, hd48, hf⟩ := x_ob hf
  refine xr_iast S G hd48 dX10_copies_47 (fun H locs G => ?_)
  refine lv_aload_n hx hb dX10_copies_48 rfl (lv_at hl 0 rfl) ?_
  obtain ⟨v49, hv49, hf⟩ := x_ob hf
  refine xr_getR (ci := 10) (k := 39) S G hv49 rfl kw_1207 dX10_copies_49 ?_
  refine lv_iload_n hx hb dX10_copies_52 rfl (lv_at hl 1 rfl) ?_
  refine lv_aload_n hx hb dX10_copies_53 rfl (lv_at hl 0 rfl) ?_
  obtain ⟨v50, hv50, hf⟩ := x_ob hf
  refine xr_getR (ci := 10) (k := 39) S G hv50 rfl kw_1207 dX10_copies_54 ?_
  refine lv_iload_n hx hb dX10_copies_57 rfl (lv_at hl 2 rfl) ?_
  obtain ⟨v51, hv51, hf⟩ := x_ob hf
  refine xr_iald S G hv51 dX10_copies_58 ?_
  obtain ⟨d52, hd52, hf⟩ := x_ob hf
  refine xr_iast S G hd52 dX10_copies_59 (fun H locs G => ?_)
  refine lv_iconst (v := (0 : Int32)) hx hb dX10_copies_60 (by decide) ?_
  refine lv_istore_n (lv' := [(3, .int (0 : Int32)), (0, .ref (b + q0)), (1, .int x1), (2, .int x2)]) hx hb dX10_copies_61 rfl hl (by decide) rfl (fun ls hl => ?_)
  exact K62 xF q0 x1 x2 (0 : Int32) d52 hf _ _ ls (lv_sub hl [1, 2, 3, 0] rfl) G

-- HalfLandingsModel.goesOn(I)V
theorem dX10_goesOn_0 : decode cX10_goesOn 0 = .ok (.iconst 0, 1) := by decide +kernel
theorem dX10_goesOn_1 : decode cX10_goesOn 1 = .ok (.istore_n 2, 1) := by decide +kernel
theorem dX10_goesOn_2 : decode cX10_goesOn 2 = .ok (.iload_n 2, 1) := by decide +kernel
theorem dX10_goesOn_3 : decode cX10_goesOn 3 = .ok (.iload_n 1, 1) := by decide +kernel
theorem dX10_goesOn_4 : decode cX10_goesOn 4 = .ok (.if_icmp .ge 15, 3) := by decide +kernel
theorem dX10_goesOn_7 : decode cX10_goesOn 7 = .ok (.aload_n 0, 1) := by decide +kernel
theorem dX10_goesOn_8 : decode cX10_goesOn 8 = .ok (.iconst 1, 1) := by decide +kernel
theorem dX10_goesOn_9 : decode cX10_goesOn 9 = .ok (.iconst 0, 1) := by decide +kernel
theorem dX10_goesOn_10 : decode cX10_goesOn 10 = .ok (.invokevirtual 409, 3) := by decide +kernel
theorem dX10_goesOn_13 : decode cX10_goesOn 13 = .ok (.iinc 2 1, 3) := by decide +kernel
theorem dX10_goesOn_16 : decode cX10_goesOn 16 = .ok (.goto (-14), 3) := by decide +kernel
theorem dX10_goesOn_19 : decode cX10_goesOn 19 = .ok (.return_, 1) := by decide +kernel
theorem hd_X10_goesOn : yX10_goesOn.cls = xCn 10 ∧ yX10_goesOn.cls ≠ "java/lang/invoke/MethodHandle" ∧ yX10_goesOn.cls ≠ "java/lang/invoke/VarHandle" ∧ (parseMethodDescriptor yX10_goesOn.desc).map (fun d => d.parameters.length) = some 1 := by decide +kernel
def k_X10_goesOn_19 (sh : List xSh) (d : xD) : Option xD :=
  some d
def b_X10_goesOn_2 (sh : List xSh) (rec2 : Nat → Int32 → Int32 → xD → Option xD) (q0 : Nat) (x1 : Int32) (x2 : Int32) (d : xD) : Option xD :=
  if x1 ≤ x2 then (k_X10_goesOn_19 sh d) else ((xon 10 sh q0 (f_X10_passes sh q0 (1 : Int32) (0 : Int32) d)).bind fun d1 => rec2 q0 x1 (x2 + 1) d1)
def f_X10_goesOn (sh : List xSh) (q0 : Nat) (x1 : Int32) (d : xD) : Option xD :=
  xloop (fun _ _ _ _ => none) (b_X10_goesOn_2 sh) xF q0 x1 (0 : Int32) d
set_option maxHeartbeats 4000000 in
set_option maxRecDepth 100000 in
theorem mt_X10_goesOn (l : Launch) (D : va_G) (cid : FieldType → ClassId) (b : Nat) (ex : Bool) (sa sv B0 : Nat) (sh : List xSh) (q0 : Nat) (x1 : Int32) (d : xD) (dz : xD) (hf : f_X10_goesOn sh q0 x1 d = some dz) : xMet l yX10_goesOn cX10_goesOn 3 none 6 0 0 D cid b ex sa sv B0 [.ref (b + q0), .int x1] sh d none sh dz := by
  refine xMet.of (by decide) (Nat.le_of_ble_eq_true rfl) ?_
  intro p e s m below meth c ls A S hr hin G hl
  have hl : lv_has ls 3 [(0, .ref (b + q0)), (1, .int x1)] := hl
  generalize ([.ref (b + q0), .int x1] : List Value).toArray = av at S ⊢
  have hx := S.1
  have hb := S.2.1
  have hml := S.2.2.1
  have hown := S.2.2.2.1
  have hts := S.2.2.2.2.1
  have K19 : ∀ (d : xD), k_X10_goesOn_19 sh d = some dz → ∀ (H : Heap) (locs : List Loc) (ls : Array Slot), lv_has ls 3 [] → xG D cid b A sh d s H locs → W p l e (xRm 6 0 0) s m av below meth c H locs 0 0 (MQ below (xQ D cid b ex A none sh dz) av s 0 0 A) (F0 m 19 ls []) := by
    intro d hf H locs ls hl G
    unfold k_X10_goesOn_19 at hf
    cases hf
    exact xr_vret S G (fun _ => rfl) hr dX10_goesOn_19
  have K2 : ∀ (n : Nat) (q0 : Nat) (x1 : Int32) (x2 : Int32) (d : xD), xloop (fun _ _ _ _ => none) (b_X10_goesOn_2 sh) n q0 x1 x2 d = some dz → ∀ (H : Heap) (locs : List Loc) (ls : Array Slot), lv_has ls 3 [(0, .ref (b + q0)), (1, .int x1), (2, .int x2)] → xG D cid b A sh d s H locs → W p l e (xRm 6 0 0) s m av below meth c H locs 0 0 (MQ below (xQ D cid b ex A none sh dz) av s 0 0 A) (F0 m 2 ls []) := by
    intro n
    induction n with
    | zero =>
      intro q0 x1 x2 d hf
      have hf : (none : Option xD) = some dz := hf
      cases hf
    | succ n hrec2 =>
      intro q0 x1 x2 d hf H locs ls hl G
      have hf : b_X10_goesOn_2 sh (xloop (fun _ _ _ _ => none) (b_X10_goesOn_2 sh) n) q0 x1 x2 d = some dz := hf
      unfold b_X10_goesOn_2 at hf
      refine lv_iload_n hx hb dX10_goesOn_2 rfl (lv_at hl 2 rfl) ?_
      refine lv_iload_n hx hb dX10_goesOn_3 rfl (lv_at hl 1 rfl) ?_
      refine lv_icmp_ge (tgt := 19) hx hb dX10_goesOn_4 (by decide) (fun c => ?_) (fun c => ?_)
      · have hf := x_pos c hf
        exact K19 d hf _ _ ls (lv_sub hl [] rfl) G
      · have hf := x_neg c hf
        refine lv_aload_n hx hb dX10_goesOn_7 rfl (lv_at hl 0 rfl) ?_
        refine lv_iconst (v := (1 : Int32)) hx hb dX10_goesOn_8 (by decide) ?_
        refine lv_iconst (v := (0 : Int32)) hx hb dX10_goesOn_9 (by decide) ?_
        obtain ⟨d1, hd1, hf⟩ := x_ob hf
        obtain ⟨hqd1, hd1⟩ := xon_of hd1
        refine xr_callV (ci := 10) (As := [.int (1 : Int32), .int (0 : Int32)]) (rest := []) (st1 := []) S G hl.1 (fun _ => rfl) (mt_X10_passes l D cid b ex sa sv B0 sh q0 (1 : Int32) (0 : Int32) d _ hd1) hqd1 (by decide) kw_1616 kw_1618 ks_79 kw_17 kw_1619 hd_X10_passes ⟨Nat.le_of_ble_eq_true rfl, Nat.le_of_ble_eq_true rfl⟩ rfl rfl rfl (Nat.le_of_ble_eq_true rfl) ⟨Nat.le_of_ble_eq_true rfl, Nat.le_of_ble_eq_true rfl⟩ dX10_goesOn_10 (fun H locs G => ?_)
        refine lv_iinc (v := (x2 + 1)) (lv' := [(2, .int (x2 + 1)), (0, .ref (b + q0)), (1, .int x1)]) hx hb dX10_goesOn_13 hl (k := 2) rfl rfl (by decide) rfl (fun ls hl => ?_)
        refine lv_goto (tgt := 2) hx hb dX10_goesOn_16 (by decide) ?_
        exact hrec2 q0 x1 (x2 + 1) d1 hf _ _ ls (lv_sub hl [1, 2, 0] rfl) G
  unfold f_X10_goesOn at hf
  refine lv_iconst (v := (0 : Int32)) hx hb dX10_goesOn_0 (by decide) ?_
  refine lv_istore_n (lv' := [(2, .int (0 : Int32)), (0, .ref (b + q0)), (1, .int x1)]) hx hb dX10_goesOn_1 rfl hl (by decide) rfl (fun ls hl => ?_)
  exact K2 xF q0 x1 (0 : Int32) d hf _ _ ls (lv_sub hl [1, 2, 0] rfl) G
-- HalfLandingsModel.runs(I)V
theorem dX10_runs_0 : decode cX10_runs 0 = .ok (.aload_n 0, 1) := by decide +kernel
theorem dX10_runs_1 : decode cX10_runs 1 = .ok (.iconst 1, 1) := by decide +kernel
theorem dX10_runs_2 : decode cX10_runs 2 = .ok (.iconst 0, 1) := by decide +kernel
theorem dX10_runs_3 : decode cX10_runs 3 = .ok (.invokevirtual 413, 3) := by decide +kernel
theorem dX10_runs_6 : decode cX10_runs 6 = .ok (.aload_n 0, 1) := by decide +kernel
theorem dX10_runs_7 : decode cX10_runs 7 = .ok (.iload_n 1, 1) := by decide +kernel
theorem dX10_runs_8 : decode cX10_runs 8 = .ok (.invokevirtual 416, 3) := by decide +kernel
theorem dX10_runs_11 : decode cX10_runs 11 = .ok (.return_, 1) := by decide +kernel
theorem hd_X10_runs : yX10_runs.cls = xCn 10 ∧ yX10_runs.cls ≠ "java/lang/invoke/MethodHandle" ∧ yX10_runs.cls ≠ "java/lang/invoke/VarHandle" ∧ (parseMethodDescriptor yX10_runs.desc).map (fun d => d.parameters.length) = some 1 := by decide +kernel
def f_X10_runs (sh : List xSh) (q0 : Nat) (x1 : Int32) (d : xD) : Option xD :=
  (xon 10 sh q0 (f_X10_copies sh q0 (1 : Int32) (0 : Int32) d)).bind fun d1 => (xon 10 sh q0 (f_X10_goesOn sh q0 x1 d1)).bind fun d2 => some d2
set_option maxHeartbeats 4000000 in
set_option maxRecDepth 100000 in
theorem mt_X10_runs (l : Launch) (D : va_G) (cid : FieldType → ClassId) (b : Nat) (ex : Bool) (sa sv B0 : Nat) (sh : List xSh) (q0 : Nat) (x1 : Int32) (d : xD) (dz : xD) (hf : f_X10_runs sh q0 x1 d = some dz) : xMet l yX10_runs cX10_runs 2 none 7 0 0 D cid b ex sa sv B0 [.ref (b + q0), .int x1] sh d none sh dz := by
  refine xMet.of (by decide) (Nat.le_of_ble_eq_true rfl) ?_
  intro p e s m below meth c ls A S hr hin G hl
  have hl : lv_has ls 2 [(0, .ref (b + q0)), (1, .int x1)] := hl
  generalize ([.ref (b + q0), .int x1] : List Value).toArray = av at S ⊢
  have hx := S.1
  have hb := S.2.1
  have hml := S.2.2.1
  have hown := S.2.2.2.1
  have hts := S.2.2.2.2.1
  unfold f_X10_runs at hf
  refine lv_aload_n hx hb dX10_runs_0 rfl (lv_at hl 0 rfl) ?_
  refine lv_iconst (v := (1 : Int32)) hx hb dX10_runs_1 (by decide) ?_
  refine lv_iconst (v := (0 : Int32)) hx hb dX10_runs_2 (by decide) ?_
  obtain ⟨d1, hd1, hf⟩ := x_ob hf
  obtain ⟨hqd1, hd1⟩ := xon_of hd1
  refine xr_callV (ci := 10) (As := [.int (1 : Int32), .int (0 : Int32)]) (rest := []) (st1 := []) S G hl.1 (fun _ => rfl) (mt_X10_copies l D cid b ex sa sv B0 sh q0 (1 : Int32) (0 : Int32) d _ hd1) hqd1 (by decide) kw_1580 kw_1582 ks_73 kw_17 kw_1583 hd_X10_copies ⟨Nat.le_of_ble_eq_true rfl, Nat.le_of_ble_eq_true rfl⟩ rfl rfl rfl (Nat.le_of_ble_eq_true rfl) ⟨Nat.le_of_ble_eq_true rfl, Nat.le_of_ble_eq_true rfl⟩ dX10_runs_3 (fun H locs G => ?_)
  refine lv_aload_n hx hb dX10_runs_6 rfl (lv_at hl 0 rfl) ?_
  refine lv_iload_n hx hb dX10_runs_7 rfl (lv_at hl 1 rfl) ?_
  obtain ⟨d2, hd2, hf⟩ := x_ob hf
  obtain ⟨hqd2, hd2⟩ := xon_of hd2
  refine xr_callV (ci := 10) (As := [.int x1]) (rest := []) (st1 := []) S G hl.1 (fun _ => rfl) (mt_X10_goesOn l D cid b ex sa sv B0 sh q0 x1 d1 _ hd2) hqd2 (by decide) kw_1661 kw_1663 ks_88 kw_17 kw_1664 hd_X10_goesOn ⟨Nat.le_of_ble_eq_true rfl, Nat.le_of_ble_eq_true rfl⟩ rfl rfl rfl (Nat.le_of_ble_eq_true rfl) ⟨Nat.le_of_ble_eq_true rfl, Nat.le_of_ble_eq_true rfl⟩ dX10_runs_8 (fun H locs G => ?_)
  cases hf
  exact xr_vret S G (fun _ => rfl) hr dX10_runs_11
-- HalfLandingsModel.walkersOf(II)I
theorem dX10_walkersOf_0 : decode cX10_walkersOf 0 = .ok (.iconst 0, 1) := by decide +kernel
theorem dX10_walkersOf_1 : decode cX10_walkersOf 1 = .ok (.istore_n 3, 1) := by decide +kernel
theorem dX10_walkersOf_2 : decode cX10_walkersOf 2 = .ok (.iconst 0, 1) := by decide +kernel
theorem dX10_walkersOf_3 : decode cX10_walkersOf 3 = .ok (.istore 4, 2) := by decide +kernel
theorem dX10_walkersOf_5 : decode cX10_walkersOf 5 = .ok (.iload 4, 2) := by decide +kernel
theorem dX10_walkersOf_7 : decode cX10_walkersOf 7 = .ok (.aload_n 0, 1) := by decide +kernel
theorem dX10_walkersOf_8 : decode cX10_walkersOf 8 = .ok (.getfield 13, 3) := by decide +kernel
theorem dX10_walkersOf_11 : decode cX10_walkersOf 11 = .ok (.iconst 2, 1) := by decide +kernel
theorem dX10_walkersOf_12 : decode cX10_walkersOf 12 = .ok (.iaload, 1) := by decide +kernel
theorem dX10_walkersOf_13 : decode cX10_walkersOf 13 = .ok (.if_icmp .ge 33, 3) := by decide +kernel
theorem dX10_walkersOf_16 : decode cX10_walkersOf 16 = .ok (.iload_n 3, 1) := by decide +kernel
theorem dX10_walkersOf_17 : decode cX10_walkersOf 17 = .ok (.aload_n 0, 1) := by decide +kernel
theorem dX10_walkersOf_18 : decode cX10_walkersOf 18 = .ok (.getfield 87, 3) := by decide +kernel
theorem dX10_walkersOf_21 : decode cX10_walkersOf 21 = .ok (.bipush 6, 2) := by decide +kernel
theorem dX10_walkersOf_23 : decode cX10_walkersOf 23 = .ok (.iload_n 1, 1) := by decide +kernel
theorem dX10_walkersOf_24 : decode cX10_walkersOf 24 = .ok (.imul, 1) := by decide +kernel
theorem dX10_walkersOf_25 : decode cX10_walkersOf 25 = .ok (.iload 4, 2) := by decide +kernel
theorem dX10_walkersOf_27 : decode cX10_walkersOf 27 = .ok (.iadd, 1) := by decide +kernel
theorem dX10_walkersOf_28 : decode cX10_walkersOf 28 = .ok (.iaload, 1) := by decide +kernel
theorem dX10_walkersOf_29 : decode cX10_walkersOf 29 = .ok (.iload_n 2, 1) := by decide +kernel
theorem dX10_walkersOf_30 : decode cX10_walkersOf 30 = .ok (.if_icmp .ne 7, 3) := by decide +kernel
theorem dX10_walkersOf_33 : decode cX10_walkersOf 33 = .ok (.iconst 1, 1) := by decide +kernel
theorem dX10_walkersOf_34 : decode cX10_walkersOf 34 = .ok (.goto 4, 3) := by decide +kernel
theorem dX10_walkersOf_37 : decode cX10_walkersOf 37 = .ok (.iconst 0, 1) := by decide +kernel
theorem dX10_walkersOf_38 : decode cX10_walkersOf 38 = .ok (.iadd, 1) := by decide +kernel
theorem dX10_walkersOf_39 : decode cX10_walkersOf 39 = .ok (.istore_n 3, 1) := by decide +kernel
theorem dX10_walkersOf_40 : decode cX10_walkersOf 40 = .ok (.iinc 4 1, 3) := by decide +kernel
theorem dX10_walkersOf_43 : decode cX10_walkersOf 43 = .ok (.goto (-38), 3) := by decide +kernel
theorem dX10_walkersOf_46 : decode cX10_walkersOf 46 = .ok (.iload_n 3, 1) := by decide +kernel
theorem dX10_walkersOf_47 : decode cX10_walkersOf 47 = .ok (.ireturn, 1) := by decide +kernel
theorem hd_X10_walkersOf : yX10_walkersOf.cls = xCn 10 ∧ yX10_walkersOf.cls ≠ "java/lang/invoke/MethodHandle" ∧ yX10_walkersOf.cls ≠ "java/lang/invoke/VarHandle" ∧ (parseMethodDescriptor yX10_walkersOf.desc).map (fun d => d.parameters.length) = some 2 := by decide +kernel
def k_X10_walkersOf_46 (sh : List xSh) (x3 : Int32) (d : xD) : Option (Int32 × xD) :=
  some (x3, d)
def k_X10_walkersOf_38 (sh : List xSh) (rec5 : Nat → Int32 → Int32 → Int32 → Int32 → xD → Option (Int32 × xD)) (q0 : Nat) (x1 : Int32) (x2 : Int32) (x4 : Int32) (y0 : Int32) (y1 : Int32) (d : xD) : Option (Int32 × xD) :=
  rec5 q0 x1 x2 (y0 + y1) (x4 + 1) d
def b_X10_walkersOf_5 (sh : List xSh) (rec5 : Nat → Int32 → Int32 → Int32 → Int32 → xD → Option (Int32 × xD)) (q0 : Nat) (x1 : Int32) (x2 : Int32) (x3 : Int32) (x4 : Int32) (d : xD) : Option (Int32 × xD) :=
  (xgR 10 sh d q0 3).bind fun v1 => (xaI .int sh d v1 (2 : Int32)).bind fun v2 => if v2 ≤ x4 then (k_X10_walkersOf_46 sh x3 d) else ((xgR 10 sh d q0 40).bind fun v3 => (xaI .int sh d v3 (((6 : Int32) * x1) + x4)).bind fun v4 => if v4 = x2 then (k_X10_walkersOf_38 sh rec5 q0 x1 x2 x4 x3 (1 : Int32) d) else (k_X10_walkersOf_38 sh rec5 q0 x1 x2 x4 x3 (0 : Int32) d))
def f_X10_walkersOf (sh : List xSh) (q0 : Nat) (x1 : Int32) (x2 : Int32) (d : xD) : Option (Int32 × xD) :=
  xloop (fun _ _ _ _ _ _ => none) (b_X10_walkersOf_5 sh) xF q0 x1 x2 (0 : Int32) (0 : Int32) d
set_option maxHeartbeats 4000000 in
set_option maxRecDepth 100000 in
theorem mt_X10_walkersOf (l : Launch) (D : va_G) (cid : FieldType → ClassId) (b : Nat) (ex : Bool) (sa sv B0 : Nat) (sh : List xSh) (q0 : Nat) (x1 : Int32) (x2 : Int32) (d : xD) (r : Int32) (dz : xD) (hf : f_X10_walkersOf sh q0 x1 x2 d = some (r, dz)) : xMet l yX10_walkersOf cX10_walkersOf 5 (some .int) 0 0 0 D cid b ex sa sv B0 [.ref (b + q0), .int x1, .int x2] sh d (some (.int r)) sh dz := by
  refine xMet.of (by decide) (Nat.le_of_ble_eq_true rfl) ?_
  intro p e s m below meth c ls A S hr hin G hl
  have hl : lv_has ls 5 [(0, .ref (b + q0)), (1, .int x1), (2, .int x2)] := hl
  generalize ([.ref (b + q0), .int x1, .int x2] : List Value).toArray = av at S ⊢
  have hx := S.1
  have hb := S.2.1
  have hml := S.2.2.1
  have hown := S.2.2.2.1
  have hts := S.2.2.2.2.1
  have K46 : ∀ (x3 : Int32) (d : xD), k_X10_walkersOf_46 sh x3 d = some (r, dz) → ∀ (H : Heap) (locs : List Loc) (ls : Array Slot), lv_has ls 5 [(3, .int x3)] → xG D cid b A sh d s H locs → W p l e (xRm 0 0 0) s m av below meth c H locs 0 0 (MQ below (xQ D cid b ex A (some (.int r)) sh dz) av s 0 0 A) (F0 m 46 ls []) := by
    intro x3 d hf H locs ls hl G
    unfold k_X10_walkersOf_46 at hf
    refine lv_iload_n hx hb dX10_walkersOf_46 rfl (lv_at hl 0 rfl) ?_
    cases hf
    exact xr_iret S G (fun _ => rfl) hr dX10_walkersOf_47
  have K38 : ∀ (rec5 : Nat → Int32 → Int32 → Int32 → Int32 → xD → Option (Int32 × xD)) (hrec5 : ∀ (q0 : Nat) (x1 : Int32) (x2 : Int32) (x3 : Int32) (x4 : Int32) (d : xD), rec5 q0 x1 x2 x3 x4 d = some (r, dz) → ∀ (H : Heap) (locs : List Loc) (ls : Array Slot), lv_has ls 5 [(0, .ref (b + q0)), (1, .int x1), (2, .int x2), (3, .int x3), (4, .int x4)] → xG D cid b A sh d s H locs → W p l e (xRm 0 0 0) s m av below meth c H locs 0 0 (MQ below (xQ D cid b ex A (some (.int r)) sh dz) av s 0 0 A) (F0 m 5 ls [])) (q0 : Nat) (x1 : Int32) (x2 : Int32) (x4 : Int32) (y0 : Int32) (y1 : Int32) (d : xD), k_X10_walkersOf_38 sh rec5 q0 x1 x2 x4 y0 y1 d = some (r, dz) → ∀ (H : Heap) (locs : List Loc) (ls : Array Slot), lv_has ls 5 [(0, .ref (b + q0)), (1, .int x1), (2, .int x2), (4, .int x4)] → xG D cid b A sh d s H locs → W p l e (xRm 0 0 0) s m av below meth c H locs 0 0 (MQ below (xQ D cid b ex A (some (.int r)) sh dz) av s 0 0 A) (F0 m 38 ls [.int y1, .int y0]) := by
    intro rec5 hrec5 q0 x1 x2 x4 y0 y1 d hf H locs ls hl G
    unfold k_X10_walkersOf_38 at hf
    refine lv_iadd hx hb dX10_walkersOf_38 ?_
    refine lv_istore_n (lv' := [(3, .int (y0 + y1)), (0, .ref (b + q0)), (1, .int x1), (2, .int x2), (4, .int x4)]) hx hb dX10_walkersOf_39 rfl hl (by decide) rfl (fun ls hl => ?_)
    refine lv_iinc (v := (x4 + 1)) (lv' := [(4, .int (x4 + 1)), (3, .int (y0 + y1)), (0, .ref (b + q0)), (1, .int x1), (2, .int x2)]) hx hb dX10_walkersOf_40 hl (k := 4) rfl rfl (by decide) rfl (fun ls hl => ?_)
    refine lv_goto (tgt := 5) hx hb dX10_walkersOf_43 (by decide) ?_
    exact hrec5 q0 x1 x2 (y0 + y1) (x4 + 1) d hf _ _ ls (lv_sub hl [2, 3, 4, 1, 0] rfl) G
  have K5 : ∀ (n : Nat) (q0 : Nat) (x1 : Int32) (x2 : Int32) (x3 : Int32) (x4 : Int32) (d : xD), xloop (fun _ _ _ _ _ _ => none) (b_X10_walkersOf_5 sh) n q0 x1 x2 x3 x4 d = some (r, dz) → ∀ (H : Heap) (locs : List Loc) (ls : Array Slot), lv_has ls 5 [(0, .ref (b + q0)), (1, .int x1), (2, .int x2), (3, .int x3), (4, .int x4)] → xG D cid b A sh d s H locs → W p l e (xRm 0 0 0) s m av below meth c H locs 0 0 (MQ below (xQ D cid b ex A (some (.int r)) sh dz) av s 0 0 A) (F0 m 5 ls []) := by
    intro n
    induction n with
    | zero =>
      intro q0 x1 x2 x3 x4 d hf
      have hf : (none : Option (Int32 × xD)) = some (r, dz) := hf
      cases hf
    | succ n hrec5 =>
      intro q0 x1 x2 x3 x4 d hf H locs ls hl G
      have hf : b_X10_walkersOf_5 sh (xloop (fun _ _ _ _ _ _ => none) (b_X10_walkersOf_5 sh) n) q0 x1 x2 x3 x4 d = some (r, dz) := hf
      unfold b_X10_walkersOf_5 at hf
      refine lv_iload hx hb dX10_walkersOf_5 (lv_at hl 4 rfl) ?_
      refine lv_aload_n hx hb dX10_walkersOf_7 rfl (lv_at hl 0 rfl) ?_
      obtain ⟨v1, hv1, hf⟩ := x_ob hf
      refine xr_getR (ci := 10) (k := 3) S G hv1 rfl kw_1171 dX10_walkersOf_8 ?_
      refine lv_iconst (v := (2 : Int32)) hx hb dX10_walkersOf_11 (by decide) ?_
      obtain ⟨v2, hv2, hf⟩ := x_ob hf
      refine xr_iald S G hv2 dX10_walkersOf_12 ?_
      refine lv_icmp_ge (tgt := 46) hx hb dX10_walkersOf_13 (by decide) (fun c => ?_) (fun c => ?_)
      · have hf := x_pos c hf
        exact K46 x3 d hf _ _ ls (lv_sub hl [3] rfl) G
      · have hf := x_neg c hf
        refine lv_iload_n hx hb dX10_walkersOf_16 rfl (lv_at hl 3 rfl) ?_
        refine lv_aload_n hx hb dX10_walkersOf_17 rfl (lv_at hl 0 rfl) ?_
        obtain ⟨v3, hv3, hf⟩ := x_ob hf
        refine xr_getR (ci := 10) (k := 40) S G hv3 rfl kw_1208 dX10_walkersOf_18 ?_
        refine lv_bipush (v := (6 : Int32)) hx hb dX10_walkersOf_21 (by decide) ?_
        refine lv_iload_n hx hb dX10_walkersOf_23 rfl (lv_at hl 1 rfl) ?_
        refine lv_imul hx hb dX10_walkersOf_24 ?_
        refine lv_iload hx hb dX10_walkersOf_25 (lv_at hl 4 rfl) ?_
        refine lv_iadd hx hb dX10_walkersOf_27 ?_
        obtain ⟨v4, hv4, hf⟩ := x_ob hf
        refine xr_iald S G hv4 dX10_walkersOf_28 ?_
        refine lv_iload_n hx hb dX10_walkersOf_29 rfl (lv_at hl 2 rfl) ?_
        refine lv_icmp_ne (tgt := 37) hx hb dX10_walkersOf_30 (by decide) (fun c => ?_) (fun c => ?_)
        · have hf := x_neg c hf
          refine lv_iconst (v := (0 : Int32)) hx hb dX10_walkersOf_37 (by decide) ?_
          exact K38 _ hrec5 q0 x1 x2 x4 x3 (0 : Int32) d hf _ _ ls (lv_sub hl [0, 1, 2, 4] rfl) G
        · have hf := x_pos c hf
          refine lv_iconst (v := (1 : Int32)) hx hb dX10_walkersOf_33 (by decide) ?_
          refine lv_goto (tgt := 38) hx hb dX10_walkersOf_34 (by decide) ?_
          exact K38 _ hrec5 q0 x1 x2 x4 x3 (1 : Int32) d hf _ _ ls (lv_sub hl [0, 1, 2, 4] rfl) G
  unfold f_X10_walkersOf at hf
  refine lv_iconst (v := (0 : Int32)) hx hb dX10_walkersOf_0 (by decide) ?_
  refine lv_istore_n (lv' := [(3, .int (0 : Int32)), (0, .ref (b + q0)), (1, .int x1), (2, .int x2)]) hx hb dX10_walkersOf_1 rfl hl (by decide) rfl (fun ls hl => ?_)
  refine lv_iconst (v := (0 : Int32)) hx hb dX10_walkersOf_2 (by decide) ?_
  refine lv_istore (lv' := [(4, .int (0 : Int32)), (3, .int (0 : Int32)), (0, .ref (b + q0)), (1, .int x1), (2, .int x2)]) hx hb dX10_walkersOf_3 hl (by decide) rfl (fun ls hl => ?_)
  exact K5 xF q0 x1 x2 (0 : Int32) (0 : Int32) d hf _ _ ls (lv_sub hl [2, 3, 4, 1, 0] rfl) G
-- HalfLandingsModel.wornAll(I)I
theorem dX10_wornAll_0 : decode cX10_wornAll 0 = .ok (.iconst 0, 1) := by decide +kernel
theorem dX10_wornAll_1 : decode cX10_wornAll 1 = .ok (.istore_n 2, 1) := by decide +kernel
theorem dX10_wornAll_2 : decode cX10_wornAll 2 = .ok (.iconst 0, 1) := by decide +kernel
theorem dX10_wornAll_3 : decode cX10_wornAll 3 = .ok (.istore_n 3, 1) := by decide +kernel
theorem dX10_wornAll_4 : decode cX10_wornAll 4 = .ok (.iload_n 3, 1) := by decide +kernel
theorem dX10_wornAll_5 : decode cX10_wornAll 5 = .ok (.aload_n 0, 1) := by decide +kernel
theorem dX10_wornAll_6 : decode cX10_wornAll 6 = .ok (.getfield 13, 3) := by decide +kernel
theorem dX10_wornAll_9 : decode cX10_wornAll 9 = .ok (.iconst 1, 1) := by decide +kernel
theorem dX10_wornAll_10 : decode cX10_wornAll 10 = .ok (.iaload, 1) := by decide +kernel
theorem dX10_wornAll_11 : decode cX10_wornAll 11 = .ok (.if_icmp .ge 23, 3) := by decide +kernel
theorem dX10_wornAll_14 : decode cX10_wornAll 14 = .ok (.iload_n 2, 1) := by decide +kernel
theorem dX10_wornAll_15 : decode cX10_wornAll 15 = .ok (.aload_n 0, 1) := by decide +kernel
theorem dX10_wornAll_16 : decode cX10_wornAll 16 = .ok (.getfield 108, 3) := by decide +kernel
theorem dX10_wornAll_19 : decode cX10_wornAll 19 = .ok (.bipush 8, 2) := by decide +kernel
theorem dX10_wornAll_21 : decode cX10_wornAll 21 = .ok (.iload_n 1, 1) := by decide +kernel
theorem dX10_wornAll_22 : decode cX10_wornAll 22 = .ok (.imul, 1) := by decide +kernel
theorem dX10_wornAll_23 : decode cX10_wornAll 23 = .ok (.iload_n 3, 1) := by decide +kernel
theorem dX10_wornAll_24 : decode cX10_wornAll 24 = .ok (.iadd, 1) := by decide +kernel
theorem dX10_wornAll_25 : decode cX10_wornAll 25 = .ok (.iaload, 1) := by decide +kernel
theorem dX10_wornAll_26 : decode cX10_wornAll 26 = .ok (.iadd, 1) := by decide +kernel
theorem dX10_wornAll_27 : decode cX10_wornAll 27 = .ok (.istore_n 2, 1) := by decide +kernel
theorem dX10_wornAll_28 : decode cX10_wornAll 28 = .ok (.iinc 3 1, 3) := by decide +kernel
theorem dX10_wornAll_31 : decode cX10_wornAll 31 = .ok (.goto (-27), 3) := by decide +kernel
theorem dX10_wornAll_34 : decode cX10_wornAll 34 = .ok (.iload_n 2, 1) := by decide +kernel
theorem dX10_wornAll_35 : decode cX10_wornAll 35 = .ok (.ireturn, 1) := by decide +kernel
theorem hd_X10_wornAll : yX10_wornAll.cls = xCn 10 ∧ yX10_wornAll.cls ≠ "java/lang/invoke/MethodHandle" ∧ yX10_wornAll.cls ≠ "java/lang/invoke/VarHandle" ∧ (parseMethodDescriptor yX10_wornAll.desc).map (fun d => d.parameters.length) = some 1 := by decide +kernel
def k_X10_wornAll_34 (sh : List xSh) (x2 : Int32) (d : xD) : Option (Int32 × xD) :=
  some (x2, d)
def b_X10_wornAll_4 (sh : List xSh) (rec4 : Nat → Int32 → Int32 → Int32 → xD → Option (Int32 × xD)) (q0 : Nat) (x1 : Int32) (x2 : Int32) (x3 : Int32) (d : xD) : Option (Int32 × xD) :=
  (xgR 10 sh d q0 3).bind fun v1 => (xaI .int sh d v1 (1 : Int32)).bind fun v2 => if v2 ≤ x3 then (k_X10_wornAll_34 sh x2 d) else ((xgR 10 sh d q0 47).bind fun v3 => (xaI .int sh d v3 (((8 : Int32) * x1) + x3)).bind fun v4 => rec4 q0 x1 (x2 + v4) (x3 + 1) d)
def f_X10_wornAll (sh : List xSh) (q0 : Nat) (x1 : Int32) (d : xD) : Option (Int32 × xD) :=
  xloop (fun _ _ _ _ _ => none) (b_X10_wornAll_4 sh) xF q0 x1 (0 : Int32) (0 : Int32) d
set_option maxHeartbeats 4000000 in
set_option maxRecDepth 100000 in
theorem mt_X10_wornAll (l : Launch) (D : va_G) (cid : FieldType → ClassId) (b : Nat) (ex : Bool) (sa sv B0 : Nat) (sh : List xSh) (q0 : Nat) (x1 : Int32) (d : xD) (r : Int32) (dz : xD) (hf : f_X10_wornAll sh q0 x1 d = some (r, dz)) : xMet l yX10_wornAll cX10_wornAll 4 (some .int) 0 0 0 D cid b ex sa sv B0 [.ref (b + q0), .int x1] sh d (some (.int r)) sh dz := by
  refine xMet.of (by decide) (Nat.le_of_ble_eq_true rfl) ?_
  intro p e s m below meth c ls A S hr hin G hl
  have hl : lv_has ls 4 [(0, .ref (b + q0)), (1, .int x1)] := hl
  generalize ([.ref (b + q0), .int x1] : List Value).toArray = av at S ⊢
  have hx := S.1
  have hb := S.2.1
  have hml := S.2.2.1
  have hown := S.2.2.2.1
  have hts := S.2.2.2.2.1
  have K34 : ∀ (x2 : Int32) (d : xD), k_X10_wornAll_34 sh x2 d = some (r, dz) → ∀ (H : Heap) (locs : List Loc) (ls : Array Slot), lv_has ls 4 [(2, .int x2)] → xG D cid b A sh d s H locs → W p l e (xRm 0 0 0) s m av below meth c H locs 0 0 (MQ below (xQ D cid b ex A (some (.int r)) sh dz) av s 0 0 A) (F0 m 34 ls []) := by
    intro x2 d hf H locs ls hl G
    unfold k_X10_wornAll_34 at hf
    refine lv_iload_n hx hb dX10_wornAll_34 rfl (lv_at hl 0 rfl) ?_
    cases hf
    exact xr_iret S G (fun _ => rfl) hr dX10_wornAll_35
  have K4 : ∀ (n : Nat) (q0 : Nat) (x1 : Int32) (x2 : Int32) (x3 : Int32) (d : xD), xloop (fun _ _ _ _ _ => none) (b_X10_wornAll_4 sh) n q0 x1 x2 x3 d = some (r, dz) → ∀ (H : Heap) (locs : List Loc) (ls : Array Slot), lv_has ls 4 [(0, .ref (b + q0)), (1, .int x1), (2, .int x2), (3, .int x3)] → xG D cid b A sh d s H locs → W p l e (xRm 0 0 0) s m av below meth c H locs 0 0 (MQ below (xQ D cid b ex A (some (.int r)) sh dz) av s 0 0 A) (F0 m 4 ls []) := by
    intro n
    induction n with
    | zero =>
      intro q0 x1 x2 x3 d hf
      have hf : (none : Option (Int32 × xD)) = some (r, dz) := hf
      cases hf
    | succ n hrec4 =>
      intro q0 x1 x2 x3 d hf H locs ls hl G
      have hf : b_X10_wornAll_4 sh (xloop (fun _ _ _ _ _ => none) (b_X10_wornAll_4 sh) n) q0 x1 x2 x3 d = some (r, dz) := hf
      unfold b_X10_wornAll_4 at hf
      refine lv_iload_n hx hb dX10_wornAll_4 rfl (lv_at hl 3 rfl) ?_
      refine lv_aload_n hx hb dX10_wornAll_5 rfl (lv_at hl 0 rfl) ?_
      obtain ⟨v1, hv1, hf⟩ := x_ob hf
      refine xr_getR (ci := 10) (k := 3) S G hv1 rfl kw_1171 dX10_wornAll_6 ?_
      refine lv_iconst (v := (1 : Int32)) hx hb dX10_wornAll_9 (by decide) ?_
      obtain ⟨v2, hv2, hf⟩ := x_ob hf
      refine xr_iald S G hv2 dX10_wornAll_10 ?_
      refine lv_icmp_ge (tgt := 34) hx hb dX10_wornAll_11 (by decide) (fun c => ?_) (fun c => ?_)
      · have hf := x_pos c hf
        exact K34 x2 d hf _ _ ls (lv_sub hl [2] rfl) G
      · have hf := x_neg c hf
        refine lv_iload_n hx hb dX10_wornAll_14 rfl (lv_at hl 2 rfl) ?_
        refine lv_aload_n hx hb dX10_wornAll_15 rfl (lv_at hl 0 rfl) ?_
        obtain ⟨v3, hv3, hf⟩ := x_ob hf
        refine xr_getR (ci := 10) (k := 47) S G hv3 rfl kw_1215 dX10_wornAll_16 ?_
        refine lv_bipush (v := (8 : Int32)) hx hb dX10_wornAll_19 (by decide) ?_
        refine lv_iload_n hx hb dX10_wornAll_21 rfl (lv_at hl 1 rfl) ?_
        refine lv_imul hx hb dX10_wornAll_22 ?_
        refine lv_iload_n hx hb dX10_wornAll_23 rfl (lv_at hl 3 rfl) ?_
        refine lv_iadd hx hb dX10_wornAll_24 ?_
        obtain ⟨v4, hv4, hf⟩ := x_ob hf
        refine xr_iald S G hv4 dX10_wornAll_25 ?_
        refine lv_iadd hx hb dX10_wornAll_26 ?_
        refine lv_istore_n (lv' := [(2, .int (x2 + v4)), (0, .ref (b + q0)), (1, .int x1), (3, .int x3)]) hx hb dX10_wornAll_27 rfl hl (by decide) rfl (fun ls hl => ?_)
        refine lv_iinc (v := (x3 + 1)) (lv' := [(3, .int (x3 + 1)), (2, .int (x2 + v4)), (0, .ref (b + q0)), (1, .int x1)]) hx hb dX10_wornAll_28 hl (k := 3) rfl rfl (by decide) rfl (fun ls hl => ?_)
        refine lv_goto (tgt := 4) hx hb dX10_wornAll_31 (by decide) ?_
        exact hrec4 q0 x1 (x2 + v4) (x3 + 1) d hf _ _ ls (lv_sub hl [2, 3, 1, 0] rfl) G
  unfold f_X10_wornAll at hf
  refine lv_iconst (v := (0 : Int32)) hx hb dX10_wornAll_0 (by decide) ?_
  refine lv_istore_n (lv' := [(2, .int (0 : Int32)), (0, .ref (b + q0)), (1, .int x1)]) hx hb dX10_wornAll_1 rfl hl (by decide) rfl (fun ls hl => ?_)
  refine lv_iconst (v := (0 : Int32)) hx hb dX10_wornAll_2 (by decide) ?_
  refine lv_istore_n (lv' := [(3, .int (0 : Int32)), (2, .int (0 : Int32)), (0, .ref (b + q0)), (1, .int x1)]) hx hb dX10_wornAll_3 rfl hl (by decide) rfl (fun ls hl => ?_)
  exact K4 xF q0 x1 (0 : Int32) (0 : Int32) d hf _ _ ls (lv_sub hl [2, 3, 1, 0] rfl) G
-- HalfLandingsModel.walker(II)I
theorem dX10_walker_0 : decode cX10_walker 0 = .ok (.aload_n 0, 1) := by decide +kernel
theorem dX10_walker_1 : decode cX10_walker 1 = .ok (.aload_n 0, 1) := by decide +kernel
theorem dX10_walker_2 : decode cX10_walker 2 = .ok (.iload_n 1, 1) := by decide +kernel
theorem dX10_walker_3 : decode cX10_walker 3 = .ok (.invokevirtual 419, 3) := by decide +kernel
theorem dX10_walker_6 : decode cX10_walker 6 = .ok (.ifCond .ne 7, 3) := by decide +kernel
theorem dX10_walker_9 : decode cX10_walker 9 = .ok (.iconst 1, 1) := by decide +kernel
theorem dX10_walker_10 : decode cX10_walker 10 = .ok (.goto 18, 3) := by decide +kernel
theorem dX10_walker_13 : decode cX10_walker 13 = .ok (.iload_n 2, 1) := by decide +kernel
theorem dX10_walker_14 : decode cX10_walker 14 = .ok (.ifCond .lt 9, 3) := by decide +kernel
theorem dX10_walker_17 : decode cX10_walker 17 = .ok (.iload_n 2, 1) := by decide +kernel
theorem dX10_walker_18 : decode cX10_walker 18 = .ok (.bipush 6, 2) := by decide +kernel
theorem dX10_walker_20 : decode cX10_walker 20 = .ok (.if_icmp .le 7, 3) := by decide +kernel
theorem dX10_walker_23 : decode cX10_walker 23 = .ok (.iconst 2, 1) := by decide +kernel
theorem dX10_walker_24 : decode cX10_walker 24 = .ok (.goto 4, 3) := by decide +kernel
theorem dX10_walker_27 : decode cX10_walker 27 = .ok (.iconst 0, 1) := by decide +kernel
theorem dX10_walker_28 : decode cX10_walker 28 = .ok (.putfield 145, 3) := by decide +kernel
theorem dX10_walker_31 : decode cX10_walker 31 = .ok (.aload_n 0, 1) := by decide +kernel
theorem dX10_walker_32 : decode cX10_walker 32 = .ok (.getfield 145, 3) := by decide +kernel
theorem dX10_walker_35 : decode cX10_walker 35 = .ok (.ifCond .eq 5, 3) := by decide +kernel
theorem dX10_walker_38 : decode cX10_walker 38 = .ok (.iconst 0, 1) := by decide +kernel
theorem dX10_walker_39 : decode cX10_walker 39 = .ok (.ireturn, 1) := by decide +kernel
theorem dX10_walker_40 : decode cX10_walker 40 = .ok (.iload_n 2, 1) := by decide +kernel
theorem dX10_walker_41 : decode cX10_walker 41 = .ok (.tableswitch 81 0 5 #[39, 46, 53, 60, 67, 74], 39) := by decide +kernel
theorem dX10_walker_80 : decode cX10_walker 80 = .ok (.aload_n 0, 1) := by decide +kernel
theorem dX10_walker_81 : decode cX10_walker 81 = .ok (.getfield 87, 3) := by decide +kernel
theorem dX10_walker_84 : decode cX10_walker 84 = .ok (.iload_n 1, 1) := by decide +kernel
theorem dX10_walker_85 : decode cX10_walker 85 = .ok (.iaload, 1) := by decide +kernel
theorem dX10_walker_86 : decode cX10_walker 86 = .ok (.ireturn, 1) := by decide +kernel
theorem dX10_walker_87 : decode cX10_walker 87 = .ok (.aload_n 0, 1) := by decide +kernel
theorem dX10_walker_88 : decode cX10_walker 88 = .ok (.getfield 90, 3) := by decide +kernel
theorem dX10_walker_91 : decode cX10_walker 91 = .ok (.iload_n 1, 1) := by decide +kernel
theorem dX10_walker_92 : decode cX10_walker 92 = .ok (.iaload, 1) := by decide +kernel
theorem dX10_walker_93 : decode cX10_walker 93 = .ok (.ireturn, 1) := by decide +kernel
theorem dX10_walker_94 : decode cX10_walker 94 = .ok (.aload_n 0, 1) := by decide +kernel
theorem dX10_walker_95 : decode cX10_walker 95 = .ok (.getfield 93, 3) := by decide +kernel
theorem dX10_walker_98 : decode cX10_walker 98 = .ok (.iload_n 1, 1) := by decide +kernel
theorem dX10_walker_99 : decode cX10_walker 99 = .ok (.iaload, 1) := by decide +kernel
theorem dX10_walker_100 : decode cX10_walker 100 = .ok (.ireturn, 1) := by decide +kernel
theorem dX10_walker_101 : decode cX10_walker 101 = .ok (.aload_n 0, 1) := by decide +kernel
theorem dX10_walker_102 : decode cX10_walker 102 = .ok (.getfield 34, 3) := by decide +kernel
theorem dX10_walker_105 : decode cX10_walker 105 = .ok (.iload_n 1, 1) := by decide +kernel
theorem dX10_walker_106 : decode cX10_walker 106 = .ok (.iaload, 1) := by decide +kernel
theorem dX10_walker_107 : decode cX10_walker 107 = .ok (.ireturn, 1) := by decide +kernel
theorem dX10_walker_108 : decode cX10_walker 108 = .ok (.aload_n 0, 1) := by decide +kernel
theorem dX10_walker_109 : decode cX10_walker 109 = .ok (.getfield 99, 3) := by decide +kernel
theorem dX10_walker_112 : decode cX10_walker 112 = .ok (.iload_n 1, 1) := by decide +kernel
theorem dX10_walker_113 : decode cX10_walker 113 = .ok (.iaload, 1) := by decide +kernel
theorem dX10_walker_114 : decode cX10_walker 114 = .ok (.ireturn, 1) := by decide +kernel
theorem dX10_walker_115 : decode cX10_walker 115 = .ok (.aload_n 0, 1) := by decide +kernel
theorem dX10_walker_116 : decode cX10_walker 116 = .ok (.getfield 102, 3) := by decide +kernel
theorem dX10_walker_119 : decode cX10_walker 119 = .ok (.iload_n 1, 1) := by decide +kernel
theorem dX10_walker_120 : decode cX10_walker 120 = .ok (.iaload, 1) := by decide +kernel
theorem dX10_walker_121 : decode cX10_walker 121 = .ok (.ireturn, 1) := by decide +kernel
theorem dX10_walker_122 : decode cX10_walker 122 = .ok (.aload_n 0, 1) := by decide +kernel
theorem dX10_walker_123 : decode cX10_walker 123 = .ok (.getfield 105, 3) := by decide +kernel
theorem dX10_walker_126 : decode cX10_walker 126 = .ok (.iload_n 1, 1) := by decide +kernel
theorem dX10_walker_127 : decode cX10_walker 127 = .ok (.iaload, 1) := by decide +kernel
theorem dX10_walker_128 : decode cX10_walker 128 = .ok (.ireturn, 1) := by decide +kernel
theorem hd_X10_walker : yX10_walker.cls = xCn 10 ∧ yX10_walker.cls ≠ "java/lang/invoke/MethodHandle" ∧ yX10_walker.cls ≠ "java/lang/invoke/VarHandle" ∧ (parseMethodDescriptor yX10_walker.desc).map (fun d => d.parameters.length) = some 2 := by decide +kernel
def k_X10_walker_28 (sh : List xSh) (q0 : Nat) (x1 : Int32) (x2 : Int32) (p0 : Nat) (y1 : Int32) (d : xD) : Option (Int32 × xD) :=
  (xpI 10 sh d p0 0 y1).bind fun d1 => (xgI 10 sh d1 q0 0).bind fun v2 => if v2 = 0 then (if x2 = (0 : Int32) then ((xgR 10 sh d1 q0 40).bind fun v4 => (xaI .int sh d1 v4 x1).bind fun v5 => some (v5, d1)) else (if x2 = (1 : Int32) then ((xgR 10 sh d1 q0 41).bind fun v7 => (xaI .int sh d1 v7 x1).bind fun v8 => some (v8, d1)) else (if x2 = (2 : Int32) then ((xgR 10 sh d1 q0 42).bind fun v10 => (xaI .int sh d1 v10 x1).bind fun v11 => some (v11, d1)) else (if x2 = (3 : Int32) then ((xgR 10 sh d1 q0 10).bind fun v13 => (xaI .int sh d1 v13 x1).bind fun v14 => some (v14, d1)) else (if x2 = (4 : Int32) then ((xgR 10 sh d1 q0 44).bind fun v16 => (xaI .int sh d1 v16 x1).bind fun v17 => some (v17, d1)) else (if x2 = (5 : Int32) then ((xgR 10 sh d1 q0 45).bind fun v19 => (xaI .int sh d1 v19 x1).bind fun v20 => some (v20, d1)) else ((xgR 10 sh d1 q0 46).bind fun v21 => (xaI .int sh d1 v21 x1).bind fun v22 => some (v22, d1)))))))) else (some ((0 : Int32), d1))
def k_X10_walker_23 (sh : List xSh) (q0 : Nat) (x1 : Int32) (x2 : Int32) (p0 : Nat) (d : xD) : Option (Int32 × xD) :=
  k_X10_walker_28 sh q0 x1 x2 p0 (2 : Int32) d
def f_X10_walker (sh : List xSh) (q0 : Nat) (x1 : Int32) (x2 : Int32) (d : xD) : Option (Int32 × xD) :=
  (xon 10 sh q0 (f_X10_isWalker sh q0 x1 d)).bind fun z23 => if z23.1 = 0 then (k_X10_walker_28 sh q0 x1 x2 q0 (1 : Int32) z23.2) else (if x2 < 0 then (k_X10_walker_23 sh q0 x1 x2 q0 z23.2) else (if x2 ≤ (6 : Int32) then (k_X10_walker_28 sh q0 x1 x2 q0 (0 : Int32) z23.2) else (k_X10_walker_23 sh q0 x1 x2 q0 z23.2)))
set_option maxHeartbeats 4000000 in
set_option maxRecDepth 100000 in
theorem mt_X10_walker (l : Launch) (D : va_G) (cid : FieldType → ClassId) (b : Nat) (ex : Bool) (sa sv B0 : Nat) (sh : List xSh) (q0 : Nat) (x1 : Int32) (x2 : Int32) (d : xD) (r : Int32) (dz : xD) (hf : f_X10_walker sh q0 x1 x2 d = some (r, dz)) : xMet l yX10_walker cX10_walker 3 (some .int) 1 0 0 D cid b ex sa sv B0 [.ref (b + q0), .int x1, .int x2] sh d (some (.int r)) sh dz := by
  refine xMet.of (by decide) (Nat.le_of_ble_eq_true rfl) ?_
  intro p e s m below meth c ls A S hr hin G hl
  have hl : lv_has ls 3 [(0, .ref (b + q0)), (1, .int x1), (2, .int x2)] := hl
  generalize ([.ref (b + q0), .int x1, .int x2] : List Value).toArray = av at S ⊢
  have hx := S.1
  have hb := S.2.1
  have hml := S.2.2.1
  have hown := S.2.2.2.1
  have hts := S.2.2.2.2.1
  have K28 : ∀ (q0 : Nat) (x1 : Int32) (x2 : Int32) (p0 : Nat) (y1 : Int32) (d : xD), k_X10_walker_28 sh q0 x1 x2 p0 y1 d = some (r, dz) → ∀ (H : Heap) (locs : List Loc) (ls : Array Slot), lv_has ls 3 [(0, .ref (b + q0)), (1, .int x1), (2, .int x2)] → xG D cid b A sh d s H locs → W p l e (xRm 1 0 0) s m av below meth c H locs 0 0 (MQ below (xQ D cid b ex A (some (.int r)) sh dz) av s 0 0 A) (F0 m 28 ls [.int y1, .ref (b + p0)]) := by
    intro q0 x1 x2 p0 y1 d hf H locs ls hl G
    unfold k_X10_walker_28 at hf
    obtain ⟨d1, hd1, hf⟩ := x_ob hf
    refine xr_putI (ci := 10) (k := 0) S G hd1 rfl kw_1168 dX10_walker_28 (fun H locs G => ?_)
    refine lv_aload_n hx hb dX10_walker_31 rfl (lv_at hl 0 rfl) ?_
    obtain ⟨v2, hv2, hf⟩ := x_ob hf
    refine xr_getI (ci := 10) (k := 0) S G hv2 rfl kw_1168 dX10_walker_32 ?_
    refine lv_if_eq (tgt := 40) hx hb dX10_walker_35 (by decide) (fun c => ?_) (fun c => ?_)
    · have hf := x_pos c hf
      refine lv_iload_n hx hb dX10_walker_40 rfl (lv_at hl 2 rfl) ?_
      by_cases c3 : x2 = (0 : Int32)
      · have hf := x_pos c3 hf
        refine xr_tab (k := (0 : Int32)) (tgt := 80) hx hb c3 dX10_walker_41 (by decide) (by decide) rfl (by decide) ?_
        refine lv_aload_n hx hb dX10_walker_80 rfl (lv_at hl 0 rfl) ?_
        obtain ⟨v4, hv4, hf⟩ := x_ob hf
        refine xr_getR (ci := 10) (k := 40) S G hv4 rfl kw_1208 dX10_walker_81 ?_
        refine lv_iload_n hx hb dX10_walker_84 rfl (lv_at hl 1 rfl) ?_
        obtain ⟨v5, hv5, hf⟩ := x_ob hf
        refine xr_iald S G hv5 dX10_walker_85 ?_
        cases hf
        exact xr_iret S G (fun _ => rfl) hr dX10_walker_86
      · have hf := x_neg c3 hf
        by_cases c6 : x2 = (1 : Int32)
        · have hf := x_pos c6 hf
          refine xr_tab (k := (1 : Int32)) (tgt := 87) hx hb c6 dX10_walker_41 (by decide) (by decide) rfl (by decide) ?_
          refine lv_aload_n hx hb dX10_walker_87 rfl (lv_at hl 0 rfl) ?_
          obtain ⟨v7, hv7, hf⟩ := x_ob hf
          refine xr_getR (ci := 10) (k := 41) S G hv7 rfl kw_1209 dX10_walker_88 ?_
          refine lv_iload_n hx hb dX10_walker_91 rfl (lv_at hl 1 rfl) ?_
          obtain ⟨v8, hv8, hf⟩ := x_ob hf
          refine xr_iald S G hv8 dX10_walker_92 ?_
          cases hf
          exact xr_iret S G (fun _ => rfl) hr dX10_walker_93
        · have hf := x_neg c6 hf
          by_cases c9 : x2 = (2 : Int32)
          · have hf := x_pos c9 hf
            refine xr_tab (k := (2 : Int32)) (tgt := 94) hx hb c9 dX10_walker_41 (by decide) (by decide) rfl (by decide) ?_
            refine lv_aload_n hx hb dX10_walker_94 rfl (lv_at hl 0 rfl) ?_
            obtain ⟨v10, hv10, hf⟩ := x_ob hf
            refine xr_getR (ci := 10) (k := 42) S G hv10 rfl kw_1210 dX10_walker_95 ?_
            refine lv_iload_n hx hb dX10_walker_98 rfl (lv_at hl 1 rfl) ?_
            obtain ⟨v11, hv11, hf⟩ := x_ob hf
            refine xr_iald S G hv11 dX10_walker_99 ?_
            cases hf
            exact xr_iret S G (fun _ => rfl) hr dX10_walker_100
          · have hf := x_neg c9 hf
            by_cases c12 : x2 = (3 : Int32)
            · have hf := x_pos c12 hf
              refine xr_tab (k := (3 : Int32)) (tgt := 101) hx hb c12 dX10_walker_41 (by decide) (by decide) rfl (by decide) ?_
              refine lv_aload_n hx hb dX10_walker_101 rfl (lv_at hl 0 rfl) ?_
              obtain ⟨v13, hv13, hf⟩ := x_ob hf
              refine xr_getR (ci := 10) (k := 10) S G hv13 rfl kw_1178 dX10_walker_102 ?_
              refine lv_iload_n hx hb dX10_walker_105 rfl (lv_at hl 1 rfl) ?_
              obtain ⟨v14, hv14, hf⟩ := x_ob hf
              refine xr_iald S G hv14 dX10_walker_106 ?_
              cases hf
              exact xr_iret S G (fun _ => rfl) hr dX10_walker_107
            · have hf := x_neg c12 hf
              by_cases c15 : x2 = (4 : Int32)
              · have hf := x_pos c15 hf
                refine xr_tab (k := (4 : Int32)) (tgt := 108) hx hb c15 dX10_walker_41 (by decide) (by decide) rfl (by decide) ?_
                refine lv_aload_n hx hb dX10_walker_108 rfl (lv_at hl 0 rfl) ?_
                obtain ⟨v16, hv16, hf⟩ := x_ob hf
                refine xr_getR (ci := 10) (k := 44) S G hv16 rfl kw_1212 dX10_walker_109 ?_
                refine lv_iload_n hx hb dX10_walker_112 rfl (lv_at hl 1 rfl) ?_
                obtain ⟨v17, hv17, hf⟩ := x_ob hf
                refine xr_iald S G hv17 dX10_walker_113 ?_
                cases hf
                exact xr_iret S G (fun _ => rfl) hr dX10_walker_114
              · have hf := x_neg c15 hf
                by_cases c18 : x2 = (5 : Int32)
                · have hf := x_pos c18 hf
                  refine xr_tab (k := (5 : Int32)) (tgt := 115) hx hb c18 dX10_walker_41 (by decide) (by decide) rfl (by decide) ?_
                  refine lv_aload_n hx hb dX10_walker_115 rfl (lv_at hl 0 rfl) ?_
                  obtain ⟨v19, hv19, hf⟩ := x_ob hf
                  refine xr_getR (ci := 10) (k := 45) S G hv19 rfl kw_1213 dX10_walker_116 ?_
                  refine lv_iload_n hx hb dX10_walker_119 rfl (lv_at hl 1 rfl) ?_
                  obtain ⟨v20, hv20, hf⟩ := x_ob hf
                  refine xr_iald S G hv20 dX10_walker_120 ?_
                  cases hf
                  exact xr_iret S G (fun _ => rfl) hr dX10_walker_121
                · have hf := x_neg c18 hf
                  have hks : ∀ z ∈ ([0, 1, 2, 3, 4, 5] : List Int), (x2).toInt ≠ z := by
                    intro z hz
                    simp only [List.mem_cons, List.not_mem_nil, or_false] at hz
                    rcases hz with rfl | rfl | rfl | rfl | rfl | rfl
                    · exact x_toInt_ne 0 c3 (by decide)
                    · exact x_toInt_ne 1 c6 (by decide)
                    · exact x_toInt_ne 2 c9 (by decide)
                    · exact x_toInt_ne 3 c12 (by decide)
                    · exact x_toInt_ne 4 c15 (by decide)
                    · exact x_toInt_ne 5 c18 (by decide)
                  refine xr_tabD (tgt := 122) [0, 1, 2, 3, 4, 5] hx hb dX10_walker_41 hks (by decide) (by decide) (by decide) ?_
                  refine lv_aload_n hx hb dX10_walker_122 rfl (lv_at hl 0 rfl) ?_
                  obtain ⟨v21, hv21, hf⟩ := x_ob hf
                  refine xr_getR (ci := 10) (k := 46) S G hv21 rfl kw_1214 dX10_walker_123 ?_
                  refine lv_iload_n hx hb dX10_walker_126 rfl (lv_at hl 1 rfl) ?_
                  obtain ⟨v22, hv22, hf⟩ := x_ob hf
                  refine xr_iald S G hv22 dX10_walker_127 ?_
                  cases hf
                  exact xr_iret S G (fun _ => rfl) hr dX10_walker_128
    · have hf := x_neg c hf
      refine lv_iconst (v := (0 : Int32)) hx hb dX10_walker_38 (by decide) ?_
      cases hf
      exact xr_iret S G (fun _ => rfl) hr dX10_walker_39
  have K23 : ∀ (q0 : Nat) (x1 : Int32) (x2 : Int32) (p0 : Nat) (d : xD), k_X10_walker_23 sh q0 x1 x2 p0 d = some (r, dz) → ∀ (H : Heap) (locs : List Loc) (ls : Array Slot), lv_has ls 3 [(0, .ref (b + q0)), (1, .int x1), (2, .int x2)] → xG D cid b A sh d s H locs → W p l e (xRm 1 0 0) s m av below meth c H locs 0 0 (MQ below (xQ D cid b ex A (some (.int r)) sh dz) av s 0 0 A) (F0 m 23 ls [.ref (b + p0)]) := by
    intro q0 x1 x2 p0 d hf H locs ls hl G
    unfold k_X10_walker_23 at hf
    refine lv_iconst (v := (2 : Int32)) hx hb dX10_walker_23 (by decide) ?_
    refine lv_goto (tgt := 28) hx hb dX10_walker_24 (by decide) ?_
    exact K28 q0 x1 x2 p0 (2 : Int32) d hf _ _ ls (lv_sub hl [0, 1, 2] rfl) G
  unfold f_X10_walker at hf
  refine lv_aload_n hx hb dX10_walker_0 rfl (lv_at hl 0 rfl) ?_
  refine lv_aload_n hx hb dX10_walker_1 rfl (lv_at hl 0 rfl) ?_
  refine lv_iload_n hx hb dX10_walker_2 rfl (lv_at hl 1 rfl) ?_
  obtain ⟨z23, hz23, hf⟩ := x_ob hf
  obtain ⟨hqz23, hz23⟩ := xon_of hz23
  refine xr_callV (ci := 10) (As := [.int x1]) (rest := [.ref (b + q0)]) (st1 := [.int z23.1, .ref (b + q0)]) S G hl.1 (fun _ => rfl) (mt_X10_isWalker l D cid b ex sa sv B0 sh q0 x1 d _ _ hz23) hqz23 (by decide) kw_1504 kw_1506 ks_62 kw_17 kw_1507 hd_X10_isWalker ⟨Nat.le_of_ble_eq_true rfl, Nat.le_of_ble_eq_true rfl⟩ rfl rfl rfl (Nat.le_of_ble_eq_true rfl) ⟨Nat.le_of_ble_eq_true rfl, Nat.le_of_ble_eq_true rfl⟩ dX10_walker_3 (fun H locs G => ?_)
  refine lv_if_ne (tgt := 13) hx hb dX10_walker_6 (by decide) (fun c => ?_) (fun c => ?_)
  · have hf := x_neg c hf
    refine lv_iload_n hx hb dX10_walker_13 rfl (lv_at hl 2 rfl) ?_
    refine lv_if_lt (tgt := 23) hx hb dX10_walker_14 (by decide) (fun c => ?_) (fun c => ?_)
    · have hf := x_pos c hf
      exact K23 q0 x1 x2 q0 z23.2 hf _ _ ls (lv_sub hl [0, 1, 2] rfl) G
    · have hf := x_neg c hf
      refine lv_iload_n hx hb dX10_walker_17 rfl (lv_at hl 2 rfl) ?_
      refine lv_bipush (v := (6 : Int32)) hx hb dX10_walker_18 (by decide) ?_
      refine lv_icmp_le (tgt := 27) hx hb dX10_walker_20 (by decide) (fun c => ?_) (fun c => ?_)
      · have hf := x_pos c hf
        refine lv_iconst (v := (0 : Int32)) hx hb dX10_walker_27 (by decide) ?_
        exact K28 q0 x1 x2 q0 (0 : Int32) z23.2 hf _ _ ls (lv_sub hl [0, 1, 2] rfl) G
      · have hf := x_neg c hf
        exact K23 q0 x1 x2 q0 z23.2 hf _ _ ls (lv_sub hl [0, 1, 2] rfl) G
  · have hf := x_pos c hf
    refine lv_iconst (v := (1 : Int32)) hx hb dX10_walker_9 (by decide) ?_
    refine lv_goto (tgt := 28) hx hb dX10_walker_10 (by decide) ?_
    exact K28 q0 x1 x2 q0 (1 : Int32) z23.2 hf _ _ ls (lv_sub hl [0, 1, 2] rfl) G
-- HalfLandingsModel.bench(II)I
theorem dX10_bench_0 : decode cX10_bench 0 = .ok (.aload_n 0, 1) := by decide +kernel
theorem dX10_bench_1 : decode cX10_bench 1 = .ok (.iconst 0, 1) := by decide +kernel
theorem dX10_bench_2 : decode cX10_bench 2 = .ok (.putfield 145, 3) := by decide +kernel
theorem dX10_bench_5 : decode cX10_bench 5 = .ok (.aload_n 0, 1) := by decide +kernel
theorem dX10_bench_6 : decode cX10_bench 6 = .ok (.iload_n 1, 1) := by decide +kernel
theorem dX10_bench_7 : decode cX10_bench 7 = .ok (.invokevirtual 422, 3) := by decide +kernel
theorem dX10_bench_10 : decode cX10_bench 10 = .ok (.ifCond .ne 5, 3) := by decide +kernel
theorem dX10_bench_13 : decode cX10_bench 13 = .ok (.iconst (-1), 1) := by decide +kernel
theorem dX10_bench_14 : decode cX10_bench 14 = .ok (.ireturn, 1) := by decide +kernel
theorem dX10_bench_15 : decode cX10_bench 15 = .ok (.iload_n 2, 1) := by decide +kernel
theorem dX10_bench_16 : decode cX10_bench 16 = .ok (.tableswitch 71 0 4 #[36, 43, 50, 57, 64], 36) := by decide +kernel
theorem dX10_bench_52 : decode cX10_bench 52 = .ok (.aload_n 0, 1) := by decide +kernel
theorem dX10_bench_53 : decode cX10_bench 53 = .ok (.getfield 19, 3) := by decide +kernel
theorem dX10_bench_56 : decode cX10_bench 56 = .ok (.iload_n 1, 1) := by decide +kernel
theorem dX10_bench_57 : decode cX10_bench 57 = .ok (.iaload, 1) := by decide +kernel
theorem dX10_bench_58 : decode cX10_bench 58 = .ok (.ireturn, 1) := by decide +kernel
theorem dX10_bench_59 : decode cX10_bench 59 = .ok (.aload_n 0, 1) := by decide +kernel
theorem dX10_bench_60 : decode cX10_bench 60 = .ok (.getfield 22, 3) := by decide +kernel
theorem dX10_bench_63 : decode cX10_bench 63 = .ok (.iload_n 1, 1) := by decide +kernel
theorem dX10_bench_64 : decode cX10_bench 64 = .ok (.iaload, 1) := by decide +kernel
theorem dX10_bench_65 : decode cX10_bench 65 = .ok (.ireturn, 1) := by decide +kernel
theorem dX10_bench_66 : decode cX10_bench 66 = .ok (.aload_n 0, 1) := by decide +kernel
theorem dX10_bench_67 : decode cX10_bench 67 = .ok (.getfield 108, 3) := by decide +kernel
theorem dX10_bench_70 : decode cX10_bench 70 = .ok (.iload_n 1, 1) := by decide +kernel
theorem dX10_bench_71 : decode cX10_bench 71 = .ok (.iaload, 1) := by decide +kernel
theorem dX10_bench_72 : decode cX10_bench 72 = .ok (.ireturn, 1) := by decide +kernel
theorem dX10_bench_73 : decode cX10_bench 73 = .ok (.aload_n 0, 1) := by decide +kernel
theorem dX10_bench_74 : decode cX10_bench 74 = .ok (.iconst 0, 1) := by decide +kernel
theorem dX10_bench_75 : decode cX10_bench 75 = .ok (.iload_n 1, 1) := by decide +kernel
theorem dX10_bench_76 : decode cX10_bench 76 = .ok (.invokevirtual 334, 3) := by decide +kernel
theorem dX10_bench_79 : decode cX10_bench 79 = .ok (.ireturn, 1) := by decide +kernel
theorem dX10_bench_80 : decode cX10_bench 80 = .ok (.aload_n 0, 1) := by decide +kernel
theorem dX10_bench_81 : decode cX10_bench 81 = .ok (.iconst 0, 1) := by decide +kernel
theorem dX10_bench_82 : decode cX10_bench 82 = .ok (.iload_n 1, 1) := by decide +kernel
theorem dX10_bench_83 : decode cX10_bench 83 = .ok (.invokevirtual 362, 3) := by decide +kernel
theorem dX10_bench_86 : decode cX10_bench 86 = .ok (.ireturn, 1) := by decide +kernel
theorem dX10_bench_87 : decode cX10_bench 87 = .ok (.iconst (-1), 1) := by decide +kernel
theorem dX10_bench_88 : decode cX10_bench 88 = .ok (.ireturn, 1) := by decide +kernel
theorem hd_X10_bench : yX10_bench.cls = xCn 10 ∧ yX10_bench.cls ≠ "java/lang/invoke/MethodHandle" ∧ yX10_bench.cls ≠ "java/lang/invoke/VarHandle" ∧ (parseMethodDescriptor yX10_bench.desc).map (fun d => d.parameters.length) = some 2 := by decide +kernel
def f_X10_bench (sh : List xSh) (q0 : Nat) (x1 : Int32) (x2 : Int32) (d : xD) : Option (Int32 × xD) :=
  (xpI 10 sh d q0 0 (0 : Int32)).bind fun d1 => (xon 10 sh q0 (f_X10_isBench sh q0 x1 d1)).bind fun z2 => if z2.1 = 0 then (some ((-1 : Int32), z2.2)) else (if x2 = (0 : Int32) then ((xgR 10 sh z2.2 q0 5).bind fun v4 => (xaI .int sh z2.2 v4 x1).bind fun v5 => some (v5, z2.2)) else (if x2 = (1 : Int32) then ((xgR 10 sh z2.2 q0 6).bind fun v7 => (xaI .int sh z2.2 v7 x1).bind fun v8 => some (v8, z2.2)) else (if x2 = (2 : Int32) then ((xgR 10 sh z2.2 q0 47).bind fun v10 => (xaI .int sh z2.2 v10 x1).bind fun v11 => some (v11, z2.2)) else (if x2 = (3 : Int32) then ((xon 10 sh q0 (f_X10_sitting sh q0 (0 : Int32) x1 z2.2)).bind fun z13 => some (z13.1, z13.2)) else (if x2 = (4 : Int32) then ((xon 10 sh q0 (f_X10_freeOn sh q0 (0 : Int32) x1 z2.2)).bind fun z15 => some (z15.1, z15.2)) else (some ((-1 : Int32), z2.2)))))))
set_option maxHeartbeats 4000000 in
set_option maxRecDepth 100000 in
theorem mt_X10_bench (l : Launch) (D : va_G) (cid : FieldType → ClassId) (b : Nat) (ex : Bool) (sa sv B0 : Nat) (sh : List xSh) (q0 : Nat) (x1 : Int32) (x2 : Int32) (d : xD) (r : Int32) (dz : xD) (hf : f_X10_bench sh q0 x1 x2 d = some (r, dz)) : xMet l yX10_bench cX10_bench 3 (some .int) 2 0 0 D cid b ex sa sv B0 [.ref (b + q0), .int x1, .int x2] sh d (some (.int r)) sh dz := by
  refine xMet.of (by decide) (Nat.le_of_ble_eq_true rfl) ?_
  intro p e s m below meth c ls A S hr hin G hl
  have hl : lv_has ls 3 [(0, .ref (b + q0)), (1, .int x1), (2, .int x2)] := hl
  generalize ([.ref (b + q0), .int x1, .int x2] : List Value).toArray = av at S ⊢
  have hx := S.1
  have hb := S.2.1
  have hml := S.2.2.1
  have hown := S.2.2.2.1
  have hts := S.2.2.2.2.1
  unfold f_X10_bench at hf
  refine lv_aload_n hx hb dX10_bench_0 rfl (lv_at hl 0 rfl) ?_
  refine lv_iconst (v := (0 : Int32)) hx hb dX10_bench_1 (by decide) ?_
  obtain ⟨d1, hd1, hf⟩ := x_ob hf
  refine xr_putI (ci := 10) (k := 0) S G hd1 rfl kw_1168 dX10_bench_2 (fun H locs G => ?_)
  refine lv_aload_n hx hb dX10_bench_5 rfl (lv_at hl 0 rfl) ?_
  refine lv_iload_n hx hb dX10_bench_6 rfl (lv_at hl 1 rfl) ?_
  obtain ⟨z2, hz2, hf⟩ := x_ob hf
  obtain ⟨hqz2, hz2⟩ := xon_of hz2
  refine xr_callV (ci := 10) (As := [.int x1]) (rest := []) (st1 := [.int z2.1]) S G hl.1 (fun _ => rfl) (mt_X10_isBench l D cid b ex sa sv B0 sh q0 x1 d1 _ _ hz2) hqz2 (by decide) kw_1512 kw_1514 ks_63 kw_17 kw_1515 hd_X10_isBench ⟨Nat.le_of_ble_eq_true rfl, Nat.le_of_ble_eq_true rfl⟩ rfl rfl rfl (Nat.le_of_ble_eq_true rfl) ⟨Nat.le_of_ble_eq_true rfl, Nat.le_of_ble_eq_true rfl⟩ dX10_bench_7 (fun H locs G => ?_)
  refine lv_if_ne (tgt := 15) hx hb dX10_bench_10 (by decide) (fun c => ?_) (fun c => ?_)
  · have hf := x_neg c hf
    refine lv_iload_n hx hb dX10_bench_15 rfl (lv_at hl 2 rfl) ?_
    by_cases c3 : x2 = (0 : Int32)
    · have hf := x_pos c3 hf
      refine xr_tab (k := (0 : Int32)) (tgt := 52) hx hb c3 dX10_bench_16 (by decide) (by decide) rfl (by decide) ?_
      refine lv_aload_n hx hb dX10_bench_52 rfl (lv_at hl 0 rfl) ?_
      obtain ⟨v4, hv4, hf⟩ := x_ob hf
      refine xr_getR (ci := 10) (k := 5) S G hv4 rfl kw_1173 dX10_bench_53 ?_
      refine lv_iload_n hx hb dX10_bench_56 rfl (lv_at hl 1 rfl) ?_
      obtain ⟨v5, hv5, hf⟩ := x_ob hf
      refine xr_iald S G hv5 dX10_bench_57 ?_
      cases hf
      exact xr_iret S G (fun _ => rfl) hr dX10_bench_58
    · have hf := x_neg c3 hf
      by_cases c6 : x2 = (1 : Int32)
      · have hf := x_pos c6 hf
        refine xr_tab (k := (1 : Int32)) (tgt := 59) hx hb c6 dX10_bench_16 (by decide) (by decide) rfl (by decide) ?_
        refine lv_aload_n hx hb dX10_bench_59 rfl (lv_at hl 0 rfl) ?_
        obtain ⟨v7, hv7, hf⟩ := x_ob hf
        refine xr_getR (ci := 10) (k := 6) S G hv7 rfl kw_1174 dX10_bench_60 ?_
        refine lv_iload_n hx hb dX10_bench_63 rfl (lv_at hl 1 rfl) ?_
        obtain ⟨v8, hv8, hf⟩ := x_ob hf
        refine xr_iald S G hv8 dX10_bench_64 ?_
        cases hf
        exact xr_iret S G (fun _ => rfl) hr dX10_bench_65
      · have hf := x_neg c6 hf
        by_cases c9 : x2 = (2 : Int32)
        · have hf := x_pos c9 hf
          refine xr_tab (k := (2 : Int32)) (tgt := 66) hx hb c9 dX10_bench_16 (by decide) (by decide) rfl (by decide) ?_
          refine lv_aload_n hx hb dX10_bench_66 rfl (lv_at hl 0 rfl) ?_
          obtain ⟨v10, hv10, hf⟩ := x_ob hf
          refine xr_getR (ci := 10) (k := 47) S G hv10 rfl kw_1215 dX10_bench_67 ?_
          refine lv_iload_n hx hb dX10_bench_70 rfl (lv_at hl 1 rfl) ?_
          obtain ⟨v11, hv11, hf⟩ := x_ob hf
          refine xr_iald S G hv11 dX10_bench_71 ?_
          cases hf
          exact xr_iret S G (fun _ => rfl) hr dX10_bench_72
        · have hf := x_neg c9 hf
          by_cases c12 : x2 = (3 : Int32)
          · have hf := x_pos c12 hf
            refine xr_tab (k := (3 : Int32)) (tgt := 73) hx hb c12 dX10_bench_16 (by decide) (by decide) rfl (by decide) ?_
            refine lv_aload_n hx hb dX10_bench_73 rfl (lv_at hl 0 rfl) ?_
            refine lv_iconst (v := (0 : Int32)) hx hb dX10_bench_74 (by decide) ?_
            refine lv_iload_n hx hb dX10_bench_75 rfl (lv_at hl 1 rfl) ?_
            obtain ⟨z13, hz13, hf⟩ := x_ob hf
            obtain ⟨hqz13, hz13⟩ := xon_of hz13
            refine xr_callV (ci := 10) (As := [.int (0 : Int32), .int x1]) (rest := []) (st1 := [.int z13.1]) S G hl.1 (fun _ => rfl) (mt_X10_sitting l D cid b ex sa sv B0 sh q0 (0 : Int32) x1 z2.2 _ _ hz13) hqz13 (by decide) kw_1516 kw_1518 ks_64 kw_17 kw_1519 hd_X10_sitting ⟨Nat.le_of_ble_eq_true rfl, Nat.le_of_ble_eq_true rfl⟩ rfl rfl rfl (Nat.le_of_ble_eq_true rfl) ⟨Nat.le_of_ble_eq_true rfl, Nat.le_of_ble_eq_true rfl⟩ dX10_bench_76 (fun H locs G => ?_)
            cases hf
            exact xr_iret S G (fun _ => rfl) hr dX10_bench_79
          · have hf := x_neg c12 hf
            by_cases c14 : x2 = (4 : Int32)
            · have hf := x_pos c14 hf
              refine xr_tab (k := (4 : Int32)) (tgt := 80) hx hb c14 dX10_bench_16 (by decide) (by decide) rfl (by decide) ?_
              refine lv_aload_n hx hb dX10_bench_80 rfl (lv_at hl 0 rfl) ?_
              refine lv_iconst (v := (0 : Int32)) hx hb dX10_bench_81 (by decide) ?_
              refine lv_iload_n hx hb dX10_bench_82 rfl (lv_at hl 1 rfl) ?_
              obtain ⟨z15, hz15, hf⟩ := x_ob hf
              obtain ⟨hqz15, hz15⟩ := xon_of hz15
              refine xr_callV (ci := 10) (As := [.int (0 : Int32), .int x1]) (rest := []) (st1 := [.int z15.1]) S G hl.1 (fun _ => rfl) (mt_X10_freeOn l D cid b ex sa sv B0 sh q0 (0 : Int32) x1 z2.2 _ _ hz15) hqz15 (by decide) kw_1520 kw_1522 ks_65 kw_17 kw_1523 hd_X10_freeOn ⟨Nat.le_of_ble_eq_true rfl, Nat.le_of_ble_eq_true rfl⟩ rfl rfl rfl (Nat.le_of_ble_eq_true rfl) ⟨Nat.le_of_ble_eq_true rfl, Nat.le_of_ble_eq_true rfl⟩ dX10_bench_83 (fun H locs G => ?_)
              cases hf
              exact xr_iret S G (fun _ => rfl) hr dX10_bench_86
            · have hf := x_neg c14 hf
              have hks : ∀ z ∈ ([0, 1, 2, 3, 4] : List Int), (x2).toInt ≠ z := by
                intro z hz
                simp only [List.mem_cons, List.not_mem_nil, or_false] at hz
                rcases hz with rfl | rfl | rfl | rfl | rfl
                · exact x_toInt_ne 0 c3 (by decide)
                · exact x_toInt_ne 1 c6 (by decide)
                · exact x_toInt_ne 2 c9 (by decide)
                · exact x_toInt_ne 3 c12 (by decide)
                · exact x_toInt_ne 4 c14 (by decide)
              refine xr_tabD (tgt := 87) [0, 1, 2, 3, 4] hx hb dX10_bench_16 hks (by decide) (by decide) (by decide) ?_
              refine lv_iconst (v := (-1 : Int32)) hx hb dX10_bench_87 (by decide) ?_
              cases hf
              exact xr_iret S G (fun _ => rfl) hr dX10_bench_88
  · have hf := x_pos c hf
    refine lv_iconst (v := (-1 : Int32)) hx hb dX10_bench_13 (by decide) ?_
    cases hf
    exact xr_iret S G (fun _ => rfl) hr dX10_bench_14
-- HalfLandingsModel.restOf(II)I
theorem dX10_restOf_0 : decode cX10_restOf 0 = .ok (.aload_n 0, 1) := by decide +kernel
theorem dX10_restOf_1 : decode cX10_restOf 1 = .ok (.iconst 0, 1) := by decide +kernel
theorem dX10_restOf_2 : decode cX10_restOf 2 = .ok (.putfield 145, 3) := by decide +kernel
theorem dX10_restOf_5 : decode cX10_restOf 5 = .ok (.iload_n 1, 1) := by decide +kernel
theorem dX10_restOf_6 : decode cX10_restOf 6 = .ok (.ifCond .lt 13, 3) := by decide +kernel
theorem dX10_restOf_9 : decode cX10_restOf 9 = .ok (.iload_n 1, 1) := by decide +kernel
theorem dX10_restOf_10 : decode cX10_restOf 10 = .ok (.aload_n 0, 1) := by decide +kernel
theorem dX10_restOf_11 : decode cX10_restOf 11 = .ok (.getfield 13, 3) := by decide +kernel
theorem dX10_restOf_14 : decode cX10_restOf 14 = .ok (.iconst 3, 1) := by decide +kernel
theorem dX10_restOf_15 : decode cX10_restOf 15 = .ok (.iaload, 1) := by decide +kernel
theorem dX10_restOf_16 : decode cX10_restOf 16 = .ok (.if_icmp .lt 5, 3) := by decide +kernel
theorem dX10_restOf_19 : decode cX10_restOf 19 = .ok (.iconst (-1), 1) := by decide +kernel
theorem dX10_restOf_20 : decode cX10_restOf 20 = .ok (.ireturn, 1) := by decide +kernel
theorem dX10_restOf_21 : decode cX10_restOf 21 = .ok (.iload_n 2, 1) := by decide +kernel
theorem dX10_restOf_22 : decode cX10_restOf 22 = .ok (.ifCond .ne 12, 3) := by decide +kernel
theorem dX10_restOf_25 : decode cX10_restOf 25 = .ok (.aload_n 0, 1) := by decide +kernel
theorem dX10_restOf_26 : decode cX10_restOf 26 = .ok (.getfield 40, 3) := by decide +kernel
theorem dX10_restOf_29 : decode cX10_restOf 29 = .ok (.iload_n 1, 1) := by decide +kernel
theorem dX10_restOf_30 : decode cX10_restOf 30 = .ok (.iaload, 1) := by decide +kernel
theorem dX10_restOf_31 : decode cX10_restOf 31 = .ok (.goto 50, 3) := by decide +kernel
theorem dX10_restOf_34 : decode cX10_restOf 34 = .ok (.iload_n 2, 1) := by decide +kernel
theorem dX10_restOf_35 : decode cX10_restOf 35 = .ok (.iconst 1, 1) := by decide +kernel
theorem dX10_restOf_36 : decode cX10_restOf 36 = .ok (.if_icmp .ne 12, 3) := by decide +kernel
theorem dX10_restOf_39 : decode cX10_restOf 39 = .ok (.aload_n 0, 1) := by decide +kernel
theorem dX10_restOf_40 : decode cX10_restOf 40 = .ok (.getfield 43, 3) := by decide +kernel
theorem dX10_restOf_43 : decode cX10_restOf 43 = .ok (.iload_n 1, 1) := by decide +kernel
theorem dX10_restOf_44 : decode cX10_restOf 44 = .ok (.iaload, 1) := by decide +kernel
theorem dX10_restOf_45 : decode cX10_restOf 45 = .ok (.goto 36, 3) := by decide +kernel
theorem dX10_restOf_48 : decode cX10_restOf 48 = .ok (.iload_n 2, 1) := by decide +kernel
theorem dX10_restOf_49 : decode cX10_restOf 49 = .ok (.iconst 2, 1) := by decide +kernel
theorem dX10_restOf_50 : decode cX10_restOf 50 = .ok (.if_icmp .ne 12, 3) := by decide +kernel
theorem dX10_restOf_53 : decode cX10_restOf 53 = .ok (.aload_n 0, 1) := by decide +kernel
theorem dX10_restOf_54 : decode cX10_restOf 54 = .ok (.getfield 46, 3) := by decide +kernel
theorem dX10_restOf_57 : decode cX10_restOf 57 = .ok (.iload_n 1, 1) := by decide +kernel
theorem dX10_restOf_58 : decode cX10_restOf 58 = .ok (.iaload, 1) := by decide +kernel
theorem dX10_restOf_59 : decode cX10_restOf 59 = .ok (.goto 22, 3) := by decide +kernel
theorem dX10_restOf_62 : decode cX10_restOf 62 = .ok (.iload_n 2, 1) := by decide +kernel
theorem dX10_restOf_63 : decode cX10_restOf 63 = .ok (.iconst 3, 1) := by decide +kernel
theorem dX10_restOf_64 : decode cX10_restOf 64 = .ok (.if_icmp .ne 16, 3) := by decide +kernel
theorem dX10_restOf_67 : decode cX10_restOf 67 = .ok (.aload_n 0, 1) := by decide +kernel
theorem dX10_restOf_68 : decode cX10_restOf 68 = .ok (.getfield 84, 3) := by decide +kernel
theorem dX10_restOf_71 : decode cX10_restOf 71 = .ok (.iconst 0, 1) := by decide +kernel
theorem dX10_restOf_72 : decode cX10_restOf 72 = .ok (.iaload, 1) := by decide +kernel
theorem dX10_restOf_73 : decode cX10_restOf 73 = .ok (.iload_n 1, 1) := by decide +kernel
theorem dX10_restOf_74 : decode cX10_restOf 74 = .ok (.ishr, 1) := by decide +kernel
theorem dX10_restOf_75 : decode cX10_restOf 75 = .ok (.iconst 1, 1) := by decide +kernel
theorem dX10_restOf_76 : decode cX10_restOf 76 = .ok (.iand, 1) := by decide +kernel
theorem dX10_restOf_77 : decode cX10_restOf 77 = .ok (.goto 4, 3) := by decide +kernel
theorem dX10_restOf_80 : decode cX10_restOf 80 = .ok (.iconst (-1), 1) := by decide +kernel
theorem dX10_restOf_81 : decode cX10_restOf 81 = .ok (.ireturn, 1) := by decide +kernel
theorem hd_X10_restOf : yX10_restOf.cls = xCn 10 ∧ yX10_restOf.cls ≠ "java/lang/invoke/MethodHandle" ∧ yX10_restOf.cls ≠ "java/lang/invoke/VarHandle" ∧ (parseMethodDescriptor yX10_restOf.desc).map (fun d => d.parameters.length) = some 2 := by decide +kernel
def k_X10_restOf_19 (sh : List xSh) (d : xD) : Option (Int32 × xD) :=
  some ((-1 : Int32), d)
def k_X10_restOf_81 (sh : List xSh) (y0 : Int32) (d : xD) : Option (Int32 × xD) :=
  some (y0, d)
def f_X10_restOf (sh : List xSh) (q0 : Nat) (x1 : Int32) (x2 : Int32) (d : xD) : Option (Int32 × xD) :=
  (xpI 10 sh d q0 0 (0 : Int32)).bind fun d1 => if x1 < 0 then (k_X10_restOf_19 sh d1) else ((xgR 10 sh d1 q0 3).bind fun v2 => (xaI .int sh d1 v2 (3 : Int32)).bind fun v3 => if x1 < v3 then (if x2 = 0 then ((xgR 10 sh d1 q0 12).bind fun v10 => (xaI .int sh d1 v10 x1).bind fun v11 => k_X10_restOf_81 sh v11 d1) else (if x2 = (1 : Int32) then ((xgR 10 sh d1 q0 13).bind fun v8 => (xaI .int sh d1 v8 x1).bind fun v9 => k_X10_restOf_81 sh v9 d1) else (if x2 = (2 : Int32) then ((xgR 10 sh d1 q0 14).bind fun v6 => (xaI .int sh d1 v6 x1).bind fun v7 => k_X10_restOf_81 sh v7 d1) else (if x2 = (3 : Int32) then ((xgR 10 sh d1 q0 39).bind fun v4 => (xaI .int sh d1 v4 (0 : Int32)).bind fun v5 => k_X10_restOf_81 sh ((v5 >>> (x1 &&& 31)) &&& (1 : Int32)) d1) else (k_X10_restOf_81 sh (-1 : Int32) d1))))) else (k_X10_restOf_19 sh d1))
set_option maxHeartbeats 4000000 in
set_option maxRecDepth 100000 in
theorem mt_X10_restOf (l : Launch) (D : va_G) (cid : FieldType → ClassId) (b : Nat) (ex : Bool) (sa sv B0 : Nat) (sh : List xSh) (q0 : Nat) (x1 : Int32) (x2 : Int32) (d : xD) (r : Int32) (dz : xD) (hf : f_X10_restOf sh q0 x1 x2 d = some (r, dz)) : xMet l yX10_restOf cX10_restOf 3 (some .int) 0 0 0 D cid b ex sa sv B0 [.ref (b + q0), .int x1, .int x2] sh d (some (.int r)) sh dz := by
  refine xMet.of (by decide) (Nat.le_of_ble_eq_true rfl) ?_
  intro p e s m below meth c ls A S hr hin G hl
  have hl : lv_has ls 3 [(0, .ref (b + q0)), (1, .int x1), (2, .int x2)] := hl
  generalize ([.ref (b + q0), .int x1, .int x2] : List Value).toArray = av at S ⊢
  have hx := S.1
  have hb := S.2.1
  have hml := S.2.2.1
  have hown := S.2.2.2.1
  have hts := S.2.2.2.2.1
  have K19 : ∀ (d : xD), k_X10_restOf_19 sh d = some (r, dz) → ∀ (H : Heap) (locs : List Loc) (ls : Array Slot), lv_has ls 3 [] → xG D cid b A sh d s H locs → W p l e (xRm 0 0 0) s m av below meth c H locs 0 0 (MQ below (xQ D cid b ex A (some (.int r)) sh dz) av s 0 0 A) (F0 m 19 ls []) := by
    intro d hf H locs ls hl G
    unfold k_X10_restOf_19 at hf
    refine lv_iconst (v := (-1 : Int32)) hx hb dX10_restOf_19 (by decide) ?_
    cases hf
    exact xr_iret S G (fun _ => rfl) hr dX10_restOf_20
  have K81 : ∀ (y0 : Int32) (d : xD), k_X10_restOf_81 sh y0 d = some (r, dz) → ∀ (H : Heap) (locs : List Loc) (ls : Array Slot), lv_has ls 3 [] → xG D cid b A sh d s H locs → W p l e (xRm 0 0 0) s m av below meth c H locs 0 0 (MQ below (xQ D cid b ex A (some (.int r)) sh dz) av s 0 0 A) (F0 m 81 ls [.int y0]) := by
    intro y0 d hf H locs ls hl G
    unfold k_X10_restOf_81 at hf
    cases hf
    exact xr_iret S G (fun _ => rfl) hr dX10_restOf_81
  unfold f_X10_restOf at hf
  refine lv_aload_n hx hb dX10_restOf_0 rfl (lv_at hl 0 rfl) ?_
  refine lv_iconst (v := (0 : Int32)) hx hb dX10_restOf_1 (by decide) ?_
  obtain ⟨d1, hd1, hf⟩ := x_ob hf
  refine xr_putI (ci := 10) (k := 0) S G hd1 rfl kw_1168 dX10_restOf_2 (fun H locs G => ?_)
  refine lv_iload_n hx hb dX10_restOf_5 rfl (lv_at hl 1 rfl) ?_
  refine lv_if_lt (tgt := 19) hx hb dX10_restOf_6 (by decide) (fun c => ?_) (fun c => ?_)
  · have hf := x_pos c hf
    exact K19 d1 hf _ _ ls (lv_sub hl [] rfl) G
  · have hf := x_neg c hf
    refine lv_iload_n hx hb dX10_restOf_9 rfl (lv_at hl 1 rfl) ?_
    refine lv_aload_n hx hb dX10_restOf_10 rfl (lv_at hl 0 rfl) ?_
    obtain ⟨v2, hv2, hf⟩ := x_ob hf
    refine xr_getR (ci := 10) (k := 3) S G hv2 rfl kw_1171 dX10_restOf_11 ?_
    refine lv_iconst (v := (3 : Int32)) hx hb dX10_restOf_14 (by decide) ?_
    obtain ⟨v3, hv3, hf⟩ := x_ob hf
    refine xr_iald S G hv3 dX10_restOf_15 ?_
    refine lv_icmp_lt (tgt := 21) hx hb dX10_restOf_16 (by decide) (fun c => ?_) (fun c => ?_)
    · have hf := x_pos c hf
      refine lv_iload_n hx hb dX10_restOf_21 rfl (lv_at hl 2 rfl) ?_
      refine lv_if_ne (tgt := 34) hx hb dX10_restOf_22 (by decide) (fun c => ?_) (fun c => ?_)
      · have hf := x_neg c hf
        refine lv_iload_n hx hb dX10_restOf_34 rfl (lv_at hl 2 rfl) ?_
        refine lv_iconst (v := (1 : Int32)) hx hb dX10_restOf_35 (by decide) ?_
        refine lv_icmp_ne (tgt := 48) hx hb dX10_restOf_36 (by decide) (fun c => ?_) (fun c => ?_)
        · have hf := x_neg c hf
          refine lv_iload_n hx hb dX10_restOf_48 rfl (lv_at hl 2 rfl) ?_
          refine lv_iconst (v := (2 : Int32)) hx hb dX10_restOf_49 (by decide) ?_
          refine lv_icmp_ne (tgt := 62) hx hb dX10_restOf_50 (by decide) (fun c => ?_) (fun c => ?_)
          · have hf := x_neg c hf
            refine lv_iload_n hx hb dX10_restOf_62 rfl (lv_at hl 2 rfl) ?_
            refine lv_iconst (v := (3 : Int32)) hx hb dX10_restOf_63 (by decide) ?_
            refine lv_icmp_ne (tgt := 80) hx hb dX10_restOf_64 (by decide) (fun c => ?_) (fun c => ?_)
            · have hf := x_neg c hf
              refine lv_iconst (v := (-1 : Int32)) hx hb dX10_restOf_80 (by decide) ?_
              exact K81 (-1 : Int32) d1 hf _ _ ls (lv_sub hl [] rfl) G
            · have hf := x_pos c hf
              refine lv_aload_n hx hb dX10_restOf_67 rfl (lv_at hl 0 rfl) ?_
              obtain ⟨v4, hv4, hf⟩ := x_ob hf
              refine xr_getR (ci := 10) (k := 39) S G hv4 rfl kw_1207 dX10_restOf_68 ?_
              refine lv_iconst (v := (0 : Int32)) hx hb dX10_restOf_71 (by decide) ?_
              obtain ⟨v5, hv5, hf⟩ := x_ob hf
              refine xr_iald S G hv5 dX10_restOf_72 ?_
              refine lv_iload_n hx hb dX10_restOf_73 rfl (lv_at hl 1 rfl) ?_
              refine lv_ishr hx hb dX10_restOf_74 ?_
              refine lv_iconst (v := (1 : Int32)) hx hb dX10_restOf_75 (by decide) ?_
              refine lv_iand hx hb dX10_restOf_76 ?_
              refine lv_goto (tgt := 81) hx hb dX10_restOf_77 (by decide) ?_
              exact K81 ((v5 >>> (x1 &&& 31)) &&& (1 : Int32)) d1 hf _ _ ls (lv_sub hl [] rfl) G
          · have hf := x_pos c hf
            refine lv_aload_n hx hb dX10_restOf_53 rfl (lv_at hl 0 rfl) ?_
            obtain ⟨v6, hv6, hf⟩ := x_ob hf
            refine xr_getR (ci := 10) (k := 14) S G hv6 rfl kw_1182 dX10_restOf_54 ?_
            refine lv_iload_n hx hb dX10_restOf_57 rfl (lv_at hl 1 rfl) ?_
            obtain ⟨v7, hv7, hf⟩ := x_ob hf
            refine xr_iald S G hv7 dX10_restOf_58 ?_
            refine lv_goto (tgt := 81) hx hb dX10_restOf_59 (by decide) ?_
            exact K81 v7 d1 hf _ _ ls (lv_sub hl [] rfl) G
        · have hf := x_pos c hf
          refine lv_aload_n hx hb dX10_restOf_39 rfl (lv_at hl 0 rfl) ?_
          obtain ⟨v8, hv8, hf⟩ := x_ob hf
          refine xr_getR (ci := 10) (k := 13) S G hv8 rfl kw_1181 dX10_restOf_40 ?_
          refine lv_iload_n hx hb dX10_restOf_43 rfl (lv_at hl 1 rfl) ?_
          obtain ⟨v9, hv9, hf⟩ := x_ob hf
          refine xr_iald S G hv9 dX10_restOf_44 ?_
          refine lv_goto (tgt := 81) hx hb dX10_restOf_45 (by decide) ?_
          exact K81 v9 d1 hf _ _ ls (lv_sub hl [] rfl) G
      · have hf := x_pos c hf
        refine lv_aload_n hx hb dX10_restOf_25 rfl (lv_at hl 0 rfl) ?_
        obtain ⟨v10, hv10, hf⟩ := x_ob hf
        refine xr_getR (ci := 10) (k := 12) S G hv10 rfl kw_1180 dX10_restOf_26 ?_
        refine lv_iload_n hx hb dX10_restOf_29 rfl (lv_at hl 1 rfl) ?_
        obtain ⟨v11, hv11, hf⟩ := x_ob hf
        refine xr_iald S G hv11 dX10_restOf_30 ?_
        refine lv_goto (tgt := 81) hx hb dX10_restOf_31 (by decide) ?_
        exact K81 v11 d1 hf _ _ ls (lv_sub hl [] rfl) G
    · have hf := x_neg c hf
      exact K19 d1 hf _ _ ls (lv_sub hl [] rfl) G
-- HalfLandingsModel.piano()I
theorem dX10_piano_0 : decode cX10_piano 0 = .ok (.aload_n 0, 1) := by decide +kernel
theorem dX10_piano_1 : decode cX10_piano 1 = .ok (.iconst 0, 1) := by decide +kernel
theorem dX10_piano_2 : decode cX10_piano 2 = .ok (.putfield 145, 3) := by decide +kernel
theorem dX10_piano_5 : decode cX10_piano 5 = .ok (.aload_n 0, 1) := by decide +kernel
theorem dX10_piano_6 : decode cX10_piano 6 = .ok (.getfield 81, 3) := by decide +kernel
theorem dX10_piano_9 : decode cX10_piano 9 = .ok (.iconst 0, 1) := by decide +kernel
theorem dX10_piano_10 : decode cX10_piano 10 = .ok (.iaload, 1) := by decide +kernel
theorem dX10_piano_11 : decode cX10_piano 11 = .ok (.ifCond .ne 8, 3) := by decide +kernel
theorem dX10_piano_14 : decode cX10_piano 14 = .ok (.bipush (-2), 2) := by decide +kernel
theorem dX10_piano_16 : decode cX10_piano 16 = .ok (.goto 9, 3) := by decide +kernel
theorem dX10_piano_19 : decode cX10_piano 19 = .ok (.aload_n 0, 1) := by decide +kernel
theorem dX10_piano_20 : decode cX10_piano 20 = .ok (.getfield 81, 3) := by decide +kernel
theorem dX10_piano_23 : decode cX10_piano 23 = .ok (.iconst 0, 1) := by decide +kernel
theorem dX10_piano_24 : decode cX10_piano 24 = .ok (.iaload, 1) := by decide +kernel
theorem dX10_piano_25 : decode cX10_piano 25 = .ok (.ireturn, 1) := by decide +kernel
theorem hd_X10_piano : yX10_piano.cls = xCn 10 ∧ yX10_piano.cls ≠ "java/lang/invoke/MethodHandle" ∧ yX10_piano.cls ≠ "java/lang/invoke/VarHandle" ∧ (parseMethodDescriptor yX10_piano.desc).map (fun d => d.parameters.length) = some 0 := by decide +kernel
def k_X10_piano_25 (sh : List xSh) (y0 : Int32) (d : xD) : Option (Int32 × xD) :=
  some (y0, d)
def f_X10_piano (sh : List xSh) (q0 : Nat) (d : xD) : Option (Int32 × xD) :=
  (xpI 10 sh d q0 0 (0 : Int32)).bind fun d1 => (xgR 10 sh d1 q0 38).bind fun v2 => (xaI .int sh d1 v2 (0 : Int32)).bind fun v3 => if v3 = 0 then (k_X10_piano_25 sh (-2 : Int32) d1) else ((xgR 10 sh d1 q0 38).bind fun v4 => (xaI .int sh d1 v4 (0 : Int32)).bind fun v5 => k_X10_piano_25 sh v5 d1)
set_option maxHeartbeats 4000000 in
set_option maxRecDepth 100000 in
theorem mt_X10_piano (l : Launch) (D : va_G) (cid : FieldType → ClassId) (b : Nat) (ex : Bool) (sa sv B0 : Nat) (sh : List xSh) (q0 : Nat) (d : xD) (r : Int32) (dz : xD) (hf : f_X10_piano sh q0 d = some (r, dz)) : xMet l yX10_piano cX10_piano 1 (some .int) 0 0 0 D cid b ex sa sv B0 [.ref (b + q0)] sh d (some (.int r)) sh dz := by
  refine xMet.of (by decide) (Nat.le_of_ble_eq_true rfl) ?_
  intro p e s m below meth c ls A S hr hin G hl
  have hl : lv_has ls 1 [(0, .ref (b + q0))] := hl
  generalize ([.ref (b + q0)] : List Value).toArray = av at S ⊢
  have hx := S.1
  have hb := S.2.1
  have hml := S.2.2.1
  have hown := S.2.2.2.1
  have hts := S.2.2.2.2.1
  have K25 : ∀ (y0 : Int32) (d : xD), k_X10_piano_25 sh y0 d = some (r, dz) → ∀ (H : Heap) (locs : List Loc) (ls : Array Slot), lv_has ls 1 [] → xG D cid b A sh d s H locs → W p l e (xRm 0 0 0) s m av below meth c H locs 0 0 (MQ below (xQ D cid b ex A (some (.int r)) sh dz) av s 0 0 A) (F0 m 25 ls [.int y0]) := by
    intro y0 d hf H locs ls hl G
    unfold k_X10_piano_25 at hf
    cases hf
    exact xr_iret S G (fun _ => rfl) hr dX10_piano_25
  unfold f_X10_piano at hf
  refine lv_aload_n hx hb dX10_piano_0 rfl (lv_at hl 0 rfl) ?_
  refine lv_iconst (v := (0 : Int32)) hx hb dX10_piano_1 (by decide) ?_
  obtain ⟨d1, hd1, hf⟩ := x_ob hf
  refine xr_putI (ci := 10) (k := 0) S G hd1 rfl kw_1168 dX10_piano_2 (fun H locs G => ?_)
  refine lv_aload_n hx hb dX10_piano_5 rfl (lv_at hl 0 rfl) ?_
  obtain ⟨v2, hv2, hf⟩ := x_ob hf
  refine xr_getR (ci := 10) (k := 38) S G hv2 rfl kw_1206 dX10_piano_6 ?_
  refine lv_iconst (v := (0 : Int32)) hx hb dX10_piano_9 (by decide) ?_
  obtain ⟨v3, hv3, hf⟩ := x_ob hf
  refine xr_iald S G hv3 dX10_piano_10 ?_
  refine lv_if_ne (tgt := 19) hx hb dX10_piano_11 (by decide) (fun c => ?_) (fun c => ?_)
  · have hf := x_neg c hf
    refine lv_aload_n hx hb dX10_piano_19 rfl (lv_at hl 0 rfl) ?_
    obtain ⟨v4, hv4, hf⟩ := x_ob hf
    refine xr_getR (ci := 10) (k := 38) S G hv4 rfl kw_1206 dX10_piano_20 ?_
    refine lv_iconst (v := (0 : Int32)) hx hb dX10_piano_23 (by decide) ?_
    obtain ⟨v5, hv5, hf⟩ := x_ob hf
    refine xr_iald S G hv5 dX10_piano_24 ?_
    exact K25 v5 d1 hf _ _ ls (lv_sub hl [] rfl) G
  · have hf := x_pos c hf
    refine lv_bipush (v := (-2 : Int32)) hx hb dX10_piano_14 (by decide) ?_
    refine lv_goto (tgt := 25) hx hb dX10_piano_16 (by decide) ?_
    exact K25 (-2 : Int32) d1 hf _ _ ls (lv_sub hl [] rfl) G
-- HalfLandingsModel.law(III)J
theorem dX10_law_0 : decode cX10_law 0 = .ok (.aload_n 0, 1) := by decide +kernel
theorem dX10_law_1 : decode cX10_law 1 = .ok (.iconst 0, 1) := by decide +kernel
theorem dX10_law_2 : decode cX10_law 2 = .ok (.putfield 145, 3) := by decide +kernel
theorem dX10_law_5 : decode cX10_law 5 = .ok (.iload_n 1, 1) := by decide +kernel
theorem dX10_law_6 : decode cX10_law 6 = .ok (.ifCond .lt 32, 3) := by decide +kernel
theorem dX10_law_9 : decode cX10_law 9 = .ok (.iload_n 1, 1) := by decide +kernel
theorem dX10_law_10 : decode cX10_law 10 = .ok (.iconst 2, 1) := by decide +kernel
theorem dX10_law_11 : decode cX10_law 11 = .ok (.if_icmp .gt 27, 3) := by decide +kernel
theorem dX10_law_14 : decode cX10_law 14 = .ok (.aload_n 0, 1) := by decide +kernel
theorem dX10_law_15 : decode cX10_law 15 = .ok (.iload_n 1, 1) := by decide +kernel
theorem dX10_law_16 : decode cX10_law 16 = .ok (.invokevirtual 343, 3) := by decide +kernel
theorem dX10_law_19 : decode cX10_law 19 = .ok (.ifCond .eq 19, 3) := by decide +kernel
theorem dX10_law_22 : decode cX10_law 22 = .ok (.aload_n 0, 1) := by decide +kernel
theorem dX10_law_23 : decode cX10_law 23 = .ok (.iload_n 2, 1) := by decide +kernel
theorem dX10_law_24 : decode cX10_law 24 = .ok (.invokevirtual 419, 3) := by decide +kernel
theorem dX10_law_27 : decode cX10_law 27 = .ok (.ifCond .eq 11, 3) := by decide +kernel
theorem dX10_law_30 : decode cX10_law 30 = .ok (.aload_n 0, 1) := by decide +kernel
theorem dX10_law_31 : decode cX10_law 31 = .ok (.iload_n 3, 1) := by decide +kernel
theorem dX10_law_32 : decode cX10_law 32 = .ok (.invokevirtual 422, 3) := by decide +kernel
theorem dX10_law_35 : decode cX10_law 35 = .ok (.ifCond .ne 7, 3) := by decide +kernel
theorem dX10_law_38 : decode cX10_law 38 = .ok (.ldc2_w 427, 3) := by decide +kernel
theorem dX10_law_41 : decode cX10_law 41 = .ok (.lreturn, 1) := by decide +kernel
theorem dX10_law_42 : decode cX10_law 42 = .ok (.aload_n 0, 1) := by decide +kernel
theorem dX10_law_43 : decode cX10_law 43 = .ok (.iconst 0, 1) := by decide +kernel
theorem dX10_law_44 : decode cX10_law 44 = .ok (.iload_n 2, 1) := by decide +kernel
theorem dX10_law_45 : decode cX10_law 45 = .ok (.iload_n 3, 1) := by decide +kernel
theorem dX10_law_46 : decode cX10_law 46 = .ok (.invokevirtual 375, 3) := by decide +kernel
theorem dX10_law_49 : decode cX10_law 49 = .ok (.aload_n 0, 1) := by decide +kernel
theorem dX10_law_50 : decode cX10_law 50 = .ok (.iload_n 1, 1) := by decide +kernel
theorem dX10_law_51 : decode cX10_law 51 = .ok (.invokevirtual 346, 3) := by decide +kernel
theorem dX10_law_54 : decode cX10_law 54 = .ok (.ifCond .eq 12, 3) := by decide +kernel
theorem dX10_law_57 : decode cX10_law 57 = .ok (.aload_n 0, 1) := by decide +kernel
theorem dX10_law_58 : decode cX10_law 58 = .ok (.getfield 69, 3) := by decide +kernel
theorem dX10_law_61 : decode cX10_law 61 = .ok (.iconst 0, 1) := by decide +kernel
theorem dX10_law_62 : decode cX10_law 62 = .ok (.laload, 1) := by decide +kernel
theorem dX10_law_63 : decode cX10_law 63 = .ok (.goto 6, 3) := by decide +kernel
theorem dX10_law_66 : decode cX10_law 66 = .ok (.ldc2_w 427, 3) := by decide +kernel
theorem dX10_law_69 : decode cX10_law 69 = .ok (.lreturn, 1) := by decide +kernel
theorem hd_X10_law : yX10_law.cls = xCn 10 ∧ yX10_law.cls ≠ "java/lang/invoke/MethodHandle" ∧ yX10_law.cls ≠ "java/lang/invoke/VarHandle" ∧ (parseMethodDescriptor yX10_law.desc).map (fun d => d.parameters.length) = some 3 := by decide +kernel
def k_X10_law_38 (sh : List xSh) (d : xD) : Option (Int64 × xD) :=
  some ((-9223372036854775808 : Int64), d)
def k_X10_law_69 (sh : List xSh) (y0 : Int64) (d : xD) : Option (Int64 × xD) :=
  some (y0, d)
def f_X10_law (sh : List xSh) (q0 : Nat) (x1 : Int32) (x2 : Int32) (x3 : Int32) (d : xD) : Option (Int64 × xD) :=
  (xpI 10 sh d q0 0 (0 : Int32)).bind fun d1 => if x1 < 0 then (k_X10_law_38 sh d1) else (if (2 : Int32) < x1 then (k_X10_law_38 sh d1) else ((xon 10 sh q0 (f_X10_hasLaw sh q0 x1 d1)).bind fun z2 => if z2.1 = 0 then (k_X10_law_38 sh z2.2) else ((xon 10 sh q0 (f_X10_isWalker sh q0 x2 z2.2)).bind fun z3 => if z3.1 = 0 then (k_X10_law_38 sh z3.2) else ((xon 10 sh q0 (f_X10_isBench sh q0 x3 z3.2)).bind fun z4 => if z4.1 = 0 then (k_X10_law_38 sh z4.2) else ((xon 10 sh q0 (f_X10_calls sh q0 (0 : Int32) x2 x3 z4.2)).bind fun d5 => (xon 10 sh q0 (f_X10_goes sh q0 x1 d5)).bind fun z6 => if z6.1 = 0 then (k_X10_law_69 sh (-9223372036854775808 : Int64) z6.2) else ((xgR 10 sh z6.2 q0 33).bind fun v7 => (xaL sh z6.2 v7 (0 : Int32)).bind fun v8 => k_X10_law_69 sh v8 z6.2))))))
set_option maxHeartbeats 4000000 in
set_option maxRecDepth 100000 in
theorem mt_X10_law (l : Launch) (D : va_G) (cid : FieldType → ClassId) (b : Nat) (ex : Bool) (sa sv B0 : Nat) (sh : List xSh) (q0 : Nat) (x1 : Int32) (x2 : Int32) (x3 : Int32) (d : xD) (r : Int64) (dz : xD) (hf : f_X10_law sh q0 x1 x2 x3 d = some (r, dz)) : xMet l yX10_law cX10_law 4 (some .long) 3 0 0 D cid b ex sa sv B0 [.ref (b + q0), .int x1, .int x2, .int x3] sh d (some (.long r)) sh dz := by
  refine xMet.of (by decide) (Nat.le_of_ble_eq_true rfl) ?_
  intro p e s m below meth c ls A S hr hin G hl
  have hl : lv_has ls 4 [(0, .ref (b + q0)), (1, .int x1), (2, .int x2), (3, .int x3)] := hl
  generalize ([.ref (b + q0), .int x1, .int x2, .int x3] : List Value).toArray = av at S ⊢
  have hx := S.1
  have hb := S.2.1
  have hml := S.2.2.1
  have hown := S.2.2.2.1
  have hts := S.2.2.2.2.1
  have K38 : ∀ (d : xD), k_X10_law_38 sh d = some (r, dz) → ∀ (H : Heap) (locs : List Loc) (ls : Array Slot), lv_has ls 4 [] → xG D cid b A sh d s H locs → W p l e (xRm 3 0 0) s m av below meth c H locs 0 0 (MQ below (xQ D cid b ex A (some (.long r)) sh dz) av s 0 0 A) (F0 m 38 ls []) := by
    intro d hf H locs ls hl G
    unfold k_X10_law_38 at hf
    refine lv_ldc2 (v := (-9223372036854775808 : Int64)) hx hb hown (hts _ kw_1543) dX10_law_38 ?_
    cases hf
    exact xr_lret S G (fun _ => rfl) hr dX10_law_41
  have K69 : ∀ (y0 : Int64) (d : xD), k_X10_law_69 sh y0 d = some (r, dz) → ∀ (H : Heap) (locs : List Loc) (ls : Array Slot), lv_has ls 4 [] → xG D cid b A sh d s H locs → W p l e (xRm 3 0 0) s m av below meth c H locs 0 0 (MQ below (xQ D cid b ex A (some (.long r)) sh dz) av s 0 0 A) (F0 m 69 ls [.long y0]) := by
    intro y0 d hf H locs ls hl G
    unfold k_X10_law_69 at hf
    cases hf
    exact xr_lret S G (fun _ => rfl) hr dX10_law_69
  unfold f_X10_law at hf
  refine lv_aload_n hx hb dX10_law_0 rfl (lv_at hl 0 rfl) ?_
  refine lv_iconst (v := (0 : Int32)) hx hb dX10_law_1 (by decide) ?_
  obtain ⟨d1, hd1, hf⟩ := x_ob hf
  refine xr_putI (ci := 10) (k := 0) S G hd1 rfl kw_1168 dX10_law_2 (fun H locs G => ?_)
  refine lv_iload_n hx hb dX10_law_5 rfl (lv_at hl 1 rfl) ?_
  refine lv_if_lt (tgt := 38) hx hb dX10_law_6 (by decide) (fun c => ?_) (fun c => ?_)
  · have hf := x_pos c hf
    exact K38 d1 hf _ _ ls (lv_sub hl [] rfl) G
  · have hf := x_neg c hf
    refine lv_iload_n hx hb dX10_law_9 rfl (lv_at hl 1 rfl) ?_
    refine lv_iconst (v := (2 : Int32)) hx hb dX10_law_10 (by decide) ?_
    refine lv_icmp_gt (tgt := 38) hx hb dX10_law_11 (by decide) (fun c => ?_) (fun c => ?_)
    · have hf := x_pos c hf
      exact K38 d1 hf _ _ ls (lv_sub hl [] rfl) G
    · have hf := x_neg c hf
      refine lv_aload_n hx hb dX10_law_14 rfl (lv_at hl 0 rfl) ?_
      refine lv_iload_n hx hb dX10_law_15 rfl (lv_at hl 1 rfl) ?_
      obtain ⟨z2, hz2, hf⟩ := x_ob hf
      obtain ⟨hqz2, hz2⟩ := xon_of hz2
      refine xr_callV (ci := 10) (As := [.int x1]) (rest := []) (st1 := [.int z2.1]) S G hl.1 (fun _ => rfl) (mt_X10_hasLaw l D cid b ex sa sv B0 sh q0 x1 d1 _ _ hz2) hqz2 (by decide) kw_1539 kw_1541 ks_66 kw_17 kw_1542 hd_X10_hasLaw ⟨Nat.le_of_ble_eq_true rfl, Nat.le_of_ble_eq_true rfl⟩ rfl rfl rfl (Nat.le_of_ble_eq_true rfl) ⟨Nat.le_of_ble_eq_true rfl, Nat.le_of_ble_eq_true rfl⟩ dX10_law_16 (fun H locs G => ?_)
      refine lv_if_eq (tgt := 38) hx hb dX10_law_19 (by decide) (fun c => ?_) (fun c => ?_)
      · have hf := x_pos c hf
        exact K38 z2.2 hf _ _ ls (lv_sub hl [] rfl) G
      · have hf := x_neg c hf
        refine lv_aload_n hx hb dX10_law_22 rfl (lv_at hl 0 rfl) ?_
        refine lv_iload_n hx hb dX10_law_23 rfl (lv_at hl 2 rfl) ?_
        obtain ⟨z3, hz3, hf⟩ := x_ob hf
        obtain ⟨hqz3, hz3⟩ := xon_of hz3
        refine xr_callV (ci := 10) (As := [.int x2]) (rest := []) (st1 := [.int z3.1]) S G hl.1 (fun _ => rfl) (mt_X10_isWalker l D cid b ex sa sv B0 sh q0 x2 z2.2 _ _ hz3) hqz3 (by decide) kw_1504 kw_1506 ks_62 kw_17 kw_1507 hd_X10_isWalker ⟨Nat.le_of_ble_eq_true rfl, Nat.le_of_ble_eq_true rfl⟩ rfl rfl rfl (Nat.le_of_ble_eq_true rfl) ⟨Nat.le_of_ble_eq_true rfl, Nat.le_of_ble_eq_true rfl⟩ dX10_law_24 (fun H locs G => ?_)
        refine lv_if_eq (tgt := 38) hx hb dX10_law_27 (by decide) (fun c => ?_) (fun c => ?_)
        · have hf := x_pos c hf
          exact K38 z3.2 hf _ _ ls (lv_sub hl [] rfl) G
        · have hf := x_neg c hf
          refine lv_aload_n hx hb dX10_law_30 rfl (lv_at hl 0 rfl) ?_
          refine lv_iload_n hx hb dX10_law_31 rfl (lv_at hl 3 rfl) ?_
          obtain ⟨z4, hz4, hf⟩ := x_ob hf
          obtain ⟨hqz4, hz4⟩ := xon_of hz4
          refine xr_callV (ci := 10) (As := [.int x3]) (rest := []) (st1 := [.int z4.1]) S G hl.1 (fun _ => rfl) (mt_X10_isBench l D cid b ex sa sv B0 sh q0 x3 z3.2 _ _ hz4) hqz4 (by decide) kw_1512 kw_1514 ks_63 kw_17 kw_1515 hd_X10_isBench ⟨Nat.le_of_ble_eq_true rfl, Nat.le_of_ble_eq_true rfl⟩ rfl rfl rfl (Nat.le_of_ble_eq_true rfl) ⟨Nat.le_of_ble_eq_true rfl, Nat.le_of_ble_eq_true rfl⟩ dX10_law_32 (fun H locs G => ?_)
          refine lv_if_ne (tgt := 42) hx hb dX10_law_35 (by decide) (fun c => ?_) (fun c => ?_)
          · have hf := x_neg c hf
            refine lv_aload_n hx hb dX10_law_42 rfl (lv_at hl 0 rfl) ?_
            refine lv_iconst (v := (0 : Int32)) hx hb dX10_law_43 (by decide) ?_
            refine lv_iload_n hx hb dX10_law_44 rfl (lv_at hl 2 rfl) ?_
            refine lv_iload_n hx hb dX10_law_45 rfl (lv_at hl 3 rfl) ?_
            obtain ⟨d5, hd5, hf⟩ := x_ob hf
            obtain ⟨hqd5, hd5⟩ := xon_of hd5
            refine xr_callV (ci := 10) (As := [.int (0 : Int32), .int x2, .int x3]) (rest := []) (st1 := []) S G hl.1 (fun _ => rfl) (mt_X10_calls l D cid b ex sa sv B0 sh q0 (0 : Int32) x2 x3 z4.2 _ hd5) hqd5 (by decide) kw_1544 kw_1546 ks_67 kw_17 kw_1547 hd_X10_calls ⟨Nat.le_of_ble_eq_true rfl, Nat.le_of_ble_eq_true rfl⟩ rfl rfl rfl (Nat.le_of_ble_eq_true rfl) ⟨Nat.le_of_ble_eq_true rfl, Nat.le_of_ble_eq_true rfl⟩ dX10_law_46 (fun H locs G => ?_)
            refine lv_aload_n hx hb dX10_law_49 rfl (lv_at hl 0 rfl) ?_
            refine lv_iload_n hx hb dX10_law_50 rfl (lv_at hl 1 rfl) ?_
            obtain ⟨z6, hz6, hf⟩ := x_ob hf
            obtain ⟨hqz6, hz6⟩ := xon_of hz6
            refine xr_callV (ci := 10) (As := [.int x1]) (rest := []) (st1 := [.int z6.1]) S G hl.1 (fun _ => rfl) (mt_X10_goes l D cid b ex sa sv B0 sh q0 x1 d5 _ _ hz6) hqz6 (by decide) kw_1552 kw_1554 ks_69 kw_17 kw_1555 hd_X10_goes ⟨Nat.le_of_ble_eq_true rfl, Nat.le_of_ble_eq_true rfl⟩ rfl rfl rfl (Nat.le_of_ble_eq_true rfl) ⟨Nat.le_of_ble_eq_true rfl, Nat.le_of_ble_eq_true rfl⟩ dX10_law_51 (fun H locs G => ?_)
            refine lv_if_eq (tgt := 66) hx hb dX10_law_54 (by decide) (fun c => ?_) (fun c => ?_)
            · have hf := x_pos c hf
              refine lv_ldc2 (v := (-9223372036854775808 : Int64)) hx hb hown (hts _ kw_1543) dX10_law_66 ?_
              exact K69 (-9223372036854775808 : Int64) z6.2 hf _ _ ls (lv_sub hl [] rfl) G
            · have hf := x_neg c hf
              refine lv_aload_n hx hb dX10_law_57 rfl (lv_at hl 0 rfl) ?_
              obtain ⟨v7, hv7, hf⟩ := x_ob hf
              refine xr_getR (ci := 10) (k := 33) S G hv7 rfl kw_1201 dX10_law_58 ?_
              refine lv_iconst (v := (0 : Int32)) hx hb dX10_law_61 (by decide) ?_
              obtain ⟨v8, hv8, hf⟩ := x_ob hf
              refine xr_lald S G hv8 dX10_law_62 ?_
              refine lv_goto (tgt := 69) hx hb dX10_law_63 (by decide) ?_
              exact K69 v8 z6.2 hf _ _ ls (lv_sub hl [] rfl) G
          · have hf := x_pos c hf
            exact K38 z4.2 hf _ _ ls (lv_sub hl [] rfl) G
-- HalfLandingsModel.keepNow()V
theorem dX10_keepNow_0 : decode cX10_keepNow 0 = .ok (.aload_n 0, 1) := by decide +kernel
theorem dX10_keepNow_1 : decode cX10_keepNow 1 = .ok (.getfield 302, 3) := by decide +kernel
theorem dX10_keepNow_4 : decode cX10_keepNow 4 = .ok (.bipush 20, 2) := by decide +kernel
theorem dX10_keepNow_6 : decode cX10_keepNow 6 = .ok (.if_icmp .ne 39, 3) := by decide +kernel
theorem dX10_keepNow_9 : decode cX10_keepNow 9 = .ok (.iconst 1, 1) := by decide +kernel
theorem dX10_keepNow_10 : decode cX10_keepNow 10 = .ok (.istore_n 1, 1) := by decide +kernel
theorem dX10_keepNow_11 : decode cX10_keepNow 11 = .ok (.iload_n 1, 1) := by decide +kernel
theorem dX10_keepNow_12 : decode cX10_keepNow 12 = .ok (.bipush 20, 2) := by decide +kernel
theorem dX10_keepNow_14 : decode cX10_keepNow 14 = .ok (.if_icmp .ge 21, 3) := by decide +kernel
theorem dX10_keepNow_17 : decode cX10_keepNow 17 = .ok (.aload_n 0, 1) := by decide +kernel
theorem dX10_keepNow_18 : decode cX10_keepNow 18 = .ok (.iconst 3, 1) := by decide +kernel
theorem dX10_keepNow_19 : decode cX10_keepNow 19 = .ok (.iload_n 1, 1) := by decide +kernel
theorem dX10_keepNow_20 : decode cX10_keepNow 20 = .ok (.iadd, 1) := by decide +kernel
theorem dX10_keepNow_21 : decode cX10_keepNow 21 = .ok (.iconst 1, 1) := by decide +kernel
theorem dX10_keepNow_22 : decode cX10_keepNow 22 = .ok (.isub, 1) := by decide +kernel
theorem dX10_keepNow_23 : decode cX10_keepNow 23 = .ok (.iconst 3, 1) := by decide +kernel
theorem dX10_keepNow_24 : decode cX10_keepNow 24 = .ok (.iload_n 1, 1) := by decide +kernel
theorem dX10_keepNow_25 : decode cX10_keepNow 25 = .ok (.iadd, 1) := by decide +kernel
theorem dX10_keepNow_26 : decode cX10_keepNow 26 = .ok (.invokevirtual 413, 3) := by decide +kernel
theorem dX10_keepNow_29 : decode cX10_keepNow 29 = .ok (.iinc 1 1, 3) := by decide +kernel
theorem dX10_keepNow_32 : decode cX10_keepNow 32 = .ok (.goto (-21), 3) := by decide +kernel
theorem dX10_keepNow_35 : decode cX10_keepNow 35 = .ok (.aload_n 0, 1) := by decide +kernel
theorem dX10_keepNow_36 : decode cX10_keepNow 36 = .ok (.dup, 1) := by decide +kernel
theorem dX10_keepNow_37 : decode cX10_keepNow 37 = .ok (.getfield 302, 3) := by decide +kernel
theorem dX10_keepNow_40 : decode cX10_keepNow 40 = .ok (.iconst 1, 1) := by decide +kernel
theorem dX10_keepNow_41 : decode cX10_keepNow 41 = .ok (.isub, 1) := by decide +kernel
theorem dX10_keepNow_42 : decode cX10_keepNow 42 = .ok (.putfield 302, 3) := by decide +kernel
theorem dX10_keepNow_45 : decode cX10_keepNow 45 = .ok (.aload_n 0, 1) := by decide +kernel
theorem dX10_keepNow_46 : decode cX10_keepNow 46 = .ok (.iconst 3, 1) := by decide +kernel
theorem dX10_keepNow_47 : decode cX10_keepNow 47 = .ok (.aload_n 0, 1) := by decide +kernel
theorem dX10_keepNow_48 : decode cX10_keepNow 48 = .ok (.getfield 302, 3) := by decide +kernel
theorem dX10_keepNow_51 : decode cX10_keepNow 51 = .ok (.iadd, 1) := by decide +kernel
theorem dX10_keepNow_52 : decode cX10_keepNow 52 = .ok (.iconst 0, 1) := by decide +kernel
theorem dX10_keepNow_53 : decode cX10_keepNow 53 = .ok (.invokevirtual 413, 3) := by decide +kernel
theorem dX10_keepNow_56 : decode cX10_keepNow 56 = .ok (.aload_n 0, 1) := by decide +kernel
theorem dX10_keepNow_57 : decode cX10_keepNow 57 = .ok (.dup, 1) := by decide +kernel
theorem dX10_keepNow_58 : decode cX10_keepNow 58 = .ok (.getfield 302, 3) := by decide +kernel
theorem dX10_keepNow_61 : decode cX10_keepNow 61 = .ok (.iconst 1, 1) := by decide +kernel
theorem dX10_keepNow_62 : decode cX10_keepNow 62 = .ok (.iadd, 1) := by decide +kernel
theorem dX10_keepNow_63 : decode cX10_keepNow 63 = .ok (.putfield 302, 3) := by decide +kernel
theorem dX10_keepNow_66 : decode cX10_keepNow 66 = .ok (.return_, 1) := by decide +kernel
theorem hd_X10_keepNow : yX10_keepNow.cls = xCn 10 ∧ yX10_keepNow.cls ≠ "java/lang/invoke/MethodHandle" ∧ yX10_keepNow.cls ≠ "java/lang/invoke/VarHandle" ∧ (parseMethodDescriptor yX10_keepNow.desc).map (fun d => d.parameters.length) = some 0 := by decide +kernel
def k_X10_keepNow_45 (sh : List xSh) (q0 : Nat) (d : xD) : Option xD :=
  (xgI 10 sh d q0 49).bind fun v1 => (xon 10 sh q0 (f_X10_copies sh q0 ((3 : Int32) + v1) (0 : Int32) d)).bind fun d2 => (xgI 10 sh d2 q0 49).bind fun v3 => (xpI 10 sh d2 q0 49 (v3 + (1 : Int32))).bind fun d4 => some d4
def k_X10_keepNow_35 (sh : List xSh) (q0 : Nat) (d : xD) : Option xD :=
  (xgI 10 sh d q0 49).bind fun v5 => (xpI 10 sh d q0 49 (v5 - (1 : Int32))).bind fun d6 => k_X10_keepNow_45 sh q0 d6
def b_X10_keepNow_11 (sh : List xSh) (rec11 : Nat → Int32 → xD → Option xD) (q0 : Nat) (x1 : Int32) (d : xD) : Option xD :=
  if (20 : Int32) ≤ x1 then (k_X10_keepNow_35 sh q0 d) else ((xon 10 sh q0 (f_X10_copies sh q0 (((3 : Int32) + x1) - (1 : Int32)) ((3 : Int32) + x1) d)).bind fun d7 => rec11 q0 (x1 + 1) d7)
def f_X10_keepNow (sh : List xSh) (q0 : Nat) (d : xD) : Option xD :=
  (xgI 10 sh d q0 49).bind fun v8 => if v8 = (20 : Int32) then (xloop (fun _ _ _ => none) (b_X10_keepNow_11 sh) xF q0 (1 : Int32) d) else (k_X10_keepNow_45 sh q0 d)
set_option maxHeartbeats 4000000 in
set_option maxRecDepth 100000 in
theorem mt_X10_keepNow (l : Launch) (D : va_G) (cid : FieldType → ClassId) (b : Nat) (ex : Bool) (sa sv B0 : Nat) (sh : List xSh) (q0 : Nat) (d : xD) (dz : xD) (hf : f_X10_keepNow sh q0 d = some dz) : xMet l yX10_keepNow cX10_keepNow 2 none 1 0 0 D cid b ex sa sv B0 [.ref (b + q0)] sh d none sh dz := by
  refine xMet.of (by decide) (Nat.le_of_ble_eq_true rfl) ?_
  intro p e s m below meth c ls A S hr hin G hl
  have hl : lv_has ls 2 [(0, .ref (b + q0))] := hl
  generalize ([.ref (b + q0)] : List Value).toArray = av at S ⊢
  have hx := S.1
  have hb := S.2.1
  have hml := S.2.2.1
  have hown := S.2.2.2.1
  have hts := S.2.2.2.2.1
  have K45 : ∀ (q0 : Nat) (d : xD), k_X10_keepNow_45 sh q0 d = some dz → ∀ (H : Heap) (locs : List Loc) (ls : Array Slot), lv_has ls 2 [(0, .ref (b + q0))] → xG D cid b A sh d s H locs → W p l e (xRm 1 0 0) s m av below meth c H locs 0 0 (MQ below (xQ D cid b ex A none sh dz) av s 0 0 A) (F0 m 45 ls []) := by
    intro q0 d hf H locs ls hl G
    unfold k_X10_keepNow_45 at hf
    refine lv_aload_n hx hb dX10_keepNow_45 rfl (lv_at hl 0 rfl) ?_
    refine lv_iconst (v := (3 : Int32)) hx hb dX10_keepNow_46 (by decide) ?_
    refine lv_aload_n hx hb dX10_keepNow_47 rfl (lv_at hl 0 rfl) ?_
    obtain ⟨v1, hv1, hf⟩ := x_ob hf
    refine xr_getI (ci := 10) (k := 49) S G hv1 rfl kw_1217 dX10_keepNow_48 ?_
    refine lv_iadd hx hb dX10_keepNow_51 ?_
    refine lv_iconst (v := (0 : Int32)) hx hb dX10_keepNow_52 (by decide) ?_
    obtain ⟨d2, hd2, hf⟩ := x_ob hf
    obtain ⟨hqd2, hd2⟩ := xon_of hd2
    refine xr_callV (ci := 10) (As := [.int ((3 : Int32) + v1), .int (0 : Int32)]) (rest := []) (st1 := []) S G hl.1 (fun _ => rfl) (mt_X10_copies l D cid b ex sa sv B0 sh q0 ((3 : Int32) + v1) (0 : Int32) d _ hd2) hqd2 (by decide) kw_1580 kw_1582 ks_73 kw_17 kw_1583 hd_X10_copies ⟨Nat.le_of_ble_eq_true rfl, Nat.le_of_ble_eq_true rfl⟩ rfl rfl rfl (Nat.le_of_ble_eq_true rfl) ⟨Nat.le_of_ble_eq_true rfl, Nat.le_of_ble_eq_true rfl⟩ dX10_keepNow_53 (fun H locs G => ?_)
    refine lv_aload_n hx hb dX10_keepNow_56 rfl (lv_at hl 0 rfl) ?_
    refine lv_dup hx hb dX10_keepNow_57 rfl ?_
    obtain ⟨v3, hv3, hf⟩ := x_ob hf
    refine xr_getI (ci := 10) (k := 49) S G hv3 rfl kw_1217 dX10_keepNow_58 ?_
    refine lv_iconst (v := (1 : Int32)) hx hb dX10_keepNow_61 (by decide) ?_
    refine lv_iadd hx hb dX10_keepNow_62 ?_
    obtain ⟨d4, hd4, hf⟩ := x_ob hf
    refine xr_putI (ci := 10) (k := 49) S G hd4 rfl kw_1217 dX10_keepNow_63 (fun H locs G => ?_)
    cases hf
    exact xr_vret S G (fun _ => rfl) hr dX10_keepNow_66
  have K35 : ∀ (q0 : Nat) (d : xD), k_X10_keepNow_35 sh q0 d = some dz → ∀ (H : Heap) (locs : List Loc) (ls : Array Slot), lv_has ls 2 [(0, .ref (b + q0))] → xG D cid b A sh d s H locs → W p l e (xRm 1 0 0) s m av below meth c H locs 0 0 (MQ below (xQ D cid b ex A none sh dz) av s 0 0 A) (F0 m 35 ls []) := by
    intro q0 d hf H locs ls hl G
    unfold k_X10_keepNow_35 at hf
    refine lv_aload_n hx hb dX10_keepNow_35 rfl (lv_at hl 0 rfl) ?_
    refine lv_dup hx hb dX10_keepNow_36 rfl ?_
    obtain ⟨v5, hv5, hf⟩ := x_ob hf
    refine xr_getI (ci := 10) (k := 49) S G hv5 rfl kw_1217 dX10_keepNow_37 ?_
    refine lv_iconst (v := (1 : Int32)) hx hb dX10_keepNow_40 (by decide) ?_
    refine lv_isub hx hb dX10_keepNow_41 ?_
    obtain ⟨d6, hd6, hf⟩ := x_ob hf
    refine xr_putI (ci := 10) (k := 49) S G hd6 rfl kw_1217 dX10_keepNow_42 (fun H locs G => ?_)
    exact K45 q0 d6 hf _ _ ls (lv_sub hl [0] rfl) G
  have K11 : ∀ (n : Nat) (q0 : Nat) (x1 : Int32) (d : xD), xloop (fun _ _ _ => none) (b_X10_keepNow_11 sh) n q0 x1 d = some dz → ∀ (H : Heap) (locs : List Loc) (ls : Array Slot), lv_has ls 2 [(0, .ref (b + q0)), (1, .int x1)] → xG D cid b A sh d s H locs → W p l e (xRm 1 0 0) s m av below meth c H locs 0 0 (MQ below (xQ D cid b ex A none sh dz) av s 0 0 A) (F0 m 11 ls []) := by
    intro n
    induction n with
    | zero =>
      intro q0 x1 d hf
      have hf : (none : Option xD) = some dz := hf
      cases hf
    | succ n hrec11 =>
      intro q0 x1 d hf H locs ls hl G
      have hf : b_X10_keepNow_11 sh (xloop (fun _ _ _ => none) (b_X10_keepNow_11 sh) n) q0 x1 d = some dz := hf
      unfold b_X10_keepNow_11 at hf
      refine lv_iload_n hx hb dX10_keepNow_11 rfl (lv_at hl 1 rfl) ?_
      refine lv_bipush (v := (20 : Int32)) hx hb dX10_keepNow_12 (by decide) ?_
      refine lv_icmp_ge (tgt := 35) hx hb dX10_keepNow_14 (by decide) (fun c => ?_) (fun c => ?_)
      · have hf := x_pos c hf
        exact K35 q0 d hf _ _ ls (lv_sub hl [0] rfl) G
      · have hf := x_neg c hf
        refine lv_aload_n hx hb dX10_keepNow_17 rfl (lv_at hl 0 rfl) ?_
        refine lv_iconst (v := (3 : Int32)) hx hb dX10_keepNow_18 (by decide) ?_
        refine lv_iload_n hx hb dX10_keepNow_19 rfl (lv_at hl 1 rfl) ?_
        refine lv_iadd hx hb dX10_keepNow_20 ?_
        refine lv_iconst (v := (1 : Int32)) hx hb dX10_keepNow_21 (by decide) ?_
        refine lv_isub hx hb dX10_keepNow_22 ?_
        refine lv_iconst (v := (3 : Int32)) hx hb dX10_keepNow_23 (by decide) ?_
        refine lv_iload_n hx hb dX10_keepNow_24 rfl (lv_at hl 1 rfl) ?_
        refine lv_iadd hx hb dX10_keepNow_25 ?_
        obtain ⟨d7, hd7, hf⟩ := x_ob hf
        obtain ⟨hqd7, hd7⟩ := xon_of hd7
        refine xr_callV (ci := 10) (As := [.int (((3 : Int32) + x1) - (1 : Int32)), .int ((3 : Int32) + x1)]) (rest := []) (st1 := []) S G hl.1 (fun _ => rfl) (mt_X10_copies l D cid b ex sa sv B0 sh q0 (((3 : Int32) + x1) - (1 : Int32)) ((3 : Int32) + x1) d _ hd7) hqd7 (by decide) kw_1580 kw_1582 ks_73 kw_17 kw_1583 hd_X10_copies ⟨Nat.le_of_ble_eq_true rfl, Nat.le_of_ble_eq_true rfl⟩ rfl rfl rfl (Nat.le_of_ble_eq_true rfl) ⟨Nat.le_of_ble_eq_true rfl, Nat.le_of_ble_eq_true rfl⟩ dX10_keepNow_26 (fun H locs G => ?_)
        refine lv_iinc (v := (x1 + 1)) (lv' := [(1, .int (x1 + 1)), (0, .ref (b + q0))]) hx hb dX10_keepNow_29 hl (k := 1) rfl rfl (by decide) rfl (fun ls hl => ?_)
        refine lv_goto (tgt := 11) hx hb dX10_keepNow_32 (by decide) ?_
        exact hrec11 q0 (x1 + 1) d7 hf _ _ ls (lv_sub hl [1, 0] rfl) G
  unfold f_X10_keepNow at hf
  refine lv_aload_n hx hb dX10_keepNow_0 rfl (lv_at hl 0 rfl) ?_
  obtain ⟨v8, hv8, hf⟩ := x_ob hf
  refine xr_getI (ci := 10) (k := 49) S G hv8 rfl kw_1217 dX10_keepNow_1 ?_
  refine lv_bipush (v := (20 : Int32)) hx hb dX10_keepNow_4 (by decide) ?_
  refine lv_icmp_ne (tgt := 45) hx hb dX10_keepNow_6 (by decide) (fun c => ?_) (fun c => ?_)
  · have hf := x_neg c hf
    exact K45 q0 d hf _ _ ls (lv_sub hl [0] rfl) G
  · have hf := x_pos c hf
    refine lv_iconst (v := (1 : Int32)) hx hb dX10_keepNow_9 (by decide) ?_
    refine lv_istore_n (lv' := [(1, .int (1 : Int32)), (0, .ref (b + q0))]) hx hb dX10_keepNow_10 rfl hl (by decide) rfl (fun ls hl => ?_)
    exact K11 xF q0 (1 : Int32) d hf _ _ ls (lv_sub hl [1, 0] rfl) G
-- HalfLandingsModel.sit(II)I
theorem dX10_sit_0 : decode cX10_sit 0 = .ok (.aload_n 0, 1) := by decide +kernel
theorem dX10_sit_1 : decode cX10_sit 1 = .ok (.iconst 0, 1) := by decide +kernel
theorem dX10_sit_2 : decode cX10_sit 2 = .ok (.putfield 145, 3) := by decide +kernel
theorem dX10_sit_5 : decode cX10_sit 5 = .ok (.aload_n 0, 1) := by decide +kernel
theorem dX10_sit_6 : decode cX10_sit 6 = .ok (.iload_n 1, 1) := by decide +kernel
theorem dX10_sit_7 : decode cX10_sit 7 = .ok (.invokevirtual 419, 3) := by decide +kernel
theorem dX10_sit_10 : decode cX10_sit 10 = .ok (.ifCond .eq 14, 3) := by decide +kernel
theorem dX10_sit_13 : decode cX10_sit 13 = .ok (.iload_n 2, 1) := by decide +kernel
theorem dX10_sit_14 : decode cX10_sit 14 = .ok (.iconst 1, 1) := by decide +kernel
theorem dX10_sit_15 : decode cX10_sit 15 = .ok (.if_icmp .lt 9, 3) := by decide +kernel
theorem dX10_sit_18 : decode cX10_sit 18 = .ok (.iload_n 2, 1) := by decide +kernel
theorem dX10_sit_19 : decode cX10_sit 19 = .ok (.bipush 30, 2) := by decide +kernel
theorem dX10_sit_21 : decode cX10_sit 21 = .ok (.if_icmp .le 5, 3) := by decide +kernel
theorem dX10_sit_24 : decode cX10_sit 24 = .ok (.iconst (-1), 1) := by decide +kernel
theorem dX10_sit_25 : decode cX10_sit 25 = .ok (.ireturn, 1) := by decide +kernel
theorem dX10_sit_26 : decode cX10_sit 26 = .ok (.aload_n 0, 1) := by decide +kernel
theorem dX10_sit_27 : decode cX10_sit 27 = .ok (.getfield 87, 3) := by decide +kernel
theorem dX10_sit_30 : decode cX10_sit 30 = .ok (.iload_n 1, 1) := by decide +kernel
theorem dX10_sit_31 : decode cX10_sit 31 = .ok (.iaload, 1) := by decide +kernel
theorem dX10_sit_32 : decode cX10_sit 32 = .ok (.iconst 1, 1) := by decide +kernel
theorem dX10_sit_33 : decode cX10_sit 33 = .ok (.if_icmp .ne 16, 3) := by decide +kernel
theorem dX10_sit_36 : decode cX10_sit 36 = .ok (.aload_n 0, 1) := by decide +kernel
theorem dX10_sit_37 : decode cX10_sit 37 = .ok (.aload_n 0, 1) := by decide +kernel
theorem dX10_sit_38 : decode cX10_sit 38 = .ok (.getfield 90, 3) := by decide +kernel
theorem dX10_sit_41 : decode cX10_sit 41 = .ok (.iload_n 1, 1) := by decide +kernel
theorem dX10_sit_42 : decode cX10_sit 42 = .ok (.iaload, 1) := by decide +kernel
theorem dX10_sit_43 : decode cX10_sit 43 = .ok (.invokevirtual 359, 3) := by decide +kernel
theorem dX10_sit_46 : decode cX10_sit 46 = .ok (.goto 4, 3) := by decide +kernel
theorem dX10_sit_49 : decode cX10_sit 49 = .ok (.iconst (-1), 1) := by decide +kernel
theorem dX10_sit_50 : decode cX10_sit 50 = .ok (.istore_n 3, 1) := by decide +kernel
theorem dX10_sit_51 : decode cX10_sit 51 = .ok (.iload_n 3, 1) := by decide +kernel
theorem dX10_sit_52 : decode cX10_sit 52 = .ok (.iconst (-1), 1) := by decide +kernel
theorem dX10_sit_53 : decode cX10_sit 53 = .ok (.if_icmp .eq 12, 3) := by decide +kernel
theorem dX10_sit_56 : decode cX10_sit 56 = .ok (.aload_n 0, 1) := by decide +kernel
theorem dX10_sit_57 : decode cX10_sit 57 = .ok (.iconst 0, 1) := by decide +kernel
theorem dX10_sit_58 : decode cX10_sit 58 = .ok (.iload_n 3, 1) := by decide +kernel
theorem dX10_sit_59 : decode cX10_sit 59 = .ok (.invokevirtual 362, 3) := by decide +kernel
theorem dX10_sit_62 : decode cX10_sit 62 = .ok (.ifCond .gt 6, 3) := by decide +kernel
theorem dX10_sit_65 : decode cX10_sit 65 = .ok (.bipush (-2), 2) := by decide +kernel
theorem dX10_sit_67 : decode cX10_sit 67 = .ok (.ireturn, 1) := by decide +kernel
theorem dX10_sit_68 : decode cX10_sit 68 = .ok (.aload_n 0, 1) := by decide +kernel
theorem dX10_sit_69 : decode cX10_sit 69 = .ok (.invokevirtual 429, 3) := by decide +kernel
theorem dX10_sit_72 : decode cX10_sit 72 = .ok (.aload_n 0, 1) := by decide +kernel
theorem dX10_sit_73 : decode cX10_sit 73 = .ok (.iconst 0, 1) := by decide +kernel
theorem dX10_sit_74 : decode cX10_sit 74 = .ok (.iload_n 1, 1) := by decide +kernel
theorem dX10_sit_75 : decode cX10_sit 75 = .ok (.iload_n 3, 1) := by decide +kernel
theorem dX10_sit_76 : decode cX10_sit 76 = .ok (.iload_n 2, 1) := by decide +kernel
theorem dX10_sit_77 : decode cX10_sit 77 = .ok (.invokevirtual 365, 3) := by decide +kernel
theorem dX10_sit_80 : decode cX10_sit 80 = .ok (.aload_n 0, 1) := by decide +kernel
theorem dX10_sit_81 : decode cX10_sit 81 = .ok (.iconst 0, 1) := by decide +kernel
theorem dX10_sit_82 : decode cX10_sit 82 = .ok (.iload_n 3, 1) := by decide +kernel
theorem dX10_sit_83 : decode cX10_sit 83 = .ok (.invokevirtual 334, 3) := by decide +kernel
theorem dX10_sit_86 : decode cX10_sit 86 = .ok (.invokestatic 337, 3) := by decide +kernel
theorem dX10_sit_89 : decode cX10_sit 89 = .ok (.ireturn, 1) := by decide +kernel
theorem hd_X10_sit : yX10_sit.cls = xCn 10 ∧ yX10_sit.cls ≠ "java/lang/invoke/MethodHandle" ∧ yX10_sit.cls ≠ "java/lang/invoke/VarHandle" ∧ (parseMethodDescriptor yX10_sit.desc).map (fun d => d.parameters.length) = some 2 := by decide +kernel
def k_X10_sit_24 (sh : List xSh) (d : xD) : Option (Int32 × xD) :=
  some ((-1 : Int32), d)
def k_X10_sit_65 (sh : List xSh) (d : xD) : Option (Int32 × xD) :=
  some ((-2 : Int32), d)
def k_X10_sit_50 (sh : List xSh) (q0 : Nat) (x1 : Int32) (x2 : Int32) (y0 : Int32) (d : xD) : Option (Int32 × xD) :=
  if y0 = (-1 : Int32) then (k_X10_sit_65 sh d) else ((xon 10 sh q0 (f_X10_freeOn sh q0 (0 : Int32) y0 d)).bind fun z1 => if 0 < z1.1 then ((xon 10 sh q0 (f_X10_keepNow sh q0 z1.2)).bind fun d2 => (xon 10 sh q0 (f_X10_sitsDown sh q0 (0 : Int32) x1 y0 x2 d2)).bind fun d3 => (xon 10 sh q0 (f_X10_sitting sh q0 (0 : Int32) y0 d3)).bind fun z4 => (f_X10_bitsOf sh z4.1 z4.2).bind fun z5 => some (z5.1, z5.2)) else (k_X10_sit_65 sh z1.2))
def f_X10_sit (sh : List xSh) (q0 : Nat) (x1 : Int32) (x2 : Int32) (d : xD) : Option (Int32 × xD) :=
  (xpI 10 sh d q0 0 (0 : Int32)).bind fun d6 => (xon 10 sh q0 (f_X10_isWalker sh q0 x1 d6)).bind fun z7 => if z7.1 = 0 then (k_X10_sit_24 sh z7.2) else (if x2 < (1 : Int32) then (k_X10_sit_24 sh z7.2) else (if x2 ≤ (30 : Int32) then ((xgR 10 sh z7.2 q0 40).bind fun v8 => (xaI .int sh z7.2 v8 x1).bind fun v9 => if v9 = (1 : Int32) then ((xgR 10 sh z7.2 q0 41).bind fun v10 => (xaI .int sh z7.2 v10 x1).bind fun v11 => (xon 10 sh q0 (f_X10_benchAt sh q0 v11 z7.2)).bind fun z12 => k_X10_sit_50 sh q0 x1 x2 z12.1 z12.2) else (k_X10_sit_50 sh q0 x1 x2 (-1 : Int32) z7.2)) else (k_X10_sit_24 sh z7.2)))
set_option maxHeartbeats 4000000 in
set_option maxRecDepth 100000 in
theorem mt_X10_sit (l : Launch) (D : va_G) (cid : FieldType → ClassId) (b : Nat) (ex : Bool) (sa sv B0 : Nat) (sh : List xSh) (q0 : Nat) (x1 : Int32) (x2 : Int32) (d : xD) (r : Int32) (dz : xD) (hf : f_X10_sit sh q0 x1 x2 d = some (r, dz)) : xMet l yX10_sit cX10_sit 4 (some .int) 2 0 0 D cid b ex sa sv B0 [.ref (b + q0), .int x1, .int x2] sh d (some (.int r)) sh dz := by
  refine xMet.of (by decide) (Nat.le_of_ble_eq_true rfl) ?_
  intro p e s m below meth c ls A S hr hin G hl
  have hl : lv_has ls 4 [(0, .ref (b + q0)), (1, .int x1), (2, .int x2)] := hl
  generalize ([.ref (b + q0), .int x1, .int x2] : List Value).toArray = av at S ⊢
  have hx := S.1
  have hb := S.2.1
  have hml := S.2.2.1
  have hown := S.2.2.2.1
  have hts := S.2.2.2.2.1
  have K24 : ∀ (d : xD), k_X10_sit_24 sh d = some (r, dz) → ∀ (H : Heap) (locs : List Loc) (ls : Array Slot), lv_has ls 4 [] → xG D cid b A sh d s H locs → W p l e (xRm 2 0 0) s m av below meth c H locs 0 0 (MQ below (xQ D cid b ex A (some (.int r)) sh dz) av s 0 0 A) (F0 m 24 ls []) := by
    intro d hf H locs ls hl G
    unfold k_X10_sit_24 at hf
    refine lv_iconst (v := (-1 : Int32)) hx hb dX10_sit_24 (by decide) ?_
    cases hf
    exact xr_iret S G (fun _ => rfl) hr dX10_sit_25
  have K65 : ∀ (d : xD), k_X10_sit_65 sh d = some (r, dz) → ∀ (H : Heap) (locs : List Loc) (ls : Array Slot), lv_has ls 4 [] → xG D cid b A sh d s H locs → W p l e (xRm 2 0 0) s m av below meth c H locs 0 0 (MQ below (xQ D cid b ex A (some (.int r)) sh dz) av s 0 0 A) (F0 m 65 ls []) := by
    intro d hf H locs ls hl G
    unfold k_X10_sit_65 at hf
    refine lv_bipush (v := (-2 : Int32)) hx hb dX10_sit_65 (by decide) ?_
    cases hf
    exact xr_iret S G (fun _ => rfl) hr dX10_sit_67
  have K50 : ∀ (q0 : Nat) (x1 : Int32) (x2 : Int32) (y0 : Int32) (d : xD), k_X10_sit_50 sh q0 x1 x2 y0 d = some (r, dz) → ∀ (H : Heap) (locs : List Loc) (ls : Array Slot), lv_has ls 4 [(0, .ref (b + q0)), (1, .int x1), (2, .int x2)] → xG D cid b A sh d s H locs → W p l e (xRm 2 0 0) s m av below meth c H locs 0 0 (MQ below (xQ D cid b ex A (some (.int r)) sh dz) av s 0 0 A) (F0 m 50 ls [.int y0]) := by
    intro q0 x1 x2 y0 d hf H locs ls hl G
    unfold k_X10_sit_50 at hf
    refine lv_istore_n (lv' := [(3, .int y0), (0, .ref (b + q0)), (1, .int x1), (2, .int x2)]) hx hb dX10_sit_50 rfl hl (by decide) rfl (fun ls hl => ?_)
    refine lv_iload_n hx hb dX10_sit_51 rfl (lv_at hl 0 rfl) ?_
    refine lv_iconst (v := (-1 : Int32)) hx hb dX10_sit_52 (by decide) ?_
    refine lv_icmp_eq (tgt := 65) hx hb dX10_sit_53 (by decide) (fun c => ?_) (fun c => ?_)
    · have hf := x_pos c hf
      exact K65 d hf _ _ ls (lv_sub hl [] rfl) G
    · have hf := x_neg c hf
      refine lv_aload_n hx hb dX10_sit_56 rfl (lv_at hl 1 rfl) ?_
      refine lv_iconst (v := (0 : Int32)) hx hb dX10_sit_57 (by decide) ?_
      refine lv_iload_n hx hb dX10_sit_58 rfl (lv_at hl 0 rfl) ?_
      obtain ⟨z1, hz1, hf⟩ := x_ob hf
      obtain ⟨hqz1, hz1⟩ := xon_of hz1
      refine xr_callV (ci := 10) (As := [.int (0 : Int32), .int y0]) (rest := []) (st1 := [.int z1.1]) S G hl.1 (fun _ => rfl) (mt_X10_freeOn l D cid b ex sa sv B0 sh q0 (0 : Int32) y0 d _ _ hz1) hqz1 (by decide) kw_1520 kw_1522 ks_65 kw_17 kw_1523 hd_X10_freeOn ⟨Nat.le_of_ble_eq_true rfl, Nat.le_of_ble_eq_true rfl⟩ rfl rfl rfl (Nat.le_of_ble_eq_true rfl) ⟨Nat.le_of_ble_eq_true rfl, Nat.le_of_ble_eq_true rfl⟩ dX10_sit_59 (fun H locs G => ?_)
      refine lv_if_gt (tgt := 68) hx hb dX10_sit_62 (by decide) (fun c => ?_) (fun c => ?_)
      · have hf := x_pos c hf
        refine lv_aload_n hx hb dX10_sit_68 rfl (lv_at hl 1 rfl) ?_
        obtain ⟨d2, hd2, hf⟩ := x_ob hf
        obtain ⟨hqd2, hd2⟩ := xon_of hd2
        refine xr_callV (ci := 10) (As := []) (rest := []) (st1 := []) S G hl.1 (fun _ => rfl) (mt_X10_keepNow l D cid b ex sa sv B0 sh q0 z1.2 _ hd2) hqd2 (by decide) kw_1576 kw_1578 ks_72 kw_17 kw_1579 hd_X10_keepNow ⟨Nat.le_of_ble_eq_true rfl, Nat.le_of_ble_eq_true rfl⟩ rfl rfl rfl (Nat.le_of_ble_eq_true rfl) ⟨Nat.le_of_ble_eq_true rfl, Nat.le_of_ble_eq_true rfl⟩ dX10_sit_69 (fun H locs G => ?_)
        refine lv_aload_n hx hb dX10_sit_72 rfl (lv_at hl 1 rfl) ?_
        refine lv_iconst (v := (0 : Int32)) hx hb dX10_sit_73 (by decide) ?_
        refine lv_iload_n hx hb dX10_sit_74 rfl (lv_at hl 2 rfl) ?_
        refine lv_iload_n hx hb dX10_sit_75 rfl (lv_at hl 0 rfl) ?_
        refine lv_iload_n hx hb dX10_sit_76 rfl (lv_at hl 3 rfl) ?_
        obtain ⟨d3, hd3, hf⟩ := x_ob hf
        obtain ⟨hqd3, hd3⟩ := xon_of hd3
        refine xr_callV (ci := 10) (As := [.int (0 : Int32), .int x1, .int y0, .int x2]) (rest := []) (st1 := []) S G hl.1 (fun _ => rfl) (mt_X10_sitsDown l D cid b ex sa sv B0 sh q0 (0 : Int32) x1 y0 x2 d2 _ hd3) hqd3 (by decide) kw_1584 kw_1586 ks_74 kw_17 kw_1587 hd_X10_sitsDown ⟨Nat.le_of_ble_eq_true rfl, Nat.le_of_ble_eq_true rfl⟩ rfl rfl rfl (Nat.le_of_ble_eq_true rfl) ⟨Nat.le_of_ble_eq_true rfl, Nat.le_of_ble_eq_true rfl⟩ dX10_sit_77 (fun H locs G => ?_)
        refine lv_aload_n hx hb dX10_sit_80 rfl (lv_at hl 1 rfl) ?_
        refine lv_iconst (v := (0 : Int32)) hx hb dX10_sit_81 (by decide) ?_
        refine lv_iload_n hx hb dX10_sit_82 rfl (lv_at hl 0 rfl) ?_
        obtain ⟨z4, hz4, hf⟩ := x_ob hf
        obtain ⟨hqz4, hz4⟩ := xon_of hz4
        refine xr_callV (ci := 10) (As := [.int (0 : Int32), .int y0]) (rest := []) (st1 := [.int z4.1]) S G hl.1 (fun _ => rfl) (mt_X10_sitting l D cid b ex sa sv B0 sh q0 (0 : Int32) y0 d3 _ _ hz4) hqz4 (by decide) kw_1516 kw_1518 ks_64 kw_17 kw_1519 hd_X10_sitting ⟨Nat.le_of_ble_eq_true rfl, Nat.le_of_ble_eq_true rfl⟩ rfl rfl rfl (Nat.le_of_ble_eq_true rfl) ⟨Nat.le_of_ble_eq_true rfl, Nat.le_of_ble_eq_true rfl⟩ dX10_sit_83 (fun H locs G => ?_)
        obtain ⟨z5, hz5, hf⟩ := x_ob hf
        refine xr_callS (As := [.int z4.1]) (rest := []) (st1 := [.int z5.1]) S G hl.1 (fun _ => rfl) (mt_X10_bitsOf l D cid b ex sa sv B0 sh z4.1 z4.2 _ _ hz5) kw_1524 kw_1525 kw_17 kw_1526 hd_X10_bitsOf ⟨Nat.le_of_ble_eq_true rfl, Nat.le_of_ble_eq_true rfl⟩ rfl rfl rfl (Nat.le_of_ble_eq_true rfl) ⟨Nat.le_of_ble_eq_true rfl, Nat.le_of_ble_eq_true rfl⟩ dX10_sit_86 (fun H locs G => ?_)
        cases hf
        exact xr_iret S G (fun _ => rfl) hr dX10_sit_89
      · have hf := x_neg c hf
        exact K65 z1.2 hf _ _ ls (lv_sub hl [] rfl) G
  unfold f_X10_sit at hf
  refine lv_aload_n hx hb dX10_sit_0 rfl (lv_at hl 0 rfl) ?_
  refine lv_iconst (v := (0 : Int32)) hx hb dX10_sit_1 (by decide) ?_
  obtain ⟨d6, hd6, hf⟩ := x_ob hf
  refine xr_putI (ci := 10) (k := 0) S G hd6 rfl kw_1168 dX10_sit_2 (fun H locs G => ?_)
  refine lv_aload_n hx hb dX10_sit_5 rfl (lv_at hl 0 rfl) ?_
  refine lv_iload_n hx hb dX10_sit_6 rfl (lv_at hl 1 rfl) ?_
  obtain ⟨z7, hz7, hf⟩ := x_ob hf
  obtain ⟨hqz7, hz7⟩ := xon_of hz7
  refine xr_callV (ci := 10) (As := [.int x1]) (rest := []) (st1 := [.int z7.1]) S G hl.1 (fun _ => rfl) (mt_X10_isWalker l D cid b ex sa sv B0 sh q0 x1 d6 _ _ hz7) hqz7 (by decide) kw_1504 kw_1506 ks_62 kw_17 kw_1507 hd_X10_isWalker ⟨Nat.le_of_ble_eq_true rfl, Nat.le_of_ble_eq_true rfl⟩ rfl rfl rfl (Nat.le_of_ble_eq_true rfl) ⟨Nat.le_of_ble_eq_true rfl, Nat.le_of_ble_eq_true rfl⟩ dX10_sit_7 (fun H locs G => ?_)
  refine lv_if_eq (tgt := 24) hx hb dX10_sit_10 (by decide) (fun c => ?_) (fun c => ?_)
  · have hf := x_pos c hf
    exact K24 z7.2 hf _ _ ls (lv_sub hl [] rfl) G
  · have hf := x_neg c hf
    refine lv_iload_n hx hb dX10_sit_13 rfl (lv_at hl 2 rfl) ?_
    refine lv_iconst (v := (1 : Int32)) hx hb dX10_sit_14 (by decide) ?_
    refine lv_icmp_lt (tgt := 24) hx hb dX10_sit_15 (by decide) (fun c => ?_) (fun c => ?_)
    · have hf := x_pos c hf
      exact K24 z7.2 hf _ _ ls (lv_sub hl [] rfl) G
    · have hf := x_neg c hf
      refine lv_iload_n hx hb dX10_sit_18 rfl (lv_at hl 2 rfl) ?_
      refine lv_bipush (v := (30 : Int32)) hx hb dX10_sit_19 (by decide) ?_
      refine lv_icmp_le (tgt := 26) hx hb dX10_sit_21 (by decide) (fun c => ?_) (fun c => ?_)
      · have hf := x_pos c hf
        refine lv_aload_n hx hb dX10_sit_26 rfl (lv_at hl 0 rfl) ?_
        obtain ⟨v8, hv8, hf⟩ := x_ob hf
        refine xr_getR (ci := 10) (k := 40) S G hv8 rfl kw_1208 dX10_sit_27 ?_
        refine lv_iload_n hx hb dX10_sit_30 rfl (lv_at hl 1 rfl) ?_
        obtain ⟨v9, hv9, hf⟩ := x_ob hf
        refine xr_iald S G hv9 dX10_sit_31 ?_
        refine lv_iconst (v := (1 : Int32)) hx hb dX10_sit_32 (by decide) ?_
        refine lv_icmp_ne (tgt := 49) hx hb dX10_sit_33 (by decide) (fun c => ?_) (fun c => ?_)
        · have hf := x_neg c hf
          refine lv_iconst (v := (-1 : Int32)) hx hb dX10_sit_49 (by decide) ?_
          exact K50 q0 x1 x2 (-1 : Int32) z7.2 hf _ _ ls (lv_sub hl [0, 1, 2] rfl) G
        · have hf := x_pos c hf
          refine lv_aload_n hx hb dX10_sit_36 rfl (lv_at hl 0 rfl) ?_
          refine lv_aload_n hx hb dX10_sit_37 rfl (lv_at hl 0 rfl) ?_
          obtain ⟨v10, hv10, hf⟩ := x_ob hf
          refine xr_getR (ci := 10) (k := 41) S G hv10 rfl kw_1209 dX10_sit_38 ?_
          refine lv_iload_n hx hb dX10_sit_41 rfl (lv_at hl 1 rfl) ?_
          obtain ⟨v11, hv11, hf⟩ := x_ob hf
          refine xr_iald S G hv11 dX10_sit_42 ?_
          obtain ⟨z12, hz12, hf⟩ := x_ob hf
          obtain ⟨hqz12, hz12⟩ := xon_of hz12
          refine xr_callV (ci := 10) (As := [.int v11]) (rest := []) (st1 := [.int z12.1]) S G hl.1 (fun _ => rfl) (mt_X10_benchAt l D cid b ex sa sv B0 sh q0 v11 z7.2 _ _ hz12) hqz12 (by decide) kw_1572 kw_1574 ks_71 kw_17 kw_1575 hd_X10_benchAt ⟨Nat.le_of_ble_eq_true rfl, Nat.le_of_ble_eq_true rfl⟩ rfl rfl rfl (Nat.le_of_ble_eq_true rfl) ⟨Nat.le_of_ble_eq_true rfl, Nat.le_of_ble_eq_true rfl⟩ dX10_sit_43 (fun H locs G => ?_)
          refine lv_goto (tgt := 50) hx hb dX10_sit_46 (by decide) ?_
          exact K50 q0 x1 x2 z12.1 z12.2 hf _ _ ls (lv_sub hl [0, 1, 2] rfl) G
      · have hf := x_neg c hf
        exact K24 z7.2 hf _ _ ls (lv_sub hl [] rfl) G
-- HalfLandingsModel.rise(I)Z
theorem dX10_rise_0 : decode cX10_rise 0 = .ok (.aload_n 0, 1) := by decide +kernel
theorem dX10_rise_1 : decode cX10_rise 1 = .ok (.iconst 0, 1) := by decide +kernel
theorem dX10_rise_2 : decode cX10_rise 2 = .ok (.putfield 145, 3) := by decide +kernel
theorem dX10_rise_5 : decode cX10_rise 5 = .ok (.aload_n 0, 1) := by decide +kernel
theorem dX10_rise_6 : decode cX10_rise 6 = .ok (.iload_n 1, 1) := by decide +kernel
theorem dX10_rise_7 : decode cX10_rise 7 = .ok (.invokevirtual 419, 3) := by decide +kernel
theorem dX10_rise_10 : decode cX10_rise 10 = .ok (.ifCond .eq 13, 3) := by decide +kernel
theorem dX10_rise_13 : decode cX10_rise 13 = .ok (.aload_n 0, 1) := by decide +kernel
theorem dX10_rise_14 : decode cX10_rise 14 = .ok (.getfield 87, 3) := by decide +kernel
theorem dX10_rise_17 : decode cX10_rise 17 = .ok (.iload_n 1, 1) := by decide +kernel
theorem dX10_rise_18 : decode cX10_rise 18 = .ok (.iaload, 1) := by decide +kernel
theorem dX10_rise_19 : decode cX10_rise 19 = .ok (.iconst 2, 1) := by decide +kernel
theorem dX10_rise_20 : decode cX10_rise 20 = .ok (.if_icmp .eq 5, 3) := by decide +kernel
theorem dX10_rise_23 : decode cX10_rise 23 = .ok (.iconst 0, 1) := by decide +kernel
theorem dX10_rise_24 : decode cX10_rise 24 = .ok (.ireturn, 1) := by decide +kernel
theorem dX10_rise_25 : decode cX10_rise 25 = .ok (.aload_n 0, 1) := by decide +kernel
theorem dX10_rise_26 : decode cX10_rise 26 = .ok (.invokevirtual 429, 3) := by decide +kernel
theorem dX10_rise_29 : decode cX10_rise 29 = .ok (.aload_n 0, 1) := by decide +kernel
theorem dX10_rise_30 : decode cX10_rise 30 = .ok (.iconst 0, 1) := by decide +kernel
theorem dX10_rise_31 : decode cX10_rise 31 = .ok (.iload_n 1, 1) := by decide +kernel
theorem dX10_rise_32 : decode cX10_rise 32 = .ok (.invokevirtual 356, 3) := by decide +kernel
theorem dX10_rise_35 : decode cX10_rise 35 = .ok (.iconst 1, 1) := by decide +kernel
theorem dX10_rise_36 : decode cX10_rise 36 = .ok (.ireturn, 1) := by decide +kernel
theorem hd_X10_rise : yX10_rise.cls = xCn 10 ∧ yX10_rise.cls ≠ "java/lang/invoke/MethodHandle" ∧ yX10_rise.cls ≠ "java/lang/invoke/VarHandle" ∧ (parseMethodDescriptor yX10_rise.desc).map (fun d => d.parameters.length) = some 1 := by decide +kernel
def k_X10_rise_23 (sh : List xSh) (d : xD) : Option (Int32 × xD) :=
  some ((0 : Int32), d)
def f_X10_rise (sh : List xSh) (q0 : Nat) (x1 : Int32) (d : xD) : Option (Int32 × xD) :=
  (xpI 10 sh d q0 0 (0 : Int32)).bind fun d1 => (xon 10 sh q0 (f_X10_isWalker sh q0 x1 d1)).bind fun z2 => if z2.1 = 0 then (k_X10_rise_23 sh z2.2) else ((xgR 10 sh z2.2 q0 40).bind fun v3 => (xaI .int sh z2.2 v3 x1).bind fun v4 => if v4 = (2 : Int32) then ((xon 10 sh q0 (f_X10_keepNow sh q0 z2.2)).bind fun d5 => (xon 10 sh q0 (f_X10_getsUp sh q0 (0 : Int32) x1 d5)).bind fun d6 => some ((1 : Int32), d6)) else (k_X10_rise_23 sh z2.2))
set_option maxHeartbeats 4000000 in
set_option maxRecDepth 100000 in
theorem mt_X10_rise (l : Launch) (D : va_G) (cid : FieldType → ClassId) (b : Nat) (ex : Bool) (sa sv B0 : Nat) (sh : List xSh) (q0 : Nat) (x1 : Int32) (d : xD) (r : Int32) (dz : xD) (hf : f_X10_rise sh q0 x1 d = some (r, dz)) : xMet l yX10_rise cX10_rise 2 (some .boolean) 2 0 0 D cid b ex sa sv B0 [.ref (b + q0), .int x1] sh d (some (.int r)) sh dz := by
  refine xMet.of (by decide) (Nat.le_of_ble_eq_true rfl) ?_
  intro p e s m below meth c ls A S hr hin G hl
  have hl : lv_has ls 2 [(0, .ref (b + q0)), (1, .int x1)] := hl
  generalize ([.ref (b + q0), .int x1] : List Value).toArray = av at S ⊢
  have hx := S.1
  have hb := S.2.1
  have hml := S.2.2.1
  have hown := S.2.2.2.1
  have hts := S.2.2.2.2.1
  have K23 : ∀ (d : xD), k_X10_rise_23 sh d = some (r, dz) → ∀ (H : Heap) (locs : List Loc) (ls : Array Slot), lv_has ls 2 [] → xG D cid b A sh d s H locs → W p l e (xRm 2 0 0) s m av below meth c H locs 0 0 (MQ below (xQ D cid b ex A (some (.int r)) sh dz) av s 0 0 A) (F0 m 23 ls []) := by
    intro d hf H locs ls hl G
    unfold k_X10_rise_23 at hf
    refine lv_iconst (v := (0 : Int32)) hx hb dX10_rise_23 (by decide) ?_
    cases hf
    exact xr_zret S G (fun _ => rfl) hr (by decide) dX10_rise_24
  unfold f_X10_rise at hf
  refine lv_aload_n hx hb dX10_rise_0 rfl (lv_at hl 0 rfl) ?_
  refine lv_iconst (v := (0 : Int32)) hx hb dX10_rise_1 (by decide) ?_
  obtain ⟨d1, hd1, hf⟩ := x_ob hf
  refine xr_putI (ci := 10) (k := 0) S G hd1 rfl kw_1168 dX10_rise_2 (fun H locs G => ?_)
  refine lv_aload_n hx hb dX10_rise_5 rfl (lv_at hl 0 rfl) ?_
  refine lv_iload_n hx hb dX10_rise_6 rfl (lv_at hl 1 rfl) ?_
  obtain ⟨z2, hz2, hf⟩ := x_ob hf
  obtain ⟨hqz2, hz2⟩ := xon_of hz2
  refine xr_callV (ci := 10) (As := [.int x1]) (rest := []) (st1 := [.int z2.1]) S G hl.1 (fun _ => rfl) (mt_X10_isWalker l D cid b ex sa sv B0 sh q0 x1 d1 _ _ hz2) hqz2 (by decide) kw_1504 kw_1506 ks_62 kw_17 kw_1507 hd_X10_isWalker ⟨Nat.le_of_ble_eq_true rfl, Nat.le_of_ble_eq_true rfl⟩ rfl rfl rfl (Nat.le_of_ble_eq_true rfl) ⟨Nat.le_of_ble_eq_true rfl, Nat.le_of_ble_eq_true rfl⟩ dX10_rise_7 (fun H locs G => ?_)
  refine lv_if_eq (tgt := 23) hx hb dX10_rise_10 (by decide) (fun c => ?_) (fun c => ?_)
  · have hf := x_pos c hf
    exact K23 z2.2 hf _ _ ls (lv_sub hl [] rfl) G
  · have hf := x_neg c hf
    refine lv_aload_n hx hb dX10_rise_13 rfl (lv_at hl 0 rfl) ?_
    obtain ⟨v3, hv3, hf⟩ := x_ob hf
    refine xr_getR (ci := 10) (k := 40) S G hv3 rfl kw_1208 dX10_rise_14 ?_
    refine lv_iload_n hx hb dX10_rise_17 rfl (lv_at hl 1 rfl) ?_
    obtain ⟨v4, hv4, hf⟩ := x_ob hf
    refine xr_iald S G hv4 dX10_rise_18 ?_
    refine lv_iconst (v := (2 : Int32)) hx hb dX10_rise_19 (by decide) ?_
    refine lv_icmp_eq (tgt := 25) hx hb dX10_rise_20 (by decide) (fun c => ?_) (fun c => ?_)
    · have hf := x_pos c hf
      refine lv_aload_n hx hb dX10_rise_25 rfl (lv_at hl 0 rfl) ?_
      obtain ⟨d5, hd5, hf⟩ := x_ob hf
      obtain ⟨hqd5, hd5⟩ := xon_of hd5
      refine xr_callV (ci := 10) (As := []) (rest := []) (st1 := []) S G hl.1 (fun _ => rfl) (mt_X10_keepNow l D cid b ex sa sv B0 sh q0 z2.2 _ hd5) hqd5 (by decide) kw_1576 kw_1578 ks_72 kw_17 kw_1579 hd_X10_keepNow ⟨Nat.le_of_ble_eq_true rfl, Nat.le_of_ble_eq_true rfl⟩ rfl rfl rfl (Nat.le_of_ble_eq_true rfl) ⟨Nat.le_of_ble_eq_true rfl, Nat.le_of_ble_eq_true rfl⟩ dX10_rise_26 (fun H locs G => ?_)
      refine lv_aload_n hx hb dX10_rise_29 rfl (lv_at hl 0 rfl) ?_
      refine lv_iconst (v := (0 : Int32)) hx hb dX10_rise_30 (by decide) ?_
      refine lv_iload_n hx hb dX10_rise_31 rfl (lv_at hl 1 rfl) ?_
      obtain ⟨d6, hd6, hf⟩ := x_ob hf
      obtain ⟨hqd6, hd6⟩ := xon_of hd6
      refine xr_callV (ci := 10) (As := [.int (0 : Int32), .int x1]) (rest := []) (st1 := []) S G hl.1 (fun _ => rfl) (mt_X10_getsUp l D cid b ex sa sv B0 sh q0 (0 : Int32) x1 d5 _ hd6) hqd6 (by decide) kw_1592 kw_1594 ks_75 kw_17 kw_1595 hd_X10_getsUp ⟨Nat.le_of_ble_eq_true rfl, Nat.le_of_ble_eq_true rfl⟩ rfl rfl rfl (Nat.le_of_ble_eq_true rfl) ⟨Nat.le_of_ble_eq_true rfl, Nat.le_of_ble_eq_true rfl⟩ dX10_rise_32 (fun H locs G => ?_)
      refine lv_iconst (v := (1 : Int32)) hx hb dX10_rise_35 (by decide) ?_
      cases hf
      exact xr_zret S G (fun _ => rfl) hr (by decide) dX10_rise_36
    · have hf := x_neg c hf
      exact K23 z2.2 hf _ _ ls (lv_sub hl [] rfl) G
-- HalfLandingsModel.isFreeStep(I)Z
theorem dX10_isFreeStep_0 : decode cX10_isFreeStep 0 = .ok (.iload_n 1, 1) := by decide +kernel
theorem dX10_isFreeStep_1 : decode cX10_isFreeStep 1 = .ok (.iconst 1, 1) := by decide +kernel
theorem dX10_isFreeStep_2 : decode cX10_isFreeStep 2 = .ok (.if_icmp .lt 13, 3) := by decide +kernel
theorem dX10_isFreeStep_5 : decode cX10_isFreeStep 5 = .ok (.iload_n 1, 1) := by decide +kernel
theorem dX10_isFreeStep_6 : decode cX10_isFreeStep 6 = .ok (.aload_n 0, 1) := by decide +kernel
theorem dX10_isFreeStep_7 : decode cX10_isFreeStep 7 = .ok (.getfield 13, 3) := by decide +kernel
theorem dX10_isFreeStep_10 : decode cX10_isFreeStep 10 = .ok (.iconst 0, 1) := by decide +kernel
theorem dX10_isFreeStep_11 : decode cX10_isFreeStep 11 = .ok (.iaload, 1) := by decide +kernel
theorem dX10_isFreeStep_12 : decode cX10_isFreeStep 12 = .ok (.if_icmp .lt 5, 3) := by decide +kernel
theorem dX10_isFreeStep_15 : decode cX10_isFreeStep 15 = .ok (.iconst 0, 1) := by decide +kernel
theorem dX10_isFreeStep_16 : decode cX10_isFreeStep 16 = .ok (.ireturn, 1) := by decide +kernel
theorem dX10_isFreeStep_17 : decode cX10_isFreeStep 17 = .ok (.iconst 0, 1) := by decide +kernel
theorem dX10_isFreeStep_18 : decode cX10_isFreeStep 18 = .ok (.istore_n 2, 1) := by decide +kernel
theorem dX10_isFreeStep_19 : decode cX10_isFreeStep 19 = .ok (.iload_n 2, 1) := by decide +kernel
theorem dX10_isFreeStep_20 : decode cX10_isFreeStep 20 = .ok (.aload_n 0, 1) := by decide +kernel
theorem dX10_isFreeStep_21 : decode cX10_isFreeStep 21 = .ok (.getfield 13, 3) := by decide +kernel
theorem dX10_isFreeStep_24 : decode cX10_isFreeStep 24 = .ok (.iconst 2, 1) := by decide +kernel
theorem dX10_isFreeStep_25 : decode cX10_isFreeStep 25 = .ok (.iaload, 1) := by decide +kernel
theorem dX10_isFreeStep_26 : decode cX10_isFreeStep 26 = .ok (.if_icmp .ge 30, 3) := by decide +kernel
theorem dX10_isFreeStep_29 : decode cX10_isFreeStep 29 = .ok (.aload_n 0, 1) := by decide +kernel
theorem dX10_isFreeStep_30 : decode cX10_isFreeStep 30 = .ok (.iconst 0, 1) := by decide +kernel
theorem dX10_isFreeStep_31 : decode cX10_isFreeStep 31 = .ok (.iload_n 2, 1) := by decide +kernel
theorem dX10_isFreeStep_32 : decode cX10_isFreeStep 32 = .ok (.invokevirtual 432, 3) := by decide +kernel
theorem dX10_isFreeStep_35 : decode cX10_isFreeStep 35 = .ok (.ifCond .eq 15, 3) := by decide +kernel
theorem dX10_isFreeStep_38 : decode cX10_isFreeStep 38 = .ok (.aload_n 0, 1) := by decide +kernel
theorem dX10_isFreeStep_39 : decode cX10_isFreeStep 39 = .ok (.getfield 90, 3) := by decide +kernel
theorem dX10_isFreeStep_42 : decode cX10_isFreeStep 42 = .ok (.iload_n 2, 1) := by decide +kernel
theorem dX10_isFreeStep_43 : decode cX10_isFreeStep 43 = .ok (.iaload, 1) := by decide +kernel
theorem dX10_isFreeStep_44 : decode cX10_isFreeStep 44 = .ok (.iload_n 1, 1) := by decide +kernel
theorem dX10_isFreeStep_45 : decode cX10_isFreeStep 45 = .ok (.if_icmp .ne 5, 3) := by decide +kernel
theorem dX10_isFreeStep_48 : decode cX10_isFreeStep 48 = .ok (.iconst 0, 1) := by decide +kernel
theorem dX10_isFreeStep_49 : decode cX10_isFreeStep 49 = .ok (.ireturn, 1) := by decide +kernel
theorem dX10_isFreeStep_50 : decode cX10_isFreeStep 50 = .ok (.iinc 2 1, 3) := by decide +kernel
theorem dX10_isFreeStep_53 : decode cX10_isFreeStep 53 = .ok (.goto (-34), 3) := by decide +kernel
theorem dX10_isFreeStep_56 : decode cX10_isFreeStep 56 = .ok (.iconst 1, 1) := by decide +kernel
theorem dX10_isFreeStep_57 : decode cX10_isFreeStep 57 = .ok (.ireturn, 1) := by decide +kernel
theorem hd_X10_isFreeStep : yX10_isFreeStep.cls = xCn 10 ∧ yX10_isFreeStep.cls ≠ "java/lang/invoke/MethodHandle" ∧ yX10_isFreeStep.cls ≠ "java/lang/invoke/VarHandle" ∧ (parseMethodDescriptor yX10_isFreeStep.desc).map (fun d => d.parameters.length) = some 1 := by decide +kernel
def k_X10_isFreeStep_15 (sh : List xSh) (d : xD) : Option (Int32 × xD) :=
  some ((0 : Int32), d)
def k_X10_isFreeStep_56 (sh : List xSh) (d : xD) : Option (Int32 × xD) :=
  some ((1 : Int32), d)
def k_X10_isFreeStep_50 (sh : List xSh) (rec19 : Nat → Int32 → Int32 → xD → Option (Int32 × xD)) (q0 : Nat) (x1 : Int32) (x2 : Int32) (d : xD) : Option (Int32 × xD) :=
  rec19 q0 x1 (x2 + 1) d
def k_X10_isFreeStep_48 (sh : List xSh) (d : xD) : Option (Int32 × xD) :=
  some ((0 : Int32), d)
def b_X10_isFreeStep_19 (sh : List xSh) (rec19 : Nat → Int32 → Int32 → xD → Option (Int32 × xD)) (q0 : Nat) (x1 : Int32) (x2 : Int32) (d : xD) : Option (Int32 × xD) :=
  (xgR 10 sh d q0 3).bind fun v1 => (xaI .int sh d v1 (2 : Int32)).bind fun v2 => if v2 ≤ x2 then (k_X10_isFreeStep_56 sh d) else ((xon 10 sh q0 (f_X10_isThere sh q0 (0 : Int32) x2 d)).bind fun z3 => if z3.1 = 0 then (k_X10_isFreeStep_50 sh rec19 q0 x1 x2 z3.2) else ((xgR 10 sh z3.2 q0 41).bind fun v4 => (xaI .int sh z3.2 v4 x2).bind fun v5 => if v5 = x1 then (k_X10_isFreeStep_48 sh z3.2) else (k_X10_isFreeStep_50 sh rec19 q0 x1 x2 z3.2)))
def f_X10_isFreeStep (sh : List xSh) (q0 : Nat) (x1 : Int32) (d : xD) : Option (Int32 × xD) :=
  if x1 < (1 : Int32) then (k_X10_isFreeStep_15 sh d) else ((xgR 10 sh d q0 3).bind fun v6 => (xaI .int sh d v6 (0 : Int32)).bind fun v7 => if x1 < v7 then (xloop (fun _ _ _ _ => none) (b_X10_isFreeStep_19 sh) xF q0 x1 (0 : Int32) d) else (k_X10_isFreeStep_15 sh d))
set_option maxHeartbeats 4000000 in
set_option maxRecDepth 100000 in
theorem mt_X10_isFreeStep (l : Launch) (D : va_G) (cid : FieldType → ClassId) (b : Nat) (ex : Bool) (sa sv B0 : Nat) (sh : List xSh) (q0 : Nat) (x1 : Int32) (d : xD) (r : Int32) (dz : xD) (hf : f_X10_isFreeStep sh q0 x1 d = some (r, dz)) : xMet l yX10_isFreeStep cX10_isFreeStep 3 (some .boolean) 1 0 0 D cid b ex sa sv B0 [.ref (b + q0), .int x1] sh d (some (.int r)) sh dz := by
  refine xMet.of (by decide) (Nat.le_of_ble_eq_true rfl) ?_
  intro p e s m below meth c ls A S hr hin G hl
  have hl : lv_has ls 3 [(0, .ref (b + q0)), (1, .int x1)] := hl
  generalize ([.ref (b + q0), .int x1] : List Value).toArray = av at S ⊢
  have hx := S.1
  have hb := S.2.1
  have hml := S.2.2.1
  have hown := S.2.2.2.1
  have hts := S.2.2.2.2.1
  have K15 : ∀ (d : xD), k_X10_isFreeStep_15 sh d = some (r, dz) → ∀ (H : Heap) (locs : List Loc) (ls : Array Slot), lv_has ls 3 [] → xG D cid b A sh d s H locs → W p l e (xRm 1 0 0) s m av below meth c H locs 0 0 (MQ below (xQ D cid b ex A (some (.int r)) sh dz) av s 0 0 A) (F0 m 15 ls []) := by
    intro d hf H locs ls hl G
    unfold k_X10_isFreeStep_15 at hf
    refine lv_iconst (v := (0 : Int32)) hx hb dX10_isFreeStep_15 (by decide) ?_
    cases hf
    exact xr_zret S G (fun _ => rfl) hr (by decide) dX10_isFreeStep_16
  have K56 : ∀ (d : xD), k_X10_isFreeStep_56 sh d = some (r, dz) → ∀ (H : Heap) (locs : List Loc) (ls : Array Slot), lv_has ls 3 [] → xG D cid b A sh d s H locs → W p l e (xRm 1 0 0) s m av below meth c H locs 0 0 (MQ below (xQ D cid b ex A (some (.int r)) sh dz) av s 0 0 A) (F0 m 56 ls []) := by
    intro d hf H locs ls hl G
    unfold k_X10_isFreeStep_56 at hf
    refine lv_iconst (v := (1 : Int32)) hx hb dX10_isFreeStep_56 (by decide) ?_
    cases hf
    exact xr_zret S G (fun _ => rfl) hr (by decide) dX10_isFreeStep_57
  have K50 : ∀ (rec19 : Nat → Int32 → Int32 → xD → Option (Int32 × xD)) (hrec19 : ∀ (q0 : Nat) (x1 : Int32) (x2 : Int32) (d : xD), rec19 q0 x1 x2 d = some (r, dz) → ∀ (H : Heap) (locs : List Loc) (ls : Array Slot), lv_has ls 3 [(0, .ref (b + q0)), (1, .int x1), (2, .int x2)] → xG D cid b A sh d s H locs → W p l e (xRm 1 0 0) s m av below meth c H locs 0 0 (MQ below (xQ D cid b ex A (some (.int r)) sh dz) av s 0 0 A) (F0 m 19 ls [])) (q0 : Nat) (x1 : Int32) (x2 : Int32) (d : xD), k_X10_isFreeStep_50 sh rec19 q0 x1 x2 d = some (r, dz) → ∀ (H : Heap) (locs : List Loc) (ls : Array Slot), lv_has ls 3 [(0, .ref (b + q0)), (1, .int x1), (2, .int x2)] → xG D cid b A sh d s H locs → W p l e (xRm 1 0 0) s m av below meth c H locs 0 0 (MQ below (xQ D cid b ex A (some (.int r)) sh dz) av s 0 0 A) (F0 m 50 ls []) := by
    intro rec19 hrec19 q0 x1 x2 d hf H locs ls hl G
    unfold k_X10_isFreeStep_50 at hf
    refine lv_iinc (v := (x2 + 1)) (lv' := [(2, .int (x2 + 1)), (0, .ref (b + q0)), (1, .int x1)]) hx hb dX10_isFreeStep_50 hl (k := 2) rfl rfl (by decide) rfl (fun ls hl => ?_)
    refine lv_goto (tgt := 19) hx hb dX10_isFreeStep_53 (by decide) ?_
    exact hrec19 q0 x1 (x2 + 1) d hf _ _ ls (lv_sub hl [1, 2, 0] rfl) G
  have K48 : ∀ (d : xD), k_X10_isFreeStep_48 sh d = some (r, dz) → ∀ (H : Heap) (locs : List Loc) (ls : Array Slot), lv_has ls 3 [] → xG D cid b A sh d s H locs → W p l e (xRm 1 0 0) s m av below meth c H locs 0 0 (MQ below (xQ D cid b ex A (some (.int r)) sh dz) av s 0 0 A) (F0 m 48 ls []) := by
    intro d hf H locs ls hl G
    unfold k_X10_isFreeStep_48 at hf
    refine lv_iconst (v := (0 : Int32)) hx hb dX10_isFreeStep_48 (by decide) ?_
    cases hf
    exact xr_zret S G (fun _ => rfl) hr (by decide) dX10_isFreeStep_49
  have K19 : ∀ (n : Nat) (q0 : Nat) (x1 : Int32) (x2 : Int32) (d : xD), xloop (fun _ _ _ _ => none) (b_X10_isFreeStep_19 sh) n q0 x1 x2 d = some (r, dz) → ∀ (H : Heap) (locs : List Loc) (ls : Array Slot), lv_has ls 3 [(0, .ref (b + q0)), (1, .int x1), (2, .int x2)] → xG D cid b A sh d s H locs → W p l e (xRm 1 0 0) s m av below meth c H locs 0 0 (MQ below (xQ D cid b ex A (some (.int r)) sh dz) av s 0 0 A) (F0 m 19 ls []) := by
    intro n
    induction n with
    | zero =>
      intro q0 x1 x2 d hf
      have hf : (none : Option (Int32 × xD)) = some (r, dz) := hf
      cases hf
    | succ n hrec19 =>
      intro q0 x1 x2 d hf H locs ls hl G
      have hf : b_X10_isFreeStep_19 sh (xloop (fun _ _ _ _ => none) (b_X10_isFreeStep_19 sh) n) q0 x1 x2 d = some (r, dz) := hf
      unfold b_X10_isFreeStep_19 at hf
      refine lv_iload_n hx hb dX10_isFreeStep_19 rfl (lv_at hl 2 rfl) ?_
      refine lv_aload_n hx hb dX10_isFreeStep_20 rfl (lv_at hl 0 rfl) ?_
      obtain ⟨v1, hv1, hf⟩ := x_ob hf
      refine xr_getR (ci := 10) (k := 3) S G hv1 rfl kw_1171 dX10_isFreeStep_21 ?_
      refine lv_iconst (v := (2 : Int32)) hx hb dX10_isFreeStep_24 (by decide) ?_
      obtain ⟨v2, hv2, hf⟩ := x_ob hf
      refine xr_iald S G hv2 dX10_isFreeStep_25 ?_
      refine lv_icmp_ge (tgt := 56) hx hb dX10_isFreeStep_26 (by decide) (fun c => ?_) (fun c => ?_)
      · have hf := x_pos c hf
        exact K56 d hf _ _ ls (lv_sub hl [] rfl) G
      · have hf := x_neg c hf
        refine lv_aload_n hx hb dX10_isFreeStep_29 rfl (lv_at hl 0 rfl) ?_
        refine lv_iconst (v := (0 : Int32)) hx hb dX10_isFreeStep_30 (by decide) ?_
        refine lv_iload_n hx hb dX10_isFreeStep_31 rfl (lv_at hl 2 rfl) ?_
        obtain ⟨z3, hz3, hf⟩ := x_ob hf
        obtain ⟨hqz3, hz3⟩ := xon_of hz3
        refine xr_callV (ci := 10) (As := [.int (0 : Int32), .int x2]) (rest := []) (st1 := [.int z3.1]) S G hl.1 (fun _ => rfl) (mt_X10_isThere l D cid b ex sa sv B0 sh q0 (0 : Int32) x2 d _ _ hz3) hqz3 (by decide) kw_1608 kw_1610 ks_78 kw_17 kw_1611 hd_X10_isThere ⟨Nat.le_of_ble_eq_true rfl, Nat.le_of_ble_eq_true rfl⟩ rfl rfl rfl (Nat.le_of_ble_eq_true rfl) ⟨Nat.le_of_ble_eq_true rfl, Nat.le_of_ble_eq_true rfl⟩ dX10_isFreeStep_32 (fun H locs G => ?_)
        refine lv_if_eq (tgt := 50) hx hb dX10_isFreeStep_35 (by decide) (fun c => ?_) (fun c => ?_)
        · have hf := x_pos c hf
          exact K50 _ hrec19 q0 x1 x2 z3.2 hf _ _ ls (lv_sub hl [0, 1, 2] rfl) G
        · have hf := x_neg c hf
          refine lv_aload_n hx hb dX10_isFreeStep_38 rfl (lv_at hl 0 rfl) ?_
          obtain ⟨v4, hv4, hf⟩ := x_ob hf
          refine xr_getR (ci := 10) (k := 41) S G hv4 rfl kw_1209 dX10_isFreeStep_39 ?_
          refine lv_iload_n hx hb dX10_isFreeStep_42 rfl (lv_at hl 2 rfl) ?_
          obtain ⟨v5, hv5, hf⟩ := x_ob hf
          refine xr_iald S G hv5 dX10_isFreeStep_43 ?_
          refine lv_iload_n hx hb dX10_isFreeStep_44 rfl (lv_at hl 1 rfl) ?_
          refine lv_icmp_ne (tgt := 50) hx hb dX10_isFreeStep_45 (by decide) (fun c => ?_) (fun c => ?_)
          · have hf := x_neg c hf
            exact K50 _ hrec19 q0 x1 x2 z3.2 hf _ _ ls (lv_sub hl [0, 1, 2] rfl) G
          · have hf := x_pos c hf
            exact K48 z3.2 hf _ _ ls (lv_sub hl [] rfl) G
  unfold f_X10_isFreeStep at hf
  refine lv_iload_n hx hb dX10_isFreeStep_0 rfl (lv_at hl 1 rfl) ?_
  refine lv_iconst (v := (1 : Int32)) hx hb dX10_isFreeStep_1 (by decide) ?_
  refine lv_icmp_lt (tgt := 15) hx hb dX10_isFreeStep_2 (by decide) (fun c => ?_) (fun c => ?_)
  · have hf := x_pos c hf
    exact K15 d hf _ _ ls (lv_sub hl [] rfl) G
  · have hf := x_neg c hf
    refine lv_iload_n hx hb dX10_isFreeStep_5 rfl (lv_at hl 1 rfl) ?_
    refine lv_aload_n hx hb dX10_isFreeStep_6 rfl (lv_at hl 0 rfl) ?_
    obtain ⟨v6, hv6, hf⟩ := x_ob hf
    refine xr_getR (ci := 10) (k := 3) S G hv6 rfl kw_1171 dX10_isFreeStep_7 ?_
    refine lv_iconst (v := (0 : Int32)) hx hb dX10_isFreeStep_10 (by decide) ?_
    obtain ⟨v7, hv7, hf⟩ := x_ob hf
    refine xr_iald S G hv7 dX10_isFreeStep_11 ?_
    refine lv_icmp_lt (tgt := 17) hx hb dX10_isFreeStep_12 (by decide) (fun c => ?_) (fun c => ?_)
    · have hf := x_pos c hf
      refine lv_iconst (v := (0 : Int32)) hx hb dX10_isFreeStep_17 (by decide) ?_
      refine lv_istore_n (lv' := [(2, .int (0 : Int32)), (0, .ref (b + q0)), (1, .int x1)]) hx hb dX10_isFreeStep_18 rfl hl (by decide) rfl (fun ls hl => ?_)
      exact K19 xF q0 x1 (0 : Int32) d hf _ _ ls (lv_sub hl [1, 2, 0] rfl) G
    · have hf := x_neg c hf
      exact K15 d hf _ _ ls (lv_sub hl [] rfl) G

-- HalfLandingsModel.isWalker(I)Z
theorem dX10_isWalker_0 : decode cX10_isWalker 0 = .ok (.iload_n 1, 1) := by decide +kernel
theorem dX10_isWalker_1 : decode cX10_isWalker 1 = .ok (.ifCond .lt 17, 3) := by decide +kernel
theorem dX10_isWalker_4 : decode cX10_isWalker 4 = .ok (.iload_n 1, 1) := by decide +kernel
theorem dX10_isWalker_5 : decode cX10_isWalker 5 = .ok (.aload_n 0, 1) := by decide +kernel
theorem dX10_isWalker_6 : decode cX10_isWalker 6 = .ok (.getfield 13, 3) := by decide +kernel
theorem dX10_isWalker_9 : decode cX10_isWalker 9 = .ok (.iconst 2, 1) := by decide +kernel
theorem dX10_isWalker_10 : decode cX10_isWalker 10 = .ok (.iaload, 1) := by decide +kernel
theorem dX10_isWalker_11 : decode cX10_isWalker 11 = .ok (.if_icmp .ge 7, 3) := by decide +kernel
theorem dX10_isWalker_14 : decode cX10_isWalker 14 = .ok (.iconst 1, 1) := by decide +kernel
theorem dX10_isWalker_15 : decode cX10_isWalker 15 = .ok (.goto 4, 3) := by decide +kernel
theorem dX10_isWalker_18 : decode cX10_isWalker 18 = .ok (.iconst 0, 1) := by decide +kernel
theorem dX10_isWalker_19 : decode cX10_isWalker 19 = .ok (.ireturn, 1) := by decide +kernel
theorem hd_X10_isWalker : yX10_isWalker.cls = xCn 10 ∧ yX10_isWalker.cls ≠ "java/lang/invoke/MethodHandle" ∧ yX10_isWalker.cls ≠ "java/lang/invoke/VarHandle" ∧ (parseMethodDescriptor yX10_isWalker.desc).map (fun d => d.parameters.length) = some 1 := by decide +kernel
def k_X10_isWalker_19 (sh : List xSh) (y0 : Int32) (d : xD) : Option (Int32 × xD) :=
  (xz y0).bind fun v1 => some (v1, d)
def k_X10_isWalker_18 (sh : List xSh) (d : xD) : Option (Int32 × xD) :=
  k_X10_isWalker_19 sh (0 : Int32) d
def f_X10_isWalker (sh : List xSh) (q0 : Nat) (x1 : Int32) (d : xD) : Option (Int32 × xD) :=
  if x1 < 0 then (k_X10_isWalker_18 sh d) else ((xgR 10 sh d q0 3).bind fun v2 => (xaI .int sh d v2 (2 : Int32)).bind fun v3 => if v3 ≤ x1 then (k_X10_isWalker_18 sh d) else (k_X10_isWalker_19 sh (1 : Int32) d))
set_option maxHeartbeats 4000000 in
set_option maxRecDepth 100000 in
theorem mt_X10_isWalker (l : Launch) (D : va_G) (cid : FieldType → ClassId) (b : Nat) (ex : Bool) (sa sv B0 : Nat) (sh : List xSh) (q0 : Nat) (x1 : Int32) (d : xD) (r : Int32) (dz : xD) (hf : f_X10_isWalker sh q0 x1 d = some (r, dz)) : xMet l yX10_isWalker cX10_isWalker 2 (some .boolean) 0 0 0 D cid b ex sa sv B0 [.ref (b + q0), .int x1] sh d (some (.int r)) sh dz := by
  refine xMet.of (by decide) (Nat.le_of_ble_eq_true rfl) ?_
  intro p e s m below meth c ls A S hr hin G hl
  have hl : lv_has ls 2 [(0, .ref (b + q0)), (1, .int x1)] := hl
  generalize ([.ref (b + q0), .int x1] : List Value).toArray = av at S ⊢
  have hx := S.1
  have hb := S.2.1
  have hml := S.2.2.1
  have hown := S.2.2.2.1
  have hts := S.2.2.2.2.1
  have K19 : ∀ (y0 : Int32) (d : xD), k_X10_isWalker_19 sh y0 d = some (r, dz) → ∀ (H : Heap) (locs : List Loc) (ls : Array Slot), lv_has ls 2 [] → xG D cid b A sh d s H locs → W p l e (xRm 0 0 0) s m av below meth c H locs 0 0 (MQ below (xQ D cid b ex A (some (.int r)) sh dz) av s 0 0 A) (F0 m 19 ls [.int y0]) := by
    intro y0 d hf H locs ls hl G
    unfold k_X10_isWalker_19 at hf
    obtain ⟨v1, hv1, hf⟩ := x_ob hf
    cases hf
    exact xr_zret S G (fun _ => rfl) hr hv1 dX10_isWalker_19
  have K18 : ∀ (d : xD), k_X10_isWalker_18 sh d = some (r, dz) → ∀ (H : Heap) (locs : List Loc) (ls : Array Slot), lv_has ls 2 [] → xG D cid b A sh d s H locs → W p l e (xRm 0 0 0) s m av below meth c H locs 0 0 (MQ below (xQ D cid b ex A (some (.int r)) sh dz) av s 0 0 A) (F0 m 18 ls []) := by
    intro d hf H locs ls hl G
    unfold k_X10_isWalker_18 at hf
    refine lv_iconst (v := (0 : Int32)) hx hb dX10_isWalker_18 (by decide) ?_
    exact K19 (0 : Int32) d hf _ _ ls (lv_sub hl [] rfl) G
  unfold f_X10_isWalker at hf
  refine lv_iload_n hx hb dX10_isWalker_0 rfl (lv_at hl 1 rfl) ?_
  refine lv_if_lt (tgt := 18) hx hb dX10_isWalker_1 (by decide) (fun c => ?_) (fun c => ?_)
  · have hf := x_pos c hf
    exact K18 d hf _ _ ls (lv_sub hl [] rfl) G
  · have hf := x_neg c hf
    refine lv_iload_n hx hb dX10_isWalker_4 rfl (lv_at hl 1 rfl) ?_
    refine lv_aload_n hx hb dX10_isWalker_5 rfl (lv_at hl 0 rfl) ?_
    obtain ⟨v2, hv2, hf⟩ := x_ob hf
    refine xr_getR (ci := 10) (k := 3) S G hv2 rfl kw_1171 dX10_isWalker_6 ?_
    refine lv_iconst (v := (2 : Int32)) hx hb dX10_isWalker_9 (by decide) ?_
    obtain ⟨v3, hv3, hf⟩ := x_ob hf
    refine xr_iald S G hv3 dX10_isWalker_10 ?_
    refine lv_icmp_ge (tgt := 18) hx hb dX10_isWalker_11 (by decide) (fun c => ?_) (fun c => ?_)
    · have hf := x_pos c hf
      exact K18 d hf _ _ ls (lv_sub hl [] rfl) G
    · have hf := x_neg c hf
      refine lv_iconst (v := (1 : Int32)) hx hb dX10_isWalker_14 (by decide) ?_
      refine lv_goto (tgt := 19) hx hb dX10_isWalker_15 (by decide) ?_
      exact K19 (1 : Int32) d hf _ _ ls (lv_sub hl [] rfl) G
-- HalfLandingsModel.isBench(I)Z
theorem dX10_isBench_0 : decode cX10_isBench 0 = .ok (.iload_n 1, 1) := by decide +kernel
theorem dX10_isBench_1 : decode cX10_isBench 1 = .ok (.ifCond .lt 17, 3) := by decide +kernel
theorem dX10_isBench_4 : decode cX10_isBench 4 = .ok (.iload_n 1, 1) := by decide +kernel
theorem dX10_isBench_5 : decode cX10_isBench 5 = .ok (.aload_n 0, 1) := by decide +kernel
theorem dX10_isBench_6 : decode cX10_isBench 6 = .ok (.getfield 13, 3) := by decide +kernel
theorem dX10_isBench_9 : decode cX10_isBench 9 = .ok (.iconst 1, 1) := by decide +kernel
theorem dX10_isBench_10 : decode cX10_isBench 10 = .ok (.iaload, 1) := by decide +kernel
theorem dX10_isBench_11 : decode cX10_isBench 11 = .ok (.if_icmp .ge 7, 3) := by decide +kernel
theorem dX10_isBench_14 : decode cX10_isBench 14 = .ok (.iconst 1, 1) := by decide +kernel
theorem dX10_isBench_15 : decode cX10_isBench 15 = .ok (.goto 4, 3) := by decide +kernel
theorem dX10_isBench_18 : decode cX10_isBench 18 = .ok (.iconst 0, 1) := by decide +kernel
theorem dX10_isBench_19 : decode cX10_isBench 19 = .ok (.ireturn, 1) := by decide +kernel
theorem hd_X10_isBench : yX10_isBench.cls = xCn 10 ∧ yX10_isBench.cls ≠ "java/lang/invoke/MethodHandle" ∧ yX10_isBench.cls ≠ "java/lang/invoke/VarHandle" ∧ (parseMethodDescriptor yX10_isBench.desc).map (fun d => d.parameters.length) = some 1 := by decide +kernel
def k_X10_isBench_19 (sh : List xSh) (y0 : Int32) (d : xD) : Option (Int32 × xD) :=
  (xz y0).bind fun v1 => some (v1, d)
def k_X10_isBench_18 (sh : List xSh) (d : xD) : Option (Int32 × xD) :=
  k_X10_isBench_19 sh (0 : Int32) d
def f_X10_isBench (sh : List xSh) (q0 : Nat) (x1 : Int32) (d : xD) : Option (Int32 × xD) :=
  if x1 < 0 then (k_X10_isBench_18 sh d) else ((xgR 10 sh d q0 3).bind fun v2 => (xaI .int sh d v2 (1 : Int32)).bind fun v3 => if v3 ≤ x1 then (k_X10_isBench_18 sh d) else (k_X10_isBench_19 sh (1 : Int32) d))
set_option maxHeartbeats 4000000 in
set_option maxRecDepth 100000 in
theorem mt_X10_isBench (l : Launch) (D : va_G) (cid : FieldType → ClassId) (b : Nat) (ex : Bool) (sa sv B0 : Nat) (sh : List xSh) (q0 : Nat) (x1 : Int32) (d : xD) (r : Int32) (dz : xD) (hf : f_X10_isBench sh q0 x1 d = some (r, dz)) : xMet l yX10_isBench cX10_isBench 2 (some .boolean) 0 0 0 D cid b ex sa sv B0 [.ref (b + q0), .int x1] sh d (some (.int r)) sh dz := by
  refine xMet.of (by decide) (Nat.le_of_ble_eq_true rfl) ?_
  intro p e s m below meth c ls A S hr hin G hl
  have hl : lv_has ls 2 [(0, .ref (b + q0)), (1, .int x1)] := hl
  generalize ([.ref (b + q0), .int x1] : List Value).toArray = av at S ⊢
  have hx := S.1
  have hb := S.2.1
  have hml := S.2.2.1
  have hown := S.2.2.2.1
  have hts := S.2.2.2.2.1
  have K19 : ∀ (y0 : Int32) (d : xD), k_X10_isBench_19 sh y0 d = some (r, dz) → ∀ (H : Heap) (locs : List Loc) (ls : Array Slot), lv_has ls 2 [] → xG D cid b A sh d s H locs → W p l e (xRm 0 0 0) s m av below meth c H locs 0 0 (MQ below (xQ D cid b ex A (some (.int r)) sh dz) av s 0 0 A) (F0 m 19 ls [.int y0]) := by
    intro y0 d hf H locs ls hl G
    unfold k_X10_isBench_19 at hf
    obtain ⟨v1, hv1, hf⟩ := x_ob hf
    cases hf
    exact xr_zret S G (fun _ => rfl) hr hv1 dX10_isBench_19
  have K18 : ∀ (d : xD), k_X10_isBench_18 sh d = some (r, dz) → ∀ (H : Heap) (locs : List Loc) (ls : Array Slot), lv_has ls 2 [] → xG D cid b A sh d s H locs → W p l e (xRm 0 0 0) s m av below meth c H locs 0 0 (MQ below (xQ D cid b ex A (some (.int r)) sh dz) av s 0 0 A) (F0 m 18 ls []) := by
    intro d hf H locs ls hl G
    unfold k_X10_isBench_18 at hf
    refine lv_iconst (v := (0 : Int32)) hx hb dX10_isBench_18 (by decide) ?_
    exact K19 (0 : Int32) d hf _ _ ls (lv_sub hl [] rfl) G
  unfold f_X10_isBench at hf
  refine lv_iload_n hx hb dX10_isBench_0 rfl (lv_at hl 1 rfl) ?_
  refine lv_if_lt (tgt := 18) hx hb dX10_isBench_1 (by decide) (fun c => ?_) (fun c => ?_)
  · have hf := x_pos c hf
    exact K18 d hf _ _ ls (lv_sub hl [] rfl) G
  · have hf := x_neg c hf
    refine lv_iload_n hx hb dX10_isBench_4 rfl (lv_at hl 1 rfl) ?_
    refine lv_aload_n hx hb dX10_isBench_5 rfl (lv_at hl 0 rfl) ?_
    obtain ⟨v2, hv2, hf⟩ := x_ob hf
    refine xr_getR (ci := 10) (k := 3) S G hv2 rfl kw_1171 dX10_isBench_6 ?_
    refine lv_iconst (v := (1 : Int32)) hx hb dX10_isBench_9 (by decide) ?_
    obtain ⟨v3, hv3, hf⟩ := x_ob hf
    refine xr_iald S G hv3 dX10_isBench_10 ?_
    refine lv_icmp_ge (tgt := 18) hx hb dX10_isBench_11 (by decide) (fun c => ?_) (fun c => ?_)
    · have hf := x_pos c hf
      exact K18 d hf _ _ ls (lv_sub hl [] rfl) G
    · have hf := x_neg c hf
      refine lv_iconst (v := (1 : Int32)) hx hb dX10_isBench_14 (by decide) ?_
      refine lv_goto (tgt := 19) hx hb dX10_isBench_15 (by decide) ?_
      exact K19 (1 : Int32) d hf _ _ ls (lv_sub hl [] rfl) G
-- HalfLandingsModel.isThere(II)Z
theorem dX10_isThere_0 : decode cX10_isThere 0 = .ok (.aload_n 0, 1) := by decide +kernel
theorem dX10_isThere_1 : decode cX10_isThere 1 = .ok (.getfield 87, 3) := by decide +kernel
theorem dX10_isThere_4 : decode cX10_isThere 4 = .ok (.bipush 6, 2) := by decide +kernel
theorem dX10_isThere_6 : decode cX10_isThere 6 = .ok (.iload_n 1, 1) := by decide +kernel
theorem dX10_isThere_7 : decode cX10_isThere 7 = .ok (.imul, 1) := by decide +kernel
theorem dX10_isThere_8 : decode cX10_isThere 8 = .ok (.iload_n 2, 1) := by decide +kernel
theorem dX10_isThere_9 : decode cX10_isThere 9 = .ok (.iadd, 1) := by decide +kernel
theorem dX10_isThere_10 : decode cX10_isThere 10 = .ok (.iaload, 1) := by decide +kernel
theorem dX10_isThere_11 : decode cX10_isThere 11 = .ok (.iconst 1, 1) := by decide +kernel
theorem dX10_isThere_12 : decode cX10_isThere 12 = .ok (.if_icmp .eq 18, 3) := by decide +kernel
theorem dX10_isThere_15 : decode cX10_isThere 15 = .ok (.aload_n 0, 1) := by decide +kernel
theorem dX10_isThere_16 : decode cX10_isThere 16 = .ok (.getfield 87, 3) := by decide +kernel
theorem dX10_isThere_19 : decode cX10_isThere 19 = .ok (.bipush 6, 2) := by decide +kernel
theorem dX10_isThere_21 : decode cX10_isThere 21 = .ok (.iload_n 1, 1) := by decide +kernel
theorem dX10_isThere_22 : decode cX10_isThere 22 = .ok (.imul, 1) := by decide +kernel
theorem dX10_isThere_23 : decode cX10_isThere 23 = .ok (.iload_n 2, 1) := by decide +kernel
theorem dX10_isThere_24 : decode cX10_isThere 24 = .ok (.iadd, 1) := by decide +kernel
theorem dX10_isThere_25 : decode cX10_isThere 25 = .ok (.iaload, 1) := by decide +kernel
theorem dX10_isThere_26 : decode cX10_isThere 26 = .ok (.iconst 2, 1) := by decide +kernel
theorem dX10_isThere_27 : decode cX10_isThere 27 = .ok (.if_icmp .ne 7, 3) := by decide +kernel
theorem dX10_isThere_30 : decode cX10_isThere 30 = .ok (.iconst 1, 1) := by decide +kernel
theorem dX10_isThere_31 : decode cX10_isThere 31 = .ok (.goto 4, 3) := by decide +kernel
theorem dX10_isThere_34 : decode cX10_isThere 34 = .ok (.iconst 0, 1) := by decide +kernel
theorem dX10_isThere_35 : decode cX10_isThere 35 = .ok (.ireturn, 1) := by decide +kernel
theorem hd_X10_isThere : yX10_isThere.cls = xCn 10 ∧ yX10_isThere.cls ≠ "java/lang/invoke/MethodHandle" ∧ yX10_isThere.cls ≠ "java/lang/invoke/VarHandle" ∧ (parseMethodDescriptor yX10_isThere.desc).map (fun d => d.parameters.length) = some 2 := by decide +kernel
def k_X10_isThere_35 (sh : List xSh) (y0 : Int32) (d : xD) : Option (Int32 × xD) :=
  (xz y0).bind fun v1 => some (v1, d)
def k_X10_isThere_30 (sh : List xSh) (d : xD) : Option (Int32 × xD) :=
  k_X10_isThere_35 sh (1 : Int32) d
def f_X10_isThere (sh : List xSh) (q0 : Nat) (x1 : Int32) (x2 : Int32) (d : xD) : Option (Int32 × xD) :=
  (xgR 10 sh d q0 40).bind fun v2 => (xaI .int sh d v2 (((6 : Int32) * x1) + x2)).bind fun v3 => if v3 = (1 : Int32) then (k_X10_isThere_30 sh d) else ((xgR 10 sh d q0 40).bind fun v4 => (xaI .int sh d v4 (((6 : Int32) * x1) + x2)).bind fun v5 => if v5 = (2 : Int32) then (k_X10_isThere_30 sh d) else (k_X10_isThere_35 sh (0 : Int32) d))
set_option maxHeartbeats 4000000 in
set_option maxRecDepth 100000 in
theorem mt_X10_isThere (l : Launch) (D : va_G) (cid : FieldType → ClassId) (b : Nat) (ex : Bool) (sa sv B0 : Nat) (sh : List xSh) (q0 : Nat) (x1 : Int32) (x2 : Int32) (d : xD) (r : Int32) (dz : xD) (hf : f_X10_isThere sh q0 x1 x2 d = some (r, dz)) : xMet l yX10_isThere cX10_isThere 3 (some .boolean) 0 0 0 D cid b ex sa sv B0 [.ref (b + q0), .int x1, .int x2] sh d (some (.int r)) sh dz := by
  refine xMet.of (by decide) (Nat.le_of_ble_eq_true rfl) ?_
  intro p e s m below meth c ls A S hr hin G hl
  have hl : lv_has ls 3 [(0, .ref (b + q0)), (1, .int x1), (2, .int x2)] := hl
  generalize ([.ref (b + q0), .int x1, .int x2] : List Value).toArray = av at S ⊢
  have hx := S.1
  have hb := S.2.1
  have hml := S.2.2.1
  have hown := S.2.2.2.1
  have hts := S.2.2.2.2.1
  have K35 : ∀ (y0 : Int32) (d : xD), k_X10_isThere_35 sh y0 d = some (r, dz) → ∀ (H : Heap) (locs : List Loc) (ls : Array Slot), lv_has ls 3 [] → xG D cid b A sh d s H locs → W p l e (xRm 0 0 0) s m av below meth c H locs 0 0 (MQ below (xQ D cid b ex A (some (.int r)) sh dz) av s 0 0 A) (F0 m 35 ls [.int y0]) := by
    intro y0 d hf H locs ls hl G
    unfold k_X10_isThere_35 at hf
    obtain ⟨v1, hv1, hf⟩ := x_ob hf
    cases hf
    exact xr_zret S G (fun _ => rfl) hr hv1 dX10_isThere_35
  have K30 : ∀ (d : xD), k_X10_isThere_30 sh d = some (r, dz) → ∀ (H : Heap) (locs : List Loc) (ls : Array Slot), lv_has ls 3 [] → xG D cid b A sh d s H locs → W p l e (xRm 0 0 0) s m av below meth c H locs 0 0 (MQ below (xQ D cid b ex A (some (.int r)) sh dz) av s 0 0 A) (F0 m 30 ls []) := by
    intro d hf H locs ls hl G
    unfold k_X10_isThere_30 at hf
    refine lv_iconst (v := (1 : Int32)) hx hb dX10_isThere_30 (by decide) ?_
    refine lv_goto (tgt := 35) hx hb dX10_isThere_31 (by decide) ?_
    exact K35 (1 : Int32) d hf _ _ ls (lv_sub hl [] rfl) G
  unfold f_X10_isThere at hf
  refine lv_aload_n hx hb dX10_isThere_0 rfl (lv_at hl 0 rfl) ?_
  obtain ⟨v2, hv2, hf⟩ := x_ob hf
  refine xr_getR (ci := 10) (k := 40) S G hv2 rfl kw_1208 dX10_isThere_1 ?_
  refine lv_bipush (v := (6 : Int32)) hx hb dX10_isThere_4 (by decide) ?_
  refine lv_iload_n hx hb dX10_isThere_6 rfl (lv_at hl 1 rfl) ?_
  refine lv_imul hx hb dX10_isThere_7 ?_
  refine lv_iload_n hx hb dX10_isThere_8 rfl (lv_at hl 2 rfl) ?_
  refine lv_iadd hx hb dX10_isThere_9 ?_
  obtain ⟨v3, hv3, hf⟩ := x_ob hf
  refine xr_iald S G hv3 dX10_isThere_10 ?_
  refine lv_iconst (v := (1 : Int32)) hx hb dX10_isThere_11 (by decide) ?_
  refine lv_icmp_eq (tgt := 30) hx hb dX10_isThere_12 (by decide) (fun c => ?_) (fun c => ?_)
  · have hf := x_pos c hf
    exact K30 d hf _ _ ls (lv_sub hl [] rfl) G
  · have hf := x_neg c hf
    refine lv_aload_n hx hb dX10_isThere_15 rfl (lv_at hl 0 rfl) ?_
    obtain ⟨v4, hv4, hf⟩ := x_ob hf
    refine xr_getR (ci := 10) (k := 40) S G hv4 rfl kw_1208 dX10_isThere_16 ?_
    refine lv_bipush (v := (6 : Int32)) hx hb dX10_isThere_19 (by decide) ?_
    refine lv_iload_n hx hb dX10_isThere_21 rfl (lv_at hl 1 rfl) ?_
    refine lv_imul hx hb dX10_isThere_22 ?_
    refine lv_iload_n hx hb dX10_isThere_23 rfl (lv_at hl 2 rfl) ?_
    refine lv_iadd hx hb dX10_isThere_24 ?_
    obtain ⟨v5, hv5, hf⟩ := x_ob hf
    refine xr_iald S G hv5 dX10_isThere_25 ?_
    refine lv_iconst (v := (2 : Int32)) hx hb dX10_isThere_26 (by decide) ?_
    refine lv_icmp_ne (tgt := 34) hx hb dX10_isThere_27 (by decide) (fun c => ?_) (fun c => ?_)
    · have hf := x_neg c hf
      refine lv_iconst (v := (0 : Int32)) hx hb dX10_isThere_34 (by decide) ?_
      exact K35 (0 : Int32) d hf _ _ ls (lv_sub hl [] rfl) G
    · have hf := x_pos c hf
      exact K30 d hf _ _ ls (lv_sub hl [] rfl) G
-- HalfLandingsModel.bitsOf(I)I
theorem dX10_bitsOf_0 : decode cX10_bitsOf 0 = .ok (.iconst 0, 1) := by decide +kernel
theorem dX10_bitsOf_1 : decode cX10_bitsOf 1 = .ok (.istore_n 1, 1) := by decide +kernel
theorem dX10_bitsOf_2 : decode cX10_bitsOf 2 = .ok (.iconst 0, 1) := by decide +kernel
theorem dX10_bitsOf_3 : decode cX10_bitsOf 3 = .ok (.istore_n 2, 1) := by decide +kernel
theorem dX10_bitsOf_4 : decode cX10_bitsOf 4 = .ok (.iload_n 2, 1) := by decide +kernel
theorem dX10_bitsOf_5 : decode cX10_bitsOf 5 = .ok (.bipush 12, 2) := by decide +kernel
theorem dX10_bitsOf_7 : decode cX10_bitsOf 7 = .ok (.if_icmp .ge 17, 3) := by decide +kernel
theorem dX10_bitsOf_10 : decode cX10_bitsOf 10 = .ok (.iload_n 1, 1) := by decide +kernel
theorem dX10_bitsOf_11 : decode cX10_bitsOf 11 = .ok (.iload_n 0, 1) := by decide +kernel
theorem dX10_bitsOf_12 : decode cX10_bitsOf 12 = .ok (.iload_n 2, 1) := by decide +kernel
theorem dX10_bitsOf_13 : decode cX10_bitsOf 13 = .ok (.ishr, 1) := by decide +kernel
theorem dX10_bitsOf_14 : decode cX10_bitsOf 14 = .ok (.iconst 1, 1) := by decide +kernel
theorem dX10_bitsOf_15 : decode cX10_bitsOf 15 = .ok (.iand, 1) := by decide +kernel
theorem dX10_bitsOf_16 : decode cX10_bitsOf 16 = .ok (.iadd, 1) := by decide +kernel
theorem dX10_bitsOf_17 : decode cX10_bitsOf 17 = .ok (.istore_n 1, 1) := by decide +kernel
theorem dX10_bitsOf_18 : decode cX10_bitsOf 18 = .ok (.iinc 2 1, 3) := by decide +kernel
theorem dX10_bitsOf_21 : decode cX10_bitsOf 21 = .ok (.goto (-17), 3) := by decide +kernel
theorem dX10_bitsOf_24 : decode cX10_bitsOf 24 = .ok (.iload_n 1, 1) := by decide +kernel
theorem dX10_bitsOf_25 : decode cX10_bitsOf 25 = .ok (.ireturn, 1) := by decide +kernel
theorem hd_X10_bitsOf : yX10_bitsOf.cls ≠ "java/lang/invoke/MethodHandle" ∧ yX10_bitsOf.cls ≠ "java/lang/invoke/VarHandle" ∧ (parseMethodDescriptor yX10_bitsOf.desc).map (fun d => d.parameters.length) = some 1 := by decide +kernel
def k_X10_bitsOf_24 (sh : List xSh) (x1 : Int32) (d : xD) : Option (Int32 × xD) :=
  some (x1, d)
def b_X10_bitsOf_4 (sh : List xSh) (rec4 : Int32 → Int32 → Int32 → xD → Option (Int32 × xD)) (x0 : Int32) (x1 : Int32) (x2 : Int32) (d : xD) : Option (Int32 × xD) :=
  if (12 : Int32) ≤ x2 then (k_X10_bitsOf_24 sh x1 d) else (rec4 x0 (x1 + ((x0 >>> (x2 &&& 31)) &&& (1 : Int32))) (x2 + 1) d)
def f_X10_bitsOf (sh : List xSh) (x0 : Int32) (d : xD) : Option (Int32 × xD) :=
  xloop (fun _ _ _ _ => none) (b_X10_bitsOf_4 sh) xF x0 (0 : Int32) (0 : Int32) d
set_option maxHeartbeats 4000000 in
set_option maxRecDepth 100000 in
theorem mt_X10_bitsOf (l : Launch) (D : va_G) (cid : FieldType → ClassId) (b : Nat) (ex : Bool) (sa sv B0 : Nat) (sh : List xSh) (x0 : Int32) (d : xD) (r : Int32) (dz : xD) (hf : f_X10_bitsOf sh x0 d = some (r, dz)) : xMet l yX10_bitsOf cX10_bitsOf 3 (some .int) 0 0 0 D cid b ex sa sv B0 [.int x0] sh d (some (.int r)) sh dz := by
  refine xMet.of (by decide) (Nat.le_of_ble_eq_true rfl) ?_
  intro p e s m below meth c ls A S hr hin G hl
  have hl : lv_has ls 3 [(0, .int x0)] := hl
  generalize ([.int x0] : List Value).toArray = av at S ⊢
  have hx := S.1
  have hb := S.2.1
  have hml := S.2.2.1
  have hown := S.2.2.2.1
  have hts := S.2.2.2.2.1
  have K24 : ∀ (x1 : Int32) (d : xD), k_X10_bitsOf_24 sh x1 d = some (r, dz) → ∀ (H : Heap) (locs : List Loc) (ls : Array Slot), lv_has ls 3 [(1, .int x1)] → xG D cid b A sh d s H locs → W p l e (xRm 0 0 0) s m av below meth c H locs 0 0 (MQ below (xQ D cid b ex A (some (.int r)) sh dz) av s 0 0 A) (F0 m 24 ls []) := by
    intro x1 d hf H locs ls hl G
    unfold k_X10_bitsOf_24 at hf
    refine lv_iload_n hx hb dX10_bitsOf_24 rfl (lv_at hl 0 rfl) ?_
    cases hf
    exact xr_iret S G (fun _ => rfl) hr dX10_bitsOf_25
  have K4 : ∀ (n : Nat) (x0 : Int32) (x1 : Int32) (x2 : Int32) (d : xD), xloop (fun _ _ _ _ => none) (b_X10_bitsOf_4 sh) n x0 x1 x2 d = some (r, dz) → ∀ (H : Heap) (locs : List Loc) (ls : Array Slot), lv_has ls 3 [(0, .int x0), (1, .int x1), (2, .int x2)] → xG D cid b A sh d s H locs → W p l e (xRm 0 0 0) s m av below meth c H locs 0 0 (MQ below (xQ D cid b ex A (some (.int r)) sh dz) av s 0 0 A) (F0 m 4 ls []) := by
    intro n
    induction n with
    | zero =>
      intro x0 x1 x2 d hf
      have hf : (none : Option (Int32 × xD)) = some (r, dz) := hf
      cases hf
    | succ n hrec4 =>
      intro x0 x1 x2 d hf H locs ls hl G
      have hf : b_X10_bitsOf_4 sh (xloop (fun _ _ _ _ => none) (b_X10_bitsOf_4 sh) n) x0 x1 x2 d = some (r, dz) := hf
      unfold b_X10_bitsOf_4 at hf
      refine lv_iload_n hx hb dX10_bitsOf_4 rfl (lv_at hl 2 rfl) ?_
      refine lv_bipush (v := (12 : Int32)) hx hb dX10_bitsOf_5 (by decide) ?_
      refine lv_icmp_ge (tgt := 24) hx hb dX10_bitsOf_7 (by decide) (fun c => ?_) (fun c => ?_)
      · have hf := x_pos c hf
        exact K24 x1 d hf _ _ ls (lv_sub hl [1] rfl) G
      · have hf := x_neg c hf
        refine lv_iload_n hx hb dX10_bitsOf_10 rfl (lv_at hl 1 rfl) ?_
        refine lv_iload_n hx hb dX10_bitsOf_11 rfl (lv_at hl 0 rfl) ?_
        refine lv_iload_n hx hb dX10_bitsOf_12 rfl (lv_at hl 2 rfl) ?_
        refine lv_ishr hx hb dX10_bitsOf_13 ?_
        refine lv_iconst (v := (1 : Int32)) hx hb dX10_bitsOf_14 (by decide) ?_
        refine lv_iand hx hb dX10_bitsOf_15 ?_
        refine lv_iadd hx hb dX10_bitsOf_16 ?_
        refine lv_istore_n (lv' := [(1, .int (x1 + ((x0 >>> (x2 &&& 31)) &&& (1 : Int32)))), (0, .int x0), (2, .int x2)]) hx hb dX10_bitsOf_17 rfl hl (by decide) rfl (fun ls hl => ?_)
        refine lv_iinc (v := (x2 + 1)) (lv' := [(2, .int (x2 + 1)), (1, .int (x1 + ((x0 >>> (x2 &&& 31)) &&& (1 : Int32)))), (0, .int x0)]) hx hb dX10_bitsOf_18 hl (k := 2) rfl rfl (by decide) rfl (fun ls hl => ?_)
        refine lv_goto (tgt := 4) hx hb dX10_bitsOf_21 (by decide) ?_
        exact hrec4 x0 (x1 + ((x0 >>> (x2 &&& 31)) &&& (1 : Int32))) (x2 + 1) d hf _ _ ls (lv_sub hl [2, 1, 0] rfl) G
  unfold f_X10_bitsOf at hf
  refine lv_iconst (v := (0 : Int32)) hx hb dX10_bitsOf_0 (by decide) ?_
  refine lv_istore_n (lv' := [(1, .int (0 : Int32)), (0, .int x0)]) hx hb dX10_bitsOf_1 rfl hl (by decide) rfl (fun ls hl => ?_)
  refine lv_iconst (v := (0 : Int32)) hx hb dX10_bitsOf_2 (by decide) ?_
  refine lv_istore_n (lv' := [(2, .int (0 : Int32)), (1, .int (0 : Int32)), (0, .int x0)]) hx hb dX10_bitsOf_3 rfl hl (by decide) rfl (fun ls hl => ?_)
  exact K4 xF x0 (0 : Int32) (0 : Int32) d hf _ _ ls (lv_sub hl [2, 1, 0] rfl) G
-- HalfLandingsModel.paceOf(I)I
theorem dX10_paceOf_0 : decode cX10_paceOf 0 = .ok (.iload_n 1, 1) := by decide +kernel
theorem dX10_paceOf_1 : decode cX10_paceOf 1 = .ok (.aload_n 0, 1) := by decide +kernel
theorem dX10_paceOf_2 : decode cX10_paceOf 2 = .ok (.getfield 111, 3) := by decide +kernel
theorem dX10_paceOf_5 : decode cX10_paceOf 5 = .ok (.if_icmp .ne 10, 3) := by decide +kernel
theorem dX10_paceOf_8 : decode cX10_paceOf 8 = .ok (.aload_n 0, 1) := by decide +kernel
theorem dX10_paceOf_9 : decode cX10_paceOf 9 = .ok (.getfield 328, 3) := by decide +kernel
theorem dX10_paceOf_12 : decode cX10_paceOf 12 = .ok (.goto 9, 3) := by decide +kernel
theorem dX10_paceOf_15 : decode cX10_paceOf 15 = .ok (.aload_n 0, 1) := by decide +kernel
theorem dX10_paceOf_16 : decode cX10_paceOf 16 = .ok (.getfield 34, 3) := by decide +kernel
theorem dX10_paceOf_19 : decode cX10_paceOf 19 = .ok (.iload_n 1, 1) := by decide +kernel
theorem dX10_paceOf_20 : decode cX10_paceOf 20 = .ok (.iaload, 1) := by decide +kernel
theorem dX10_paceOf_21 : decode cX10_paceOf 21 = .ok (.ireturn, 1) := by decide +kernel
theorem hd_X10_paceOf : yX10_paceOf.cls = xCn 10 ∧ yX10_paceOf.cls ≠ "java/lang/invoke/MethodHandle" ∧ yX10_paceOf.cls ≠ "java/lang/invoke/VarHandle" ∧ (parseMethodDescriptor yX10_paceOf.desc).map (fun d => d.parameters.length) = some 1 := by decide +kernel
def k_X10_paceOf_21 (sh : List xSh) (y0 : Int32) (d : xD) : Option (Int32 × xD) :=
  some (y0, d)
def f_X10_paceOf (sh : List xSh) (q0 : Nat) (x1 : Int32) (d : xD) : Option (Int32 × xD) :=
  (xgI 10 sh d q0 51).bind fun v1 => if x1 = v1 then ((xgI 10 sh d q0 52).bind fun v4 => k_X10_paceOf_21 sh v4 d) else ((xgR 10 sh d q0 10).bind fun v2 => (xaI .int sh d v2 x1).bind fun v3 => k_X10_paceOf_21 sh v3 d)
set_option maxHeartbeats 4000000 in
set_option maxRecDepth 100000 in
theorem mt_X10_paceOf (l : Launch) (D : va_G) (cid : FieldType → ClassId) (b : Nat) (ex : Bool) (sa sv B0 : Nat) (sh : List xSh) (q0 : Nat) (x1 : Int32) (d : xD) (r : Int32) (dz : xD) (hf : f_X10_paceOf sh q0 x1 d = some (r, dz)) : xMet l yX10_paceOf cX10_paceOf 2 (some .int) 0 0 0 D cid b ex sa sv B0 [.ref (b + q0), .int x1] sh d (some (.int r)) sh dz := by
  refine xMet.of (by decide) (Nat.le_of_ble_eq_true rfl) ?_
  intro p e s m below meth c ls A S hr hin G hl
  have hl : lv_has ls 2 [(0, .ref (b + q0)), (1, .int x1)] := hl
  generalize ([.ref (b + q0), .int x1] : List Value).toArray = av at S ⊢
  have hx := S.1
  have hb := S.2.1
  have hml := S.2.2.1
  have hown := S.2.2.2.1
  have hts := S.2.2.2.2.1
  have K21 : ∀ (y0 : Int32) (d : xD), k_X10_paceOf_21 sh y0 d = some (r, dz) → ∀ (H : Heap) (locs : List Loc) (ls : Array Slot), lv_has ls 2 [] → xG D cid b A sh d s H locs → W p l e (xRm 0 0 0) s m av below meth c H locs 0 0 (MQ below (xQ D cid b ex A (some (.int r)) sh dz) av s 0 0 A) (F0 m 21 ls [.int y0]) := by
    intro y0 d hf H locs ls hl G
    unfold k_X10_paceOf_21 at hf
    cases hf
    exact xr_iret S G (fun _ => rfl) hr dX10_paceOf_21
  unfold f_X10_paceOf at hf
  refine lv_iload_n hx hb dX10_paceOf_0 rfl (lv_at hl 1 rfl) ?_
  refine lv_aload_n hx hb dX10_paceOf_1 rfl (lv_at hl 0 rfl) ?_
  obtain ⟨v1, hv1, hf⟩ := x_ob hf
  refine xr_getI (ci := 10) (k := 51) S G hv1 rfl kw_1219 dX10_paceOf_2 ?_
  refine lv_icmp_ne (tgt := 15) hx hb dX10_paceOf_5 (by decide) (fun c => ?_) (fun c => ?_)
  · have hf := x_neg c hf
    refine lv_aload_n hx hb dX10_paceOf_15 rfl (lv_at hl 0 rfl) ?_
    obtain ⟨v2, hv2, hf⟩ := x_ob hf
    refine xr_getR (ci := 10) (k := 10) S G hv2 rfl kw_1178 dX10_paceOf_16 ?_
    refine lv_iload_n hx hb dX10_paceOf_19 rfl (lv_at hl 1 rfl) ?_
    obtain ⟨v3, hv3, hf⟩ := x_ob hf
    refine xr_iald S G hv3 dX10_paceOf_20 ?_
    exact K21 v3 d hf _ _ ls (lv_sub hl [] rfl) G
  · have hf := x_pos c hf
    refine lv_aload_n hx hb dX10_paceOf_8 rfl (lv_at hl 0 rfl) ?_
    obtain ⟨v4, hv4, hf⟩ := x_ob hf
    refine xr_getI (ci := 10) (k := 52) S G hv4 rfl kw_1220 dX10_paceOf_9 ?_
    refine lv_goto (tgt := 21) hx hb dX10_paceOf_12 (by decide) ?_
    exact K21 v4 d hf _ _ ls (lv_sub hl [] rfl) G
-- HalfLandingsModel.benchAt(I)I
theorem dX10_benchAt_0 : decode cX10_benchAt 0 = .ok (.aload_n 0, 1) := by decide +kernel
theorem dX10_benchAt_1 : decode cX10_benchAt 1 = .ok (.getfield 19, 3) := by decide +kernel
theorem dX10_benchAt_4 : decode cX10_benchAt 4 = .ok (.iconst 0, 1) := by decide +kernel
theorem dX10_benchAt_5 : decode cX10_benchAt 5 = .ok (.aload_n 0, 1) := by decide +kernel
theorem dX10_benchAt_6 : decode cX10_benchAt 6 = .ok (.getfield 13, 3) := by decide +kernel
theorem dX10_benchAt_9 : decode cX10_benchAt 9 = .ok (.iconst 1, 1) := by decide +kernel
theorem dX10_benchAt_10 : decode cX10_benchAt 10 = .ok (.iaload, 1) := by decide +kernel
theorem dX10_benchAt_11 : decode cX10_benchAt 11 = .ok (.iload_n 1, 1) := by decide +kernel
theorem dX10_benchAt_12 : decode cX10_benchAt 12 = .ok (.invokestatic 211, 3) := by decide +kernel
theorem dX10_benchAt_15 : decode cX10_benchAt 15 = .ok (.ireturn, 1) := by decide +kernel
theorem hd_X10_benchAt : yX10_benchAt.cls = xCn 10 ∧ yX10_benchAt.cls ≠ "java/lang/invoke/MethodHandle" ∧ yX10_benchAt.cls ≠ "java/lang/invoke/VarHandle" ∧ (parseMethodDescriptor yX10_benchAt.desc).map (fun d => d.parameters.length) = some 1 := by decide +kernel
def f_X10_benchAt (sh : List xSh) (q0 : Nat) (x1 : Int32) (d : xD) : Option (Int32 × xD) :=
  (xgR 10 sh d q0 5).bind fun v1 => (xgR 10 sh d q0 3).bind fun v2 => (xaI .int sh d v2 (1 : Int32)).bind fun v3 => (f_X10_found sh v1 (0 : Int32) v3 x1 d).bind fun z4 => some (z4.1, z4.2)
set_option maxHeartbeats 4000000 in
set_option maxRecDepth 100000 in
theorem mt_X10_benchAt (l : Launch) (D : va_G) (cid : FieldType → ClassId) (b : Nat) (ex : Bool) (sa sv B0 : Nat) (sh : List xSh) (q0 : Nat) (x1 : Int32) (d : xD) (r : Int32) (dz : xD) (hf : f_X10_benchAt sh q0 x1 d = some (r, dz)) : xMet l yX10_benchAt cX10_benchAt 2 (some .int) 1 0 0 D cid b ex sa sv B0 [.ref (b + q0), .int x1] sh d (some (.int r)) sh dz := by
  refine xMet.of (by decide) (Nat.le_of_ble_eq_true rfl) ?_
  intro p e s m below meth c ls A S hr hin G hl
  have hl : lv_has ls 2 [(0, .ref (b + q0)), (1, .int x1)] := hl
  generalize ([.ref (b + q0), .int x1] : List Value).toArray = av at S ⊢
  have hx := S.1
  have hb := S.2.1
  have hml := S.2.2.1
  have hown := S.2.2.2.1
  have hts := S.2.2.2.2.1
  unfold f_X10_benchAt at hf
  refine lv_aload_n hx hb dX10_benchAt_0 rfl (lv_at hl 0 rfl) ?_
  obtain ⟨v1, hv1, hf⟩ := x_ob hf
  refine xr_getR (ci := 10) (k := 5) S G hv1 rfl kw_1173 dX10_benchAt_1 ?_
  refine lv_iconst (v := (0 : Int32)) hx hb dX10_benchAt_4 (by decide) ?_
  refine lv_aload_n hx hb dX10_benchAt_5 rfl (lv_at hl 0 rfl) ?_
  obtain ⟨v2, hv2, hf⟩ := x_ob hf
  refine xr_getR (ci := 10) (k := 3) S G hv2 rfl kw_1171 dX10_benchAt_6 ?_
  refine lv_iconst (v := (1 : Int32)) hx hb dX10_benchAt_9 (by decide) ?_
  obtain ⟨v3, hv3, hf⟩ := x_ob hf
  refine xr_iald S G hv3 dX10_benchAt_10 ?_
  refine lv_iload_n hx hb dX10_benchAt_11 rfl (lv_at hl 1 rfl) ?_
  obtain ⟨z4, hz4, hf⟩ := x_ob hf
  refine xr_callS (As := [.ref (b + v1), .int (0 : Int32), .int v3, .int x1]) (rest := []) (st1 := [.int z4.1]) S G hl.1 (fun _ => rfl) (mt_X10_found l D cid b ex sa sv B0 sh v1 (0 : Int32) v3 x1 d _ _ hz4) kw_1434 kw_1435 kw_17 kw_1436 hd_X10_found ⟨Nat.le_of_ble_eq_true rfl, Nat.le_of_ble_eq_true rfl⟩ rfl rfl rfl (Nat.le_of_ble_eq_true rfl) ⟨Nat.le_of_ble_eq_true rfl, Nat.le_of_ble_eq_true rfl⟩ dX10_benchAt_12 (fun H locs G => ?_)
  cases hf
  exact xr_iret S G (fun _ => rfl) hr dX10_benchAt_15
-- HalfLandingsModel.sitting(II)I
theorem dX10_sitting_0 : decode cX10_sitting 0 = .ok (.iconst 0, 1) := by decide +kernel
theorem dX10_sitting_1 : decode cX10_sitting 1 = .ok (.istore_n 3, 1) := by decide +kernel
theorem dX10_sitting_2 : decode cX10_sitting 2 = .ok (.iconst 0, 1) := by decide +kernel
theorem dX10_sitting_3 : decode cX10_sitting 3 = .ok (.istore 4, 2) := by decide +kernel
theorem dX10_sitting_5 : decode cX10_sitting 5 = .ok (.iload 4, 2) := by decide +kernel
theorem dX10_sitting_7 : decode cX10_sitting 7 = .ok (.aload_n 0, 1) := by decide +kernel
theorem dX10_sitting_8 : decode cX10_sitting 8 = .ok (.getfield 13, 3) := by decide +kernel
theorem dX10_sitting_11 : decode cX10_sitting 11 = .ok (.iconst 2, 1) := by decide +kernel
theorem dX10_sitting_12 : decode cX10_sitting 12 = .ok (.iaload, 1) := by decide +kernel
theorem dX10_sitting_13 : decode cX10_sitting 13 = .ok (.if_icmp .ge 52, 3) := by decide +kernel
theorem dX10_sitting_16 : decode cX10_sitting 16 = .ok (.iload_n 3, 1) := by decide +kernel
theorem dX10_sitting_17 : decode cX10_sitting 17 = .ok (.aload_n 0, 1) := by decide +kernel
theorem dX10_sitting_18 : decode cX10_sitting 18 = .ok (.getfield 87, 3) := by decide +kernel
theorem dX10_sitting_21 : decode cX10_sitting 21 = .ok (.bipush 6, 2) := by decide +kernel
theorem dX10_sitting_23 : decode cX10_sitting 23 = .ok (.iload_n 1, 1) := by decide +kernel
theorem dX10_sitting_24 : decode cX10_sitting 24 = .ok (.imul, 1) := by decide +kernel
theorem dX10_sitting_25 : decode cX10_sitting 25 = .ok (.iload 4, 2) := by decide +kernel
theorem dX10_sitting_27 : decode cX10_sitting 27 = .ok (.iadd, 1) := by decide +kernel
theorem dX10_sitting_28 : decode cX10_sitting 28 = .ok (.iaload, 1) := by decide +kernel
theorem dX10_sitting_29 : decode cX10_sitting 29 = .ok (.iconst 2, 1) := by decide +kernel
theorem dX10_sitting_30 : decode cX10_sitting 30 = .ok (.if_icmp .ne 26, 3) := by decide +kernel
theorem dX10_sitting_33 : decode cX10_sitting 33 = .ok (.aload_n 0, 1) := by decide +kernel
theorem dX10_sitting_34 : decode cX10_sitting 34 = .ok (.getfield 96, 3) := by decide +kernel
theorem dX10_sitting_37 : decode cX10_sitting 37 = .ok (.bipush 6, 2) := by decide +kernel
theorem dX10_sitting_39 : decode cX10_sitting 39 = .ok (.iload_n 1, 1) := by decide +kernel
theorem dX10_sitting_40 : decode cX10_sitting 40 = .ok (.imul, 1) := by decide +kernel
theorem dX10_sitting_41 : decode cX10_sitting 41 = .ok (.iload 4, 2) := by decide +kernel
theorem dX10_sitting_43 : decode cX10_sitting 43 = .ok (.iadd, 1) := by decide +kernel
theorem dX10_sitting_44 : decode cX10_sitting 44 = .ok (.iaload, 1) := by decide +kernel
theorem dX10_sitting_45 : decode cX10_sitting 45 = .ok (.iload_n 2, 1) := by decide +kernel
theorem dX10_sitting_46 : decode cX10_sitting 46 = .ok (.if_icmp .ne 10, 3) := by decide +kernel
theorem dX10_sitting_49 : decode cX10_sitting 49 = .ok (.iconst 1, 1) := by decide +kernel
theorem dX10_sitting_50 : decode cX10_sitting 50 = .ok (.iload 4, 2) := by decide +kernel
theorem dX10_sitting_52 : decode cX10_sitting 52 = .ok (.ishl, 1) := by decide +kernel
theorem dX10_sitting_53 : decode cX10_sitting 53 = .ok (.goto 4, 3) := by decide +kernel
theorem dX10_sitting_56 : decode cX10_sitting 56 = .ok (.iconst 0, 1) := by decide +kernel
theorem dX10_sitting_57 : decode cX10_sitting 57 = .ok (.ior, 1) := by decide +kernel
theorem dX10_sitting_58 : decode cX10_sitting 58 = .ok (.istore_n 3, 1) := by decide +kernel
theorem dX10_sitting_59 : decode cX10_sitting 59 = .ok (.iinc 4 1, 3) := by decide +kernel
theorem dX10_sitting_62 : decode cX10_sitting 62 = .ok (.goto (-57), 3) := by decide +kernel
theorem dX10_sitting_65 : decode cX10_sitting 65 = .ok (.iload_n 3, 1) := by decide +kernel
theorem dX10_sitting_66 : decode cX10_sitting 66 = .ok (.ireturn, 1) := by decide +kernel
theorem hd_X10_sitting : yX10_sitting.cls = xCn 10 ∧ yX10_sitting.cls ≠ "java/lang/invoke/MethodHandle" ∧ yX10_sitting.cls ≠ "java/lang/invoke/VarHandle" ∧ (parseMethodDescriptor yX10_sitting.desc).map (fun d => d.parameters.length) = some 2 := by decide +kernel
def k_X10_sitting_65 (sh : List xSh) (x3 : Int32) (d : xD) : Option (Int32 × xD) :=
  some (x3, d)
def k_X10_sitting_57 (sh : List xSh) (rec5 : Nat → Int32 → Int32 → Int32 → Int32 → xD → Option (Int32 × xD)) (q0 : Nat) (x1 : Int32) (x2 : Int32) (x4 : Int32) (y0 : Int32) (y1 : Int32) (d : xD) : Option (Int32 × xD) :=
  rec5 q0 x1 x2 (y0 ||| y1) (x4 + 1) d
def k_X10_sitting_56 (sh : List xSh) (rec5 : Nat → Int32 → Int32 → Int32 → Int32 → xD → Option (Int32 × xD)) (q0 : Nat) (x1 : Int32) (x2 : Int32) (x4 : Int32) (y0 : Int32) (d : xD) : Option (Int32 × xD) :=
  k_X10_sitting_57 sh rec5 q0 x1 x2 x4 y0 (0 : Int32) d
def b_X10_sitting_5 (sh : List xSh) (rec5 : Nat → Int32 → Int32 → Int32 → Int32 → xD → Option (Int32 × xD)) (q0 : Nat) (x1 : Int32) (x2 : Int32) (x3 : Int32) (x4 : Int32) (d : xD) : Option (Int32 × xD) :=
  (xgR 10 sh d q0 3).bind fun v1 => (xaI .int sh d v1 (2 : Int32)).bind fun v2 => if v2 ≤ x4 then (k_X10_sitting_65 sh x3 d) else ((xgR 10 sh d q0 40).bind fun v3 => (xaI .int sh d v3 (((6 : Int32) * x1) + x4)).bind fun v4 => if v4 = (2 : Int32) then ((xgR 10 sh d q0 43).bind fun v5 => (xaI .int sh d v5 (((6 : Int32) * x1) + x4)).bind fun v6 => if v6 = x2 then (k_X10_sitting_57 sh rec5 q0 x1 x2 x4 x3 ((1 : Int32) <<< (x4 &&& 31)) d) else (k_X10_sitting_56 sh rec5 q0 x1 x2 x4 x3 d)) else (k_X10_sitting_56 sh rec5 q0 x1 x2 x4 x3 d))
def f_X10_sitting (sh : List xSh) (q0 : Nat) (x1 : Int32) (x2 : Int32) (d : xD) : Option (Int32 × xD) :=
  xloop (fun _ _ _ _ _ _ => none) (b_X10_sitting_5 sh) xF q0 x1 x2 (0 : Int32) (0 : Int32) d
set_option maxHeartbeats 4000000 in
set_option maxRecDepth 100000 in
theorem mt_X10_sitting (l : Launch) (D : va_G) (cid : FieldType → ClassId) (b : Nat) (ex : Bool) (sa sv B0 : Nat) (sh : List xSh) (q0 : Nat) (x1 : Int32) (x2 : Int32) (d : xD) (r : Int32) (dz : xD) (hf : f_X10_sitting sh q0 x1 x2 d = some (r, dz)) : xMet l yX10_sitting cX10_sitting 5 (some .int) 0 0 0 D cid b ex sa sv B0 [.ref (b + q0), .int x1, .int x2] sh d (some (.int r)) sh dz := by
  refine xMet.of (by decide) (Nat.le_of_ble_eq_true rfl) ?_
  intro p e s m below meth c ls A S hr hin G hl
  have hl : lv_has ls 5 [(0, .ref (b + q0)), (1, .int x1), (2, .int x2)] := hl
  generalize ([.ref (b + q0), .int x1, .int x2] : List Value).toArray = av at S ⊢
  have hx := S.1
  have hb := S.2.1
  have hml := S.2.2.1
  have hown := S.2.2.2.1
  have hts := S.2.2.2.2.1
  have K65 : ∀ (x3 : Int32) (d : xD), k_X10_sitting_65 sh x3 d = some (r, dz) → ∀ (H : Heap) (locs : List Loc) (ls : Array Slot), lv_has ls 5 [(3, .int x3)] → xG D cid b A sh d s H locs → W p l e (xRm 0 0 0) s m av below meth c H locs 0 0 (MQ below (xQ D cid b ex A (some (.int r)) sh dz) av s 0 0 A) (F0 m 65 ls []) := by
    intro x3 d hf H locs ls hl G
    unfold k_X10_sitting_65 at hf
    refine lv_iload_n hx hb dX10_sitting_65 rfl (lv_at hl 0 rfl) ?_
    cases hf
    exact xr_iret S G (fun _ => rfl) hr dX10_sitting_66
  have K57 : ∀ (rec5 : Nat → Int32 → Int32 → Int32 → Int32 → xD → Option (Int32 × xD)) (hrec5 : ∀ (q0 : Nat) (x1 : Int32) (x2 : Int32) (x3 : Int32) (x4 : Int32) (d : xD), rec5 q0 x1 x2 x3 x4 d = some (r, dz) → ∀ (H : Heap) (locs : List Loc) (ls : Array Slot), lv_has ls 5 [(0, .ref (b + q0)), (1, .int x1), (2, .int x2), (3, .int x3), (4, .int x4)] → xG D cid b A sh d s H locs → W p l e (xRm 0 0 0) s m av below meth c H locs 0 0 (MQ below (xQ D cid b ex A (some (.int r)) sh dz) av s 0 0 A) (F0 m 5 ls [])) (q0 : Nat) (x1 : Int32) (x2 : Int32) (x4 : Int32) (y0 : Int32) (y1 : Int32) (d : xD), k_X10_sitting_57 sh rec5 q0 x1 x2 x4 y0 y1 d = some (r, dz) → ∀ (H : Heap) (locs : List Loc) (ls : Array Slot), lv_has ls 5 [(0, .ref (b + q0)), (1, .int x1), (2, .int x2), (4, .int x4)] → xG D cid b A sh d s H locs → W p l e (xRm 0 0 0) s m av below meth c H locs 0 0 (MQ below (xQ D cid b ex A (some (.int r)) sh dz) av s 0 0 A) (F0 m 57 ls [.int y1, .int y0]) := by
    intro rec5 hrec5 q0 x1 x2 x4 y0 y1 d hf H locs ls hl G
    unfold k_X10_sitting_57 at hf
    refine lv_ior hx hb dX10_sitting_57 ?_
    refine lv_istore_n (lv' := [(3, .int (y0 ||| y1)), (0, .ref (b + q0)), (1, .int x1), (2, .int x2), (4, .int x4)]) hx hb dX10_sitting_58 rfl hl (by decide) rfl (fun ls hl => ?_)
    refine lv_iinc (v := (x4 + 1)) (lv' := [(4, .int (x4 + 1)), (3, .int (y0 ||| y1)), (0, .ref (b + q0)), (1, .int x1), (2, .int x2)]) hx hb dX10_sitting_59 hl (k := 4) rfl rfl (by decide) rfl (fun ls hl => ?_)
    refine lv_goto (tgt := 5) hx hb dX10_sitting_62 (by decide) ?_
    exact hrec5 q0 x1 x2 (y0 ||| y1) (x4 + 1) d hf _ _ ls (lv_sub hl [2, 3, 4, 1, 0] rfl) G
  have K56 : ∀ (rec5 : Nat → Int32 → Int32 → Int32 → Int32 → xD → Option (Int32 × xD)) (hrec5 : ∀ (q0 : Nat) (x1 : Int32) (x2 : Int32) (x3 : Int32) (x4 : Int32) (d : xD), rec5 q0 x1 x2 x3 x4 d = some (r, dz) → ∀ (H : Heap) (locs : List Loc) (ls : Array Slot), lv_has ls 5 [(0, .ref (b + q0)), (1, .int x1), (2, .int x2), (3, .int x3), (4, .int x4)] → xG D cid b A sh d s H locs → W p l e (xRm 0 0 0) s m av below meth c H locs 0 0 (MQ below (xQ D cid b ex A (some (.int r)) sh dz) av s 0 0 A) (F0 m 5 ls [])) (q0 : Nat) (x1 : Int32) (x2 : Int32) (x4 : Int32) (y0 : Int32) (d : xD), k_X10_sitting_56 sh rec5 q0 x1 x2 x4 y0 d = some (r, dz) → ∀ (H : Heap) (locs : List Loc) (ls : Array Slot), lv_has ls 5 [(0, .ref (b + q0)), (1, .int x1), (2, .int x2), (4, .int x4)] → xG D cid b A sh d s H locs → W p l e (xRm 0 0 0) s m av below meth c H locs 0 0 (MQ below (xQ D cid b ex A (some (.int r)) sh dz) av s 0 0 A) (F0 m 56 ls [.int y0]) := by
    intro rec5 hrec5 q0 x1 x2 x4 y0 d hf H locs ls hl G
    unfold k_X10_sitting_56 at hf
    refine lv_iconst (v := (0 : Int32)) hx hb dX10_sitting_56 (by decide) ?_
    exact K57 _ hrec5 q0 x1 x2 x4 y0 (0 : Int32) d hf _ _ ls (lv_sub hl [0, 1, 2, 3] rfl) G
  have K5 : ∀ (n : Nat) (q0 : Nat) (x1 : Int32) (x2 : Int32) (x3 : Int32) (x4 : Int32) (d : xD), xloop (fun _ _ _ _ _ _ => none) (b_X10_sitting_5 sh) n q0 x1 x2 x3 x4 d = some (r, dz) → ∀ (H : Heap) (locs : List Loc) (ls : Array Slot), lv_has ls 5 [(0, .ref (b + q0)), (1, .int x1), (2, .int x2), (3, .int x3), (4, .int x4)] → xG D cid b A sh d s H locs → W p l e (xRm 0 0 0) s m av below meth c H locs 0 0 (MQ below (xQ D cid b ex A (some (.int r)) sh dz) av s 0 0 A) (F0 m 5 ls []) := by
    intro n
    induction n with
    | zero =>
      intro q0 x1 x2 x3 x4 d hf
      have hf : (none : Option (Int32 × xD)) = some (r, dz) := hf
      cases hf
    | succ n hrec5 =>
      intro q0 x1 x2 x3 x4 d hf H locs ls hl G
      have hf : b_X10_sitting_5 sh (xloop (fun _ _ _ _ _ _ => none) (b_X10_sitting_5 sh) n) q0 x1 x2 x3 x4 d = some (r, dz) := hf
      unfold b_X10_sitting_5 at hf
      refine lv_iload hx hb dX10_sitting_5 (lv_at hl 4 rfl) ?_
      refine lv_aload_n hx hb dX10_sitting_7 rfl (lv_at hl 0 rfl) ?_
      obtain ⟨v1, hv1, hf⟩ := x_ob hf
      refine xr_getR (ci := 10) (k := 3) S G hv1 rfl kw_1171 dX10_sitting_8 ?_
      refine lv_iconst (v := (2 : Int32)) hx hb dX10_sitting_11 (by decide) ?_
      obtain ⟨v2, hv2, hf⟩ := x_ob hf
      refine xr_iald S G hv2 dX10_sitting_12 ?_
      refine lv_icmp_ge (tgt := 65) hx hb dX10_sitting_13 (by decide) (fun c => ?_) (fun c => ?_)
      · have hf := x_pos c hf
        exact K65 x3 d hf _ _ ls (lv_sub hl [3] rfl) G
      · have hf := x_neg c hf
        refine lv_iload_n hx hb dX10_sitting_16 rfl (lv_at hl 3 rfl) ?_
        refine lv_aload_n hx hb dX10_sitting_17 rfl (lv_at hl 0 rfl) ?_
        obtain ⟨v3, hv3, hf⟩ := x_ob hf
        refine xr_getR (ci := 10) (k := 40) S G hv3 rfl kw_1208 dX10_sitting_18 ?_
        refine lv_bipush (v := (6 : Int32)) hx hb dX10_sitting_21 (by decide) ?_
        refine lv_iload_n hx hb dX10_sitting_23 rfl (lv_at hl 1 rfl) ?_
        refine lv_imul hx hb dX10_sitting_24 ?_
        refine lv_iload hx hb dX10_sitting_25 (lv_at hl 4 rfl) ?_
        refine lv_iadd hx hb dX10_sitting_27 ?_
        obtain ⟨v4, hv4, hf⟩ := x_ob hf
        refine xr_iald S G hv4 dX10_sitting_28 ?_
        refine lv_iconst (v := (2 : Int32)) hx hb dX10_sitting_29 (by decide) ?_
        refine lv_icmp_ne (tgt := 56) hx hb dX10_sitting_30 (by decide) (fun c => ?_) (fun c => ?_)
        · have hf := x_neg c hf
          exact K56 _ hrec5 q0 x1 x2 x4 x3 d hf _ _ ls (lv_sub hl [0, 1, 2, 4] rfl) G
        · have hf := x_pos c hf
          refine lv_aload_n hx hb dX10_sitting_33 rfl (lv_at hl 0 rfl) ?_
          obtain ⟨v5, hv5, hf⟩ := x_ob hf
          refine xr_getR (ci := 10) (k := 43) S G hv5 rfl kw_1211 dX10_sitting_34 ?_
          refine lv_bipush (v := (6 : Int32)) hx hb dX10_sitting_37 (by decide) ?_
          refine lv_iload_n hx hb dX10_sitting_39 rfl (lv_at hl 1 rfl) ?_
          refine lv_imul hx hb dX10_sitting_40 ?_
          refine lv_iload hx hb dX10_sitting_41 (lv_at hl 4 rfl) ?_
          refine lv_iadd hx hb dX10_sitting_43 ?_
          obtain ⟨v6, hv6, hf⟩ := x_ob hf
          refine xr_iald S G hv6 dX10_sitting_44 ?_
          refine lv_iload_n hx hb dX10_sitting_45 rfl (lv_at hl 2 rfl) ?_
          refine lv_icmp_ne (tgt := 56) hx hb dX10_sitting_46 (by decide) (fun c => ?_) (fun c => ?_)
          · have hf := x_neg c hf
            exact K56 _ hrec5 q0 x1 x2 x4 x3 d hf _ _ ls (lv_sub hl [0, 1, 2, 4] rfl) G
          · have hf := x_pos c hf
            refine lv_iconst (v := (1 : Int32)) hx hb dX10_sitting_49 (by decide) ?_
            refine lv_iload hx hb dX10_sitting_50 (lv_at hl 4 rfl) ?_
            refine lv_ishl hx hb dX10_sitting_52 ?_
            refine lv_goto (tgt := 57) hx hb dX10_sitting_53 (by decide) ?_
            exact K57 _ hrec5 q0 x1 x2 x4 x3 ((1 : Int32) <<< (x4 &&& 31)) d hf _ _ ls (lv_sub hl [0, 1, 2, 4] rfl) G
  unfold f_X10_sitting at hf
  refine lv_iconst (v := (0 : Int32)) hx hb dX10_sitting_0 (by decide) ?_
  refine lv_istore_n (lv' := [(3, .int (0 : Int32)), (0, .ref (b + q0)), (1, .int x1), (2, .int x2)]) hx hb dX10_sitting_1 rfl hl (by decide) rfl (fun ls hl => ?_)
  refine lv_iconst (v := (0 : Int32)) hx hb dX10_sitting_2 (by decide) ?_
  refine lv_istore (lv' := [(4, .int (0 : Int32)), (3, .int (0 : Int32)), (0, .ref (b + q0)), (1, .int x1), (2, .int x2)]) hx hb dX10_sitting_3 hl (by decide) rfl (fun ls hl => ?_)
  exact K5 xF q0 x1 x2 (0 : Int32) (0 : Int32) d hf _ _ ls (lv_sub hl [2, 3, 4, 1, 0] rfl) G
-- HalfLandingsModel.freeOn(II)I
theorem dX10_freeOn_0 : decode cX10_freeOn 0 = .ok (.aload_n 0, 1) := by decide +kernel
theorem dX10_freeOn_1 : decode cX10_freeOn 1 = .ok (.getfield 331, 3) := by decide +kernel
theorem dX10_freeOn_4 : decode cX10_freeOn 4 = .ok (.iconst 5, 1) := by decide +kernel
theorem dX10_freeOn_5 : decode cX10_freeOn 5 = .ok (.if_icmp .ne 7, 3) := by decide +kernel
theorem dX10_freeOn_8 : decode cX10_freeOn 8 = .ok (.iconst 3, 1) := by decide +kernel
theorem dX10_freeOn_9 : decode cX10_freeOn 9 = .ok (.goto 9, 3) := by decide +kernel
theorem dX10_freeOn_12 : decode cX10_freeOn 12 = .ok (.aload_n 0, 1) := by decide +kernel
theorem dX10_freeOn_13 : decode cX10_freeOn 13 = .ok (.getfield 22, 3) := by decide +kernel
theorem dX10_freeOn_16 : decode cX10_freeOn 16 = .ok (.iload_n 2, 1) := by decide +kernel
theorem dX10_freeOn_17 : decode cX10_freeOn 17 = .ok (.iaload, 1) := by decide +kernel
theorem dX10_freeOn_18 : decode cX10_freeOn 18 = .ok (.aload_n 0, 1) := by decide +kernel
theorem dX10_freeOn_19 : decode cX10_freeOn 19 = .ok (.iload_n 1, 1) := by decide +kernel
theorem dX10_freeOn_20 : decode cX10_freeOn 20 = .ok (.iload_n 2, 1) := by decide +kernel
theorem dX10_freeOn_21 : decode cX10_freeOn 21 = .ok (.invokevirtual 334, 3) := by decide +kernel
theorem dX10_freeOn_24 : decode cX10_freeOn 24 = .ok (.invokestatic 337, 3) := by decide +kernel
theorem dX10_freeOn_27 : decode cX10_freeOn 27 = .ok (.isub, 1) := by decide +kernel
theorem dX10_freeOn_28 : decode cX10_freeOn 28 = .ok (.ireturn, 1) := by decide +kernel
theorem hd_X10_freeOn : yX10_freeOn.cls = xCn 10 ∧ yX10_freeOn.cls ≠ "java/lang/invoke/MethodHandle" ∧ yX10_freeOn.cls ≠ "java/lang/invoke/VarHandle" ∧ (parseMethodDescriptor yX10_freeOn.desc).map (fun d => d.parameters.length) = some 2 := by decide +kernel
def k_X10_freeOn_18 (sh : List xSh) (q0 : Nat) (x1 : Int32) (x2 : Int32) (y0 : Int32) (d : xD) : Option (Int32 × xD) :=
  (xon 10 sh q0 (f_X10_sitting sh q0 x1 x2 d)).bind fun z1 => (f_X10_bitsOf sh z1.1 z1.2).bind fun z2 => some ((y0 - z2.1), z2.2)
def f_X10_freeOn (sh : List xSh) (q0 : Nat) (x1 : Int32) (x2 : Int32) (d : xD) : Option (Int32 × xD) :=
  (xgI 10 sh d q0 50).bind fun v3 => if v3 = (5 : Int32) then (k_X10_freeOn_18 sh q0 x1 x2 (3 : Int32) d) else ((xgR 10 sh d q0 6).bind fun v4 => (xaI .int sh d v4 x2).bind fun v5 => k_X10_freeOn_18 sh q0 x1 x2 v5 d)
set_option maxHeartbeats 4000000 in
set_option maxRecDepth 100000 in
theorem mt_X10_freeOn (l : Launch) (D : va_G) (cid : FieldType → ClassId) (b : Nat) (ex : Bool) (sa sv B0 : Nat) (sh : List xSh) (q0 : Nat) (x1 : Int32) (x2 : Int32) (d : xD) (r : Int32) (dz : xD) (hf : f_X10_freeOn sh q0 x1 x2 d = some (r, dz)) : xMet l yX10_freeOn cX10_freeOn 3 (some .int) 1 0 0 D cid b ex sa sv B0 [.ref (b + q0), .int x1, .int x2] sh d (some (.int r)) sh dz := by
  refine xMet.of (by decide) (Nat.le_of_ble_eq_true rfl) ?_
  intro p e s m below meth c ls A S hr hin G hl
  have hl : lv_has ls 3 [(0, .ref (b + q0)), (1, .int x1), (2, .int x2)] := hl
  generalize ([.ref (b + q0), .int x1, .int x2] : List Value).toArray = av at S ⊢
  have hx := S.1
  have hb := S.2.1
  have hml := S.2.2.1
  have hown := S.2.2.2.1
  have hts := S.2.2.2.2.1
  have K18 : ∀ (q0 : Nat) (x1 : Int32) (x2 : Int32) (y0 : Int32) (d : xD), k_X10_freeOn_18 sh q0 x1 x2 y0 d = some (r, dz) → ∀ (H : Heap) (locs : List Loc) (ls : Array Slot), lv_has ls 3 [(0, .ref (b + q0)), (1, .int x1), (2, .int x2)] → xG D cid b A sh d s H locs → W p l e (xRm 1 0 0) s m av below meth c H locs 0 0 (MQ below (xQ D cid b ex A (some (.int r)) sh dz) av s 0 0 A) (F0 m 18 ls [.int y0]) := by
    intro q0 x1 x2 y0 d hf H locs ls hl G
    unfold k_X10_freeOn_18 at hf
    refine lv_aload_n hx hb dX10_freeOn_18 rfl (lv_at hl 0 rfl) ?_
    refine lv_iload_n hx hb dX10_freeOn_19 rfl (lv_at hl 1 rfl) ?_
    refine lv_iload_n hx hb dX10_freeOn_20 rfl (lv_at hl 2 rfl) ?_
    obtain ⟨z1, hz1, hf⟩ := x_ob hf
    obtain ⟨hqz1, hz1⟩ := xon_of hz1
    refine xr_callV (ci := 10) (As := [.int x1, .int x2]) (rest := [.int y0]) (st1 := [.int z1.1, .int y0]) S G hl.1 (fun _ => rfl) (mt_X10_sitting l D cid b ex sa sv B0 sh q0 x1 x2 d _ _ hz1) hqz1 (by decide) kw_1516 kw_1518 ks_64 kw_17 kw_1519 hd_X10_sitting ⟨Nat.le_of_ble_eq_true rfl, Nat.le_of_ble_eq_true rfl⟩ rfl rfl rfl (Nat.le_of_ble_eq_true rfl) ⟨Nat.le_of_ble_eq_true rfl, Nat.le_of_ble_eq_true rfl⟩ dX10_freeOn_21 (fun H locs G => ?_)
    obtain ⟨z2, hz2, hf⟩ := x_ob hf
    refine xr_callS (As := [.int z1.1]) (rest := [.int y0]) (st1 := [.int z2.1, .int y0]) S G hl.1 (fun _ => rfl) (mt_X10_bitsOf l D cid b ex sa sv B0 sh z1.1 z1.2 _ _ hz2) kw_1524 kw_1525 kw_17 kw_1526 hd_X10_bitsOf ⟨Nat.le_of_ble_eq_true rfl, Nat.le_of_ble_eq_true rfl⟩ rfl rfl rfl (Nat.le_of_ble_eq_true rfl) ⟨Nat.le_of_ble_eq_true rfl, Nat.le_of_ble_eq_true rfl⟩ dX10_freeOn_24 (fun H locs G => ?_)
    refine lv_isub hx hb dX10_freeOn_27 ?_
    cases hf
    exact xr_iret S G (fun _ => rfl) hr dX10_freeOn_28
  unfold f_X10_freeOn at hf
  refine lv_aload_n hx hb dX10_freeOn_0 rfl (lv_at hl 0 rfl) ?_
  obtain ⟨v3, hv3, hf⟩ := x_ob hf
  refine xr_getI (ci := 10) (k := 50) S G hv3 rfl kw_1218 dX10_freeOn_1 ?_
  refine lv_iconst (v := (5 : Int32)) hx hb dX10_freeOn_4 (by decide) ?_
  refine lv_icmp_ne (tgt := 12) hx hb dX10_freeOn_5 (by decide) (fun c => ?_) (fun c => ?_)
  · have hf := x_neg c hf
    refine lv_aload_n hx hb dX10_freeOn_12 rfl (lv_at hl 0 rfl) ?_
    obtain ⟨v4, hv4, hf⟩ := x_ob hf
    refine xr_getR (ci := 10) (k := 6) S G hv4 rfl kw_1174 dX10_freeOn_13 ?_
    refine lv_iload_n hx hb dX10_freeOn_16 rfl (lv_at hl 2 rfl) ?_
    obtain ⟨v5, hv5, hf⟩ := x_ob hf
    refine xr_iald S G hv5 dX10_freeOn_17 ?_
    exact K18 q0 x1 x2 v5 d hf _ _ ls (lv_sub hl [0, 1, 2] rfl) G
  · have hf := x_pos c hf
    refine lv_iconst (v := (3 : Int32)) hx hb dX10_freeOn_8 (by decide) ?_
    refine lv_goto (tgt := 18) hx hb dX10_freeOn_9 (by decide) ?_
    exact K18 q0 x1 x2 (3 : Int32) d hf _ _ ls (lv_sub hl [0, 1, 2] rfl) G
-- HalfLandingsModel.calls(III)V
theorem dX10_calls_0 : decode cX10_calls 0 = .ok (.bipush 6, 2) := by decide +kernel
theorem dX10_calls_2 : decode cX10_calls 2 = .ok (.iload_n 1, 1) := by decide +kernel
theorem dX10_calls_3 : decode cX10_calls 3 = .ok (.imul, 1) := by decide +kernel
theorem dX10_calls_4 : decode cX10_calls 4 = .ok (.iload_n 2, 1) := by decide +kernel
theorem dX10_calls_5 : decode cX10_calls 5 = .ok (.iadd, 1) := by decide +kernel
theorem dX10_calls_6 : decode cX10_calls 6 = .ok (.istore 4, 2) := by decide +kernel
theorem dX10_calls_8 : decode cX10_calls 8 = .ok (.aload_n 0, 1) := by decide +kernel
theorem dX10_calls_9 : decode cX10_calls 9 = .ok (.getfield 65, 3) := by decide +kernel
theorem dX10_calls_12 : decode cX10_calls 12 = .ok (.iconst 0, 1) := by decide +kernel
theorem dX10_calls_13 : decode cX10_calls 13 = .ok (.aload_n 0, 1) := by decide +kernel
theorem dX10_calls_14 : decode cX10_calls 14 = .ok (.iload_n 2, 1) := by decide +kernel
theorem dX10_calls_15 : decode cX10_calls 15 = .ok (.invokevirtual 340, 3) := by decide +kernel
theorem dX10_calls_18 : decode cX10_calls 18 = .ok (.i2l, 1) := by decide +kernel
theorem dX10_calls_19 : decode cX10_calls 19 = .ok (.lastore, 1) := by decide +kernel
theorem dX10_calls_20 : decode cX10_calls 20 = .ok (.aload_n 0, 1) := by decide +kernel
theorem dX10_calls_21 : decode cX10_calls 21 = .ok (.getfield 65, 3) := by decide +kernel
theorem dX10_calls_24 : decode cX10_calls 24 = .ok (.iconst 1, 1) := by decide +kernel
theorem dX10_calls_25 : decode cX10_calls 25 = .ok (.iconst 1, 1) := by decide +kernel
theorem dX10_calls_26 : decode cX10_calls 26 = .ok (.aload_n 0, 1) := by decide +kernel
theorem dX10_calls_27 : decode cX10_calls 27 = .ok (.getfield 93, 3) := by decide +kernel
theorem dX10_calls_30 : decode cX10_calls 30 = .ok (.iload 4, 2) := by decide +kernel
theorem dX10_calls_32 : decode cX10_calls 32 = .ok (.iaload, 1) := by decide +kernel
theorem dX10_calls_33 : decode cX10_calls 33 = .ok (.isub, 1) := by decide +kernel
theorem dX10_calls_34 : decode cX10_calls 34 = .ok (.i2l, 1) := by decide +kernel
theorem dX10_calls_35 : decode cX10_calls 35 = .ok (.lastore, 1) := by decide +kernel
theorem dX10_calls_36 : decode cX10_calls 36 = .ok (.aload_n 0, 1) := by decide +kernel
theorem dX10_calls_37 : decode cX10_calls 37 = .ok (.getfield 65, 3) := by decide +kernel
theorem dX10_calls_40 : decode cX10_calls 40 = .ok (.iconst 2, 1) := by decide +kernel
theorem dX10_calls_41 : decode cX10_calls 41 = .ok (.aload_n 0, 1) := by decide +kernel
theorem dX10_calls_42 : decode cX10_calls 42 = .ok (.getfield 19, 3) := by decide +kernel
theorem dX10_calls_45 : decode cX10_calls 45 = .ok (.iload_n 3, 1) := by decide +kernel
theorem dX10_calls_46 : decode cX10_calls 46 = .ok (.iaload, 1) := by decide +kernel
theorem dX10_calls_47 : decode cX10_calls 47 = .ok (.i2l, 1) := by decide +kernel
theorem dX10_calls_48 : decode cX10_calls 48 = .ok (.lastore, 1) := by decide +kernel
theorem dX10_calls_49 : decode cX10_calls 49 = .ok (.aload_n 0, 1) := by decide +kernel
theorem dX10_calls_50 : decode cX10_calls 50 = .ok (.getfield 65, 3) := by decide +kernel
theorem dX10_calls_53 : decode cX10_calls 53 = .ok (.iconst 3, 1) := by decide +kernel
theorem dX10_calls_54 : decode cX10_calls 54 = .ok (.aload_n 0, 1) := by decide +kernel
theorem dX10_calls_55 : decode cX10_calls 55 = .ok (.getfield 108, 3) := by decide +kernel
theorem dX10_calls_58 : decode cX10_calls 58 = .ok (.bipush 8, 2) := by decide +kernel
theorem dX10_calls_60 : decode cX10_calls 60 = .ok (.iload_n 1, 1) := by decide +kernel
theorem dX10_calls_61 : decode cX10_calls 61 = .ok (.imul, 1) := by decide +kernel
theorem dX10_calls_62 : decode cX10_calls 62 = .ok (.iload_n 3, 1) := by decide +kernel
theorem dX10_calls_63 : decode cX10_calls 63 = .ok (.iadd, 1) := by decide +kernel
theorem dX10_calls_64 : decode cX10_calls 64 = .ok (.iaload, 1) := by decide +kernel
theorem dX10_calls_65 : decode cX10_calls 65 = .ok (.i2l, 1) := by decide +kernel
theorem dX10_calls_66 : decode cX10_calls 66 = .ok (.lastore, 1) := by decide +kernel
theorem dX10_calls_67 : decode cX10_calls 67 = .ok (.aload_n 0, 1) := by decide +kernel
theorem dX10_calls_68 : decode cX10_calls 68 = .ok (.getfield 65, 3) := by decide +kernel
theorem dX10_calls_71 : decode cX10_calls 71 = .ok (.iconst 4, 1) := by decide +kernel
theorem dX10_calls_72 : decode cX10_calls 72 = .ok (.aload_n 0, 1) := by decide +kernel
theorem dX10_calls_73 : decode cX10_calls 73 = .ok (.iload_n 1, 1) := by decide +kernel
theorem dX10_calls_74 : decode cX10_calls 74 = .ok (.iload_n 3, 1) := by decide +kernel
theorem dX10_calls_75 : decode cX10_calls 75 = .ok (.invokevirtual 334, 3) := by decide +kernel
theorem dX10_calls_78 : decode cX10_calls 78 = .ok (.invokestatic 337, 3) := by decide +kernel
theorem dX10_calls_81 : decode cX10_calls 81 = .ok (.i2l, 1) := by decide +kernel
theorem dX10_calls_82 : decode cX10_calls 82 = .ok (.lastore, 1) := by decide +kernel
theorem dX10_calls_83 : decode cX10_calls 83 = .ok (.aload_n 0, 1) := by decide +kernel
theorem dX10_calls_84 : decode cX10_calls 84 = .ok (.getfield 65, 3) := by decide +kernel
theorem dX10_calls_87 : decode cX10_calls 87 = .ok (.iconst 5, 1) := by decide +kernel
theorem dX10_calls_88 : decode cX10_calls 88 = .ok (.aload_n 0, 1) := by decide +kernel
theorem dX10_calls_89 : decode cX10_calls 89 = .ok (.getfield 102, 3) := by decide +kernel
theorem dX10_calls_92 : decode cX10_calls 92 = .ok (.iload 4, 2) := by decide +kernel
theorem dX10_calls_94 : decode cX10_calls 94 = .ok (.iaload, 1) := by decide +kernel
theorem dX10_calls_95 : decode cX10_calls 95 = .ok (.i2l, 1) := by decide +kernel
theorem dX10_calls_96 : decode cX10_calls 96 = .ok (.lastore, 1) := by decide +kernel
theorem dX10_calls_97 : decode cX10_calls 97 = .ok (.aload_n 0, 1) := by decide +kernel
theorem dX10_calls_98 : decode cX10_calls 98 = .ok (.getfield 65, 3) := by decide +kernel
theorem dX10_calls_101 : decode cX10_calls 101 = .ok (.bipush 6, 2) := by decide +kernel
theorem dX10_calls_103 : decode cX10_calls 103 = .ok (.aload_n 0, 1) := by decide +kernel
theorem dX10_calls_104 : decode cX10_calls 104 = .ok (.getfield 72, 3) := by decide +kernel
theorem dX10_calls_107 : decode cX10_calls 107 = .ok (.iload_n 1, 1) := by decide +kernel
theorem dX10_calls_108 : decode cX10_calls 108 = .ok (.iaload, 1) := by decide +kernel
theorem dX10_calls_109 : decode cX10_calls 109 = .ok (.i2l, 1) := by decide +kernel
theorem dX10_calls_110 : decode cX10_calls 110 = .ok (.lastore, 1) := by decide +kernel
theorem dX10_calls_111 : decode cX10_calls 111 = .ok (.return_, 1) := by decide +kernel
theorem hd_X10_calls : yX10_calls.cls = xCn 10 ∧ yX10_calls.cls ≠ "java/lang/invoke/MethodHandle" ∧ yX10_calls.cls ≠ "java/lang/invoke/VarHandle" ∧ (parseMethodDescriptor yX10_calls.desc).map (fun d => d.parameters.length) = some 3 := by decide +kernel
def f_X10_calls (sh : List xSh) (q0 : Nat) (x1 : Int32) (x2 : Int32) (x3 : Int32) (d : xD) : Option xD :=
  (xgR 10 sh d q0 32).bind fun v1 => (xon 10 sh q0 (f_X10_paceOf sh q0 x2 d)).bind fun z2 => (xsL sh z2.2 v1 (0 : Int32) ((z2.1).toInt64)).bind fun d3 => (xgR 10 sh d3 q0 32).bind fun v4 => (xgR 10 sh d3 q0 42).bind fun v5 => (xaI .int sh d3 v5 (((6 : Int32) * x1) + x2)).bind fun v6 => (xsL sh d3 v4 (1 : Int32) ((((1 : Int32) - v6)).toInt64)).bind fun d7 => (xgR 10 sh d7 q0 32).bind fun v8 => (xgR 10 sh d7 q0 5).bind fun v9 => (xaI .int sh d7 v9 x3).bind fun v10 => (xsL sh d7 v8 (2 : Int32) ((v10).toInt64)).bind fun d11 => (xgR 10 sh d11 q0 32).bind fun v12 => (xgR 10 sh d11 q0 47).bind fun v13 => (xaI .int sh d11 v13 (((8 : Int32) * x1) + x3)).bind fun v14 => (xsL sh d11 v12 (3 : Int32) ((v14).toInt64)).bind fun d15 => (xgR 10 sh d15 q0 32).bind fun v16 => (xon 10 sh q0 (f_X10_sitting sh q0 x1 x3 d15)).bind fun z17 => (f_X10_bitsOf sh z17.1 z17.2).bind fun z18 => (xsL sh z18.2 v16 (4 : Int32) ((z18.1).toInt64)).bind fun d19 => (xgR 10 sh d19 q0 32).bind fun v20 => (xgR 10 sh d19 q0 45).bind fun v21 => (xaI .int sh d19 v21 (((6 : Int32) * x1) + x2)).bind fun v22 => (xsL sh d19 v20 (5 : Int32) ((v22).toInt64)).bind fun d23 => (xgR 10 sh d23 q0 32).bind fun v24 => (xgR 10 sh d23 q0 35).bind fun v25 => (xaI .int sh d23 v25 x1).bind fun v26 => (xsL sh d23 v24 (6 : Int32) ((v26).toInt64)).bind fun d27 => some d27
set_option maxHeartbeats 4000000 in
set_option maxRecDepth 100000 in
theorem mt_X10_calls (l : Launch) (D : va_G) (cid : FieldType → ClassId) (b : Nat) (ex : Bool) (sa sv B0 : Nat) (sh : List xSh) (q0 : Nat) (x1 : Int32) (x2 : Int32) (x3 : Int32) (d : xD) (dz : xD) (hf : f_X10_calls sh q0 x1 x2 x3 d = some dz) : xMet l yX10_calls cX10_calls 5 none 1 0 0 D cid b ex sa sv B0 [.ref (b + q0), .int x1, .int x2, .int x3] sh d none sh dz := by
  refine xMet.of (by decide) (Nat.le_of_ble_eq_true rfl) ?_
  intro p e s m below meth c ls A S hr hin G hl
  have hl : lv_has ls 5 [(0, .ref (b + q0)), (1, .int x1), (2, .int x2), (3, .int x3)] := hl
  generalize ([.ref (b + q0), .int x1, .int x2, .int x3] : List Value).toArray = av at S ⊢
  have hx := S.1
  have hb := S.2.1
  have hml := S.2.2.1
  have hown := S.2.2.2.1
  have hts := S.2.2.2.2.1
  unfold f_X10_calls at hf
  refine lv_bipush (v := (6 : Int32)) hx hb dX10_calls_0 (by decide) ?_
  refine lv_iload_n hx hb dX10_calls_2 rfl (lv_at hl 1 rfl) ?_
  refine lv_imul hx hb dX10_calls_3 ?_
  refine lv_iload_n hx hb dX10_calls_4 rfl (lv_at hl 2 rfl) ?_
  refine lv_iadd hx hb dX10_calls_5 ?_
  refine lv_istore (lv' := [(4, .int (((6 : Int32) * x1) + x2)), (0, .ref (b + q0)), (1, .int x1), (2, .int x2), (3, .int x3)]) hx hb dX10_calls_6 hl (by decide) rfl (fun ls hl => ?_)
  refine lv_aload_n hx hb dX10_calls_8 rfl (lv_at hl 1 rfl) ?_
  obtain ⟨v1, hv1, hf⟩ := x_ob hf
  refine xr_getR (ci := 10) (k := 32) S G hv1 rfl kw_1200 dX10_calls_9 ?_
  refine lv_iconst (v := (0 : Int32)) hx hb dX10_calls_12 (by decide) ?_
  refine lv_aload_n hx hb dX10_calls_13 rfl (lv_at hl 1 rfl) ?_
  refine lv_iload_n hx hb dX10_calls_14 rfl (lv_at hl 3 rfl) ?_
  obtain ⟨z2, hz2, hf⟩ := x_ob hf
  obtain ⟨hqz2, hz2⟩ := xon_of hz2
  refine xr_callV (ci := 10) (As := [.int x2]) (rest := [.int (0 : Int32), .ref (b + v1)]) (st1 := [.int z2.1, .int (0 : Int32), .ref (b + v1)]) S G hl.1 (fun _ => rfl) (mt_X10_paceOf l D cid b ex sa sv B0 sh q0 x2 d _ _ hz2) hqz2 (by decide) kw_1548 kw_1550 ks_68 kw_17 kw_1551 hd_X10_paceOf ⟨Nat.le_of_ble_eq_true rfl, Nat.le_of_ble_eq_true rfl⟩ rfl rfl rfl (Nat.le_of_ble_eq_true rfl) ⟨Nat.le_of_ble_eq_true rfl, Nat.le_of_ble_eq_true rfl⟩ dX10_calls_15 (fun H locs G => ?_)
  refine lv_i2l (v := (z2.1).toInt64) hx hb dX10_calls_18 rfl ?_
  obtain ⟨d3, hd3, hf⟩ := x_ob hf
  refine xr_last S G hd3 dX10_calls_19 (fun H locs G => ?_)
  refine lv_aload_n hx hb dX10_calls_20 rfl (lv_at hl 1 rfl) ?_
  obtain ⟨v4, hv4, hf⟩ := x_ob hf
  refine xr_getR (ci := 10) (k := 32) S G hv4 rfl kw_1200 dX10_calls_21 ?_
  refine lv_iconst (v := (1 : Int32)) hx hb dX10_calls_24 (by decide) ?_
  refine lv_iconst (v := (1 : Int32)) hx hb dX10_calls_25 (by decide) ?_
  refine lv_aload_n hx hb dX10_calls_26 rfl (lv_at hl 1 rfl) ?_
  obtain ⟨v5, hv5, hf⟩ := x_ob hf
  refine xr_getR (ci := 10) (k := 42) S G hv5 rfl kw_1210 dX10_calls_27 ?_
  refine lv_iload hx hb dX10_calls_30 (lv_at hl 0 rfl) ?_
  obtain ⟨v6, hv6, hf⟩ := x_ob hf
  refine xr_iald S G hv6 dX10_calls_32 ?_
  refine lv_isub hx hb dX10_calls_33 ?_
  refine lv_i2l (v := (((1 : Int32) - v6)).toInt64) hx hb dX10_calls_34 rfl ?_
  obtain ⟨d7, hd7, hf⟩ := x_ob hf
  refine xr_last S G hd7 dX10_calls_35 (fun H locs G => ?_)
  refine lv_aload_n hx hb dX10_calls_36 rfl (lv_at hl 1 rfl) ?_
  obtain ⟨v8, hv8, hf⟩ := x_ob hf
  refine xr_getR (ci := 10) (k := 32) S G hv8 rfl kw_1200 dX10_calls_37 ?_
  refine lv_iconst (v := (2 : Int32)) hx hb dX10_calls_40 (by decide) ?_
  refine lv_aload_n hx hb dX10_calls_41 rfl (lv_at hl 1 rfl) ?_
  obtain ⟨v9, hv9, hf⟩ := x_ob hf
  refine xr_getR (ci := 10) (k := 5) S G hv9 rfl kw_1173 dX10_calls_42 ?_
  refine lv_iload_n hx hb dX10_calls_45 rfl (lv_at hl 4 rfl) ?_
  obtain ⟨v10, hv10, hf⟩ := x_ob hf
  refine xr_iald S G hv10 dX10_calls_46 ?_
  refine lv_i2l (v := (v10).toInt64) hx hb dX10_calls_47 rfl ?_
  obtain ⟨d11, hd11, hf⟩ := x_ob hf
  refine xr_last S G hd11 dX10_calls_48 (fun H locs G => ?_)
  refine lv_aload_n hx hb dX10_calls_49 rfl (lv_at hl 1 rfl) ?_
  obtain ⟨v12, hv12, hf⟩ := x_ob hf
  refine xr_getR (ci := 10) (k := 32) S G hv12 rfl kw_1200 dX10_calls_50 ?_
  refine lv_iconst (v := (3 : Int32)) hx hb dX10_calls_53 (by decide) ?_
  refine lv_aload_n hx hb dX10_calls_54 rfl (lv_at hl 1 rfl) ?_
  obtain ⟨v13, hv13, hf⟩ := x_ob hf
  refine xr_getR (ci := 10) (k := 47) S G hv13 rfl kw_1215 dX10_calls_55 ?_
  refine lv_bipush (v := (8 : Int32)) hx hb dX10_calls_58 (by decide) ?_
  refine lv_iload_n hx hb dX10_calls_60 rfl (lv_at hl 2 rfl) ?_
  refine lv_imul hx hb dX10_calls_61 ?_
  refine lv_iload_n hx hb dX10_calls_62 rfl (lv_at hl 4 rfl) ?_
  refine lv_iadd hx hb dX10_calls_63 ?_
  obtain ⟨v14, hv14, hf⟩ := x_ob hf
  refine xr_iald S G hv14 dX10_calls_64 ?_
  refine lv_i2l (v := (v14).toInt64) hx hb dX10_calls_65 rfl ?_
  obtain ⟨d15, hd15, hf⟩ := x_ob hf
  refine xr_last S G hd15 dX10_calls_66 (fun H locs G => ?_)
  refine lv_aload_n hx hb dX10_calls_67 rfl (lv_at hl 1 rfl) ?_
  obtain ⟨v16, hv16, hf⟩ := x_ob hf
  refine xr_getR (ci := 10) (k := 32) S G hv16 rfl kw_1200 dX10_calls_68 ?_
  refine lv_iconst (v := (4 : Int32)) hx hb dX10_calls_71 (by decide) ?_
  refine lv_aload_n hx hb dX10_calls_72 rfl (lv_at hl 1 rfl) ?_
  refine lv_iload_n hx hb dX10_calls_73 rfl (lv_at hl 2 rfl) ?_
  refine lv_iload_n hx hb dX10_calls_74 rfl (lv_at hl 4 rfl) ?_
  obtain ⟨z17, hz17, hf⟩ := x_ob hf
  obtain ⟨hqz17, hz17⟩ := xon_of hz17
  refine xr_callV (ci := 10) (As := [.int x1, .int x3]) (rest := [.int (4 : Int32), .ref (b + v16)]) (st1 := [.int z17.1, .int (4 : Int32), .ref (b + v16)]) S G hl.1 (fun _ => rfl) (mt_X10_sitting l D cid b ex sa sv B0 sh q0 x1 x3 d15 _ _ hz17) hqz17 (by decide) kw_1516 kw_1518 ks_64 kw_17 kw_1519 hd_X10_sitting ⟨Nat.le_of_ble_eq_true rfl, Nat.le_of_ble_eq_true rfl⟩ rfl rfl rfl (Nat.le_of_ble_eq_true rfl) ⟨Nat.le_of_ble_eq_true rfl, Nat.le_of_ble_eq_true rfl⟩ dX10_calls_75 (fun H locs G => ?_)
  obtain ⟨z18, hz18, hf⟩ := x_ob hf
  refine xr_callS (As := [.int z17.1]) (rest := [.int (4 : Int32), .ref (b + v16)]) (st1 := [.int z18.1, .int (4 : Int32), .ref (b + v16)]) S G hl.1 (fun _ => rfl) (mt_X10_bitsOf l D cid b ex sa sv B0 sh z17.1 z17.2 _ _ hz18) kw_1524 kw_1525 kw_17 kw_1526 hd_X10_bitsOf ⟨Nat.le_of_ble_eq_true rfl, Nat.le_of_ble_eq_true rfl⟩ rfl rfl rfl (Nat.le_of_ble_eq_true rfl) ⟨Nat.le_of_ble_eq_true rfl, Nat.le_of_ble_eq_true rfl⟩ dX10_calls_78 (fun H locs G => ?_)
  refine lv_i2l (v := (z18.1).toInt64) hx hb dX10_calls_81 rfl ?_
  obtain ⟨d19, hd19, hf⟩ := x_ob hf
  refine xr_last S G hd19 dX10_calls_82 (fun H locs G => ?_)
  refine lv_aload_n hx hb dX10_calls_83 rfl (lv_at hl 1 rfl) ?_
  obtain ⟨v20, hv20, hf⟩ := x_ob hf
  refine xr_getR (ci := 10) (k := 32) S G hv20 rfl kw_1200 dX10_calls_84 ?_
  refine lv_iconst (v := (5 : Int32)) hx hb dX10_calls_87 (by decide) ?_
  refine lv_aload_n hx hb dX10_calls_88 rfl (lv_at hl 1 rfl) ?_
  obtain ⟨v21, hv21, hf⟩ := x_ob hf
  refine xr_getR (ci := 10) (k := 45) S G hv21 rfl kw_1213 dX10_calls_89 ?_
  refine lv_iload hx hb dX10_calls_92 (lv_at hl 0 rfl) ?_
  obtain ⟨v22, hv22, hf⟩ := x_ob hf
  refine xr_iald S G hv22 dX10_calls_94 ?_
  refine lv_i2l (v := (v22).toInt64) hx hb dX10_calls_95 rfl ?_
  obtain ⟨d23, hd23, hf⟩ := x_ob hf
  refine xr_last S G hd23 dX10_calls_96 (fun H locs G => ?_)
  refine lv_aload_n hx hb dX10_calls_97 rfl (lv_at hl 1 rfl) ?_
  obtain ⟨v24, hv24, hf⟩ := x_ob hf
  refine xr_getR (ci := 10) (k := 32) S G hv24 rfl kw_1200 dX10_calls_98 ?_
  refine lv_bipush (v := (6 : Int32)) hx hb dX10_calls_101 (by decide) ?_
  refine lv_aload_n hx hb dX10_calls_103 rfl (lv_at hl 1 rfl) ?_
  obtain ⟨v25, hv25, hf⟩ := x_ob hf
  refine xr_getR (ci := 10) (k := 35) S G hv25 rfl kw_1203 dX10_calls_104 ?_
  refine lv_iload_n hx hb dX10_calls_107 rfl (lv_at hl 2 rfl) ?_
  obtain ⟨v26, hv26, hf⟩ := x_ob hf
  refine xr_iald S G hv26 dX10_calls_108 ?_
  refine lv_i2l (v := (v26).toInt64) hx hb dX10_calls_109 rfl ?_
  obtain ⟨d27, hd27, hf⟩ := x_ob hf
  refine xr_last S G hd27 dX10_calls_110 (fun H locs G => ?_)
  cases hf
  exact xr_vret S G (fun _ => rfl) hr dX10_calls_111
-- HalfLandingsModel.within(III)I
theorem dX10_within_0 : decode cX10_within 0 = .ok (.aload_n 0, 1) := by decide +kernel
theorem dX10_within_1 : decode cX10_within 1 = .ok (.iload_n 1, 1) := by decide +kernel
theorem dX10_within_2 : decode cX10_within 2 = .ok (.invokevirtual 343, 3) := by decide +kernel
theorem dX10_within_5 : decode cX10_within 5 = .ok (.ifCond .eq 11, 3) := by decide +kernel
theorem dX10_within_8 : decode cX10_within 8 = .ok (.aload_n 0, 1) := by decide +kernel
theorem dX10_within_9 : decode cX10_within 9 = .ok (.iload_n 1, 1) := by decide +kernel
theorem dX10_within_10 : decode cX10_within 10 = .ok (.invokevirtual 346, 3) := by decide +kernel
theorem dX10_within_13 : decode cX10_within 13 = .ok (.ifCond .ne 5, 3) := by decide +kernel
theorem dX10_within_16 : decode cX10_within 16 = .ok (.iload_n 3, 1) := by decide +kernel
theorem dX10_within_17 : decode cX10_within 17 = .ok (.ireturn, 1) := by decide +kernel
theorem dX10_within_18 : decode cX10_within 18 = .ok (.lconst 0, 1) := by decide +kernel
theorem dX10_within_19 : decode cX10_within 19 = .ok (.iload_n 2, 1) := by decide +kernel
theorem dX10_within_20 : decode cX10_within 20 = .ok (.i2l, 1) := by decide +kernel
theorem dX10_within_21 : decode cX10_within 21 = .ok (.aload_n 0, 1) := by decide +kernel
theorem dX10_within_22 : decode cX10_within 22 = .ok (.getfield 69, 3) := by decide +kernel
theorem dX10_within_25 : decode cX10_within 25 = .ok (.iconst 0, 1) := by decide +kernel
theorem dX10_within_26 : decode cX10_within 26 = .ok (.laload, 1) := by decide +kernel
theorem dX10_within_27 : decode cX10_within 27 = .ok (.invokestatic 349, 3) := by decide +kernel
theorem dX10_within_30 : decode cX10_within 30 = .ok (.invokestatic 353, 3) := by decide +kernel
theorem dX10_within_33 : decode cX10_within 33 = .ok (.l2i, 1) := by decide +kernel
theorem dX10_within_34 : decode cX10_within 34 = .ok (.ireturn, 1) := by decide +kernel
theorem hd_X10_within : yX10_within.cls = xCn 10 ∧ yX10_within.cls ≠ "java/lang/invoke/MethodHandle" ∧ yX10_within.cls ≠ "java/lang/invoke/VarHandle" ∧ (parseMethodDescriptor yX10_within.desc).map (fun d => d.parameters.length) = some 3 := by decide +kernel
def k_X10_within_16 (sh : List xSh) (x3 : Int32) (d : xD) : Option (Int32 × xD) :=
  some (x3, d)
def f_X10_within (sh : List xSh) (q0 : Nat) (x1 : Int32) (x2 : Int32) (x3 : Int32) (d : xD) : Option (Int32 × xD) :=
  (xon 10 sh q0 (f_X10_hasLaw sh q0 x1 d)).bind fun z1 => if z1.1 = 0 then (k_X10_within_16 sh x3 z1.2) else ((xon 10 sh q0 (f_X10_goes sh q0 x1 z1.2)).bind fun z2 => if z2.1 = 0 then (k_X10_within_16 sh x3 z2.2) else ((xgR 10 sh z2.2 q0 33).bind fun v3 => (xaL sh z2.2 v3 (0 : Int32)).bind fun v4 => some (((if (if v4 < (x2).toInt64 then v4 else (x2).toInt64) < (0 : Int64) then (0 : Int64) else (if v4 < (x2).toInt64 then v4 else (x2).toInt64))).toInt32, z2.2)))
set_option maxHeartbeats 4000000 in
set_option maxRecDepth 100000 in
theorem mt_X10_within (l : Launch) (D : va_G) (cid : FieldType → ClassId) (b : Nat) (ex : Bool) (sa sv B0 : Nat) (sh : List xSh) (q0 : Nat) (x1 : Int32) (x2 : Int32) (x3 : Int32) (d : xD) (r : Int32) (dz : xD) (hf : f_X10_within sh q0 x1 x2 x3 d = some (r, dz)) : xMet l yX10_within cX10_within 4 (some .int) 3 0 0 D cid b ex sa sv B0 [.ref (b + q0), .int x1, .int x2, .int x3] sh d (some (.int r)) sh dz := by
  refine xMet.of (by decide) (Nat.le_of_ble_eq_true rfl) ?_
  intro p e s m below meth c ls A S hr hin G hl
  have hl : lv_has ls 4 [(0, .ref (b + q0)), (1, .int x1), (2, .int x2), (3, .int x3)] := hl
  generalize ([.ref (b + q0), .int x1, .int x2, .int x3] : List Value).toArray = av at S ⊢
  have hx := S.1
  have hb := S.2.1
  have hml := S.2.2.1
  have hown := S.2.2.2.1
  have hts := S.2.2.2.2.1
  have K16 : ∀ (x3 : Int32) (d : xD), k_X10_within_16 sh x3 d = some (r, dz) → ∀ (H : Heap) (locs : List Loc) (ls : Array Slot), lv_has ls 4 [(3, .int x3)] → xG D cid b A sh d s H locs → W p l e (xRm 3 0 0) s m av below meth c H locs 0 0 (MQ below (xQ D cid b ex A (some (.int r)) sh dz) av s 0 0 A) (F0 m 16 ls []) := by
    intro x3 d hf H locs ls hl G
    unfold k_X10_within_16 at hf
    refine lv_iload_n hx hb dX10_within_16 rfl (lv_at hl 0 rfl) ?_
    cases hf
    exact xr_iret S G (fun _ => rfl) hr dX10_within_17
  unfold f_X10_within at hf
  refine lv_aload_n hx hb dX10_within_0 rfl (lv_at hl 0 rfl) ?_
  refine lv_iload_n hx hb dX10_within_1 rfl (lv_at hl 1 rfl) ?_
  obtain ⟨z1, hz1, hf⟩ := x_ob hf
  obtain ⟨hqz1, hz1⟩ := xon_of hz1
  refine xr_callV (ci := 10) (As := [.int x1]) (rest := []) (st1 := [.int z1.1]) S G hl.1 (fun _ => rfl) (mt_X10_hasLaw l D cid b ex sa sv B0 sh q0 x1 d _ _ hz1) hqz1 (by decide) kw_1539 kw_1541 ks_66 kw_17 kw_1542 hd_X10_hasLaw ⟨Nat.le_of_ble_eq_true rfl, Nat.le_of_ble_eq_true rfl⟩ rfl rfl rfl (Nat.le_of_ble_eq_true rfl) ⟨Nat.le_of_ble_eq_true rfl, Nat.le_of_ble_eq_true rfl⟩ dX10_within_2 (fun H locs G => ?_)
  refine lv_if_eq (tgt := 16) hx hb dX10_within_5 (by decide) (fun c => ?_) (fun c => ?_)
  · have hf := x_pos c hf
    exact K16 x3 z1.2 hf _ _ ls (lv_sub hl [3] rfl) G
  · have hf := x_neg c hf
    refine lv_aload_n hx hb dX10_within_8 rfl (lv_at hl 0 rfl) ?_
    refine lv_iload_n hx hb dX10_within_9 rfl (lv_at hl 1 rfl) ?_
    obtain ⟨z2, hz2, hf⟩ := x_ob hf
    obtain ⟨hqz2, hz2⟩ := xon_of hz2
    refine xr_callV (ci := 10) (As := [.int x1]) (rest := []) (st1 := [.int z2.1]) S G hl.1 (fun _ => rfl) (mt_X10_goes l D cid b ex sa sv B0 sh q0 x1 z1.2 _ _ hz2) hqz2 (by decide) kw_1552 kw_1554 ks_69 kw_17 kw_1555 hd_X10_goes ⟨Nat.le_of_ble_eq_true rfl, Nat.le_of_ble_eq_true rfl⟩ rfl rfl rfl (Nat.le_of_ble_eq_true rfl) ⟨Nat.le_of_ble_eq_true rfl, Nat.le_of_ble_eq_true rfl⟩ dX10_within_10 (fun H locs G => ?_)
    refine lv_if_ne (tgt := 18) hx hb dX10_within_13 (by decide) (fun c => ?_) (fun c => ?_)
    · have hf := x_neg c hf
      refine lv_lconst (v := (0 : Int64)) hx hb dX10_within_18 (by decide) ?_
      refine lv_iload_n hx hb dX10_within_19 rfl (lv_at hl 2 rfl) ?_
      refine lv_i2l (v := (x2).toInt64) hx hb dX10_within_20 rfl ?_
      refine lv_aload_n hx hb dX10_within_21 rfl (lv_at hl 0 rfl) ?_
      obtain ⟨v3, hv3, hf⟩ := x_ob hf
      refine xr_getR (ci := 10) (k := 33) S G hv3 rfl kw_1201 dX10_within_22 ?_
      refine lv_iconst (v := (0 : Int32)) hx hb dX10_within_25 (by decide) ?_
      obtain ⟨v4, hv4, hf⟩ := x_ob hf
      refine xr_lald S G hv4 dX10_within_26 ?_
      refine va_mmin_long hx hb (hml.trans hl.1.symm) hown (hts _ kw_1640) (hts _ kw_872) (hts _ kw_18) (hts _ kp_mmin_long) (Nat.le_of_ble_eq_true rfl) (Nat.le_of_ble_eq_true rfl) (Nat.le_refl _) (Nat.le_refl _) dX10_within_27 ?_
      refine va_mmax_long hx hb (hml.trans hl.1.symm) hown (hts _ kw_1641) (hts _ kw_875) (hts _ kw_18) (hts _ kp_mmax_long) (Nat.le_of_ble_eq_true rfl) (Nat.le_of_ble_eq_true rfl) (Nat.le_refl _) (Nat.le_refl _) dX10_within_30 ?_
      refine lv_l2i (v := ((if (if v4 < (x2).toInt64 then v4 else (x2).toInt64) < (0 : Int64) then (0 : Int64) else (if v4 < (x2).toInt64 then v4 else (x2).toInt64))).toInt32) hx hb dX10_within_33 rfl ?_
      cases hf
      exact xr_iret S G (fun _ => rfl) hr dX10_within_34
    · have hf := x_pos c hf
      exact K16 x3 z2.2 hf _ _ ls (lv_sub hl [3] rfl) G
-- HalfLandingsModel.sitsDown(IIII)V
theorem dX10_sitsDown_0 : decode cX10_sitsDown 0 = .ok (.bipush 6, 2) := by decide +kernel
theorem dX10_sitsDown_2 : decode cX10_sitsDown 2 = .ok (.iload_n 1, 1) := by decide +kernel
theorem dX10_sitsDown_3 : decode cX10_sitsDown 3 = .ok (.imul, 1) := by decide +kernel
theorem dX10_sitsDown_4 : decode cX10_sitsDown 4 = .ok (.iload_n 2, 1) := by decide +kernel
theorem dX10_sitsDown_5 : decode cX10_sitsDown 5 = .ok (.iadd, 1) := by decide +kernel
theorem dX10_sitsDown_6 : decode cX10_sitsDown 6 = .ok (.istore 5, 2) := by decide +kernel
theorem dX10_sitsDown_8 : decode cX10_sitsDown 8 = .ok (.aload_n 0, 1) := by decide +kernel
theorem dX10_sitsDown_9 : decode cX10_sitsDown 9 = .ok (.getfield 87, 3) := by decide +kernel
theorem dX10_sitsDown_12 : decode cX10_sitsDown 12 = .ok (.iload 5, 2) := by decide +kernel
theorem dX10_sitsDown_14 : decode cX10_sitsDown 14 = .ok (.iconst 2, 1) := by decide +kernel
theorem dX10_sitsDown_15 : decode cX10_sitsDown 15 = .ok (.iastore, 1) := by decide +kernel
theorem dX10_sitsDown_16 : decode cX10_sitsDown 16 = .ok (.aload_n 0, 1) := by decide +kernel
theorem dX10_sitsDown_17 : decode cX10_sitsDown 17 = .ok (.getfield 96, 3) := by decide +kernel
theorem dX10_sitsDown_20 : decode cX10_sitsDown 20 = .ok (.iload 5, 2) := by decide +kernel
theorem dX10_sitsDown_22 : decode cX10_sitsDown 22 = .ok (.iload_n 3, 1) := by decide +kernel
theorem dX10_sitsDown_23 : decode cX10_sitsDown 23 = .ok (.iastore, 1) := by decide +kernel
theorem dX10_sitsDown_24 : decode cX10_sitsDown 24 = .ok (.aload_n 0, 1) := by decide +kernel
theorem dX10_sitsDown_25 : decode cX10_sitsDown 25 = .ok (.getfield 99, 3) := by decide +kernel
theorem dX10_sitsDown_28 : decode cX10_sitsDown 28 = .ok (.iload 5, 2) := by decide +kernel
theorem dX10_sitsDown_30 : decode cX10_sitsDown 30 = .ok (.iload 4, 2) := by decide +kernel
theorem dX10_sitsDown_32 : decode cX10_sitsDown 32 = .ok (.iastore, 1) := by decide +kernel
theorem dX10_sitsDown_33 : decode cX10_sitsDown 33 = .ok (.return_, 1) := by decide +kernel
theorem hd_X10_sitsDown : yX10_sitsDown.cls = xCn 10 ∧ yX10_sitsDown.cls ≠ "java/lang/invoke/MethodHandle" ∧ yX10_sitsDown.cls ≠ "java/lang/invoke/VarHandle" ∧ (parseMethodDescriptor yX10_sitsDown.desc).map (fun d => d.parameters.length) = some 4 := by decide +kernel
def f_X10_sitsDown (sh : List xSh) (q0 : Nat) (x1 : Int32) (x2 : Int32) (x3 : Int32) (x4 : Int32) (d : xD) : Option xD :=
  (xgR 10 sh d q0 40).bind fun v1 => (xsI .int sh d v1 (((6 : Int32) * x1) + x2) (2 : Int32)).bind fun d2 => (xgR 10 sh d2 q0 43).bind fun v3 => (xsI .int sh d2 v3 (((6 : Int32) * x1) + x2) x3).bind fun d4 => (xgR 10 sh d4 q0 44).bind fun v5 => (xsI .int sh d4 v5 (((6 : Int32) * x1) + x2) x4).bind fun d6 => some d6
set_option maxHeartbeats 4000000 in
set_option maxRecDepth 100000 in
theorem mt_X10_sitsDown (l : Launch) (D : va_G) (cid : FieldType → ClassId) (b : Nat) (ex : Bool) (sa sv B0 : Nat) (sh : List xSh) (q0 : Nat) (x1 : Int32) (x2 : Int32) (x3 : Int32) (x4 : Int32) (d : xD) (dz : xD) (hf : f_X10_sitsDown sh q0 x1 x2 x3 x4 d = some dz) : xMet l yX10_sitsDown cX10_sitsDown 6 none 0 0 0 D cid b ex sa sv B0 [.ref (b + q0), .int x1, .int x2, .int x3, .int x4] sh d none sh dz := by
  refine xMet.of (by decide) (Nat.le_of_ble_eq_true rfl) ?_
  intro p e s m below meth c ls A S hr hin G hl
  have hl : lv_has ls 6 [(0, .ref (b + q0)), (1, .int x1), (2, .int x2), (3, .int x3), (4, .int x4)] := hl
  generalize ([.ref (b + q0), .int x1, .int x2, .int x3, .int x4] : List Value).toArray = av at S ⊢
  have hx := S.1
  have hb := S.2.1
  have hml := S.2.2.1
  have hown := S.2.2.2.1
  have hts := S.2.2.2.2.1
  unfold f_X10_sitsDown at hf
  refine lv_bipush (v := (6 : Int32)) hx hb dX10_sitsDown_0 (by decide) ?_
  refine lv_iload_n hx hb dX10_sitsDown_2 rfl (lv_at hl 1 rfl) ?_
  refine lv_imul hx hb dX10_sitsDown_3 ?_
  refine lv_iload_n hx hb dX10_sitsDown_4 rfl (lv_at hl 2 rfl) ?_
  refine lv_iadd hx hb dX10_sitsDown_5 ?_
  refine lv_istore (lv' := [(5, .int (((6 : Int32) * x1) + x2)), (0, .ref (b + q0)), (1, .int x1), (2, .int x2), (3, .int x3), (4, .int x4)]) hx hb dX10_sitsDown_6 hl (by decide) rfl (fun ls hl => ?_)
  refine lv_aload_n hx hb dX10_sitsDown_8 rfl (lv_at hl 1 rfl) ?_
  obtain ⟨v1, hv1, hf⟩ := x_ob hf
  refine xr_getR (ci := 10) (k := 40) S G hv1 rfl kw_1208 dX10_sitsDown_9 ?_
  refine lv_iload hx hb dX10_sitsDown_12 (lv_at hl 0 rfl) ?_
  refine lv_iconst (v := (2 : Int32)) hx hb dX10_sitsDown_14 (by decide) ?_
  obtain ⟨d2, hd2, hf⟩ := x_ob hf
  refine xr_iast S G hd2 dX10_sitsDown_15 (fun H locs G => ?_)
  refine lv_aload_n hx hb dX10_sitsDown_16 rfl (lv_at hl 1 rfl) ?_
  obtain ⟨v3, hv3, hf⟩ := x_ob hf
  refine xr_getR (ci := 10) (k := 43) S G hv3 rfl kw_1211 dX10_sitsDown_17 ?_
  refine lv_iload hx hb dX10_sitsDown_20 (lv_at hl 0 rfl) ?_
  refine lv_iload_n hx hb dX10_sitsDown_22 rfl (lv_at hl 4 rfl) ?_
  obtain ⟨d4, hd4, hf⟩ := x_ob hf
  refine xr_iast S G hd4 dX10_sitsDown_23 (fun H locs G => ?_)
  refine lv_aload_n hx hb dX10_sitsDown_24 rfl (lv_at hl 1 rfl) ?_
  obtain ⟨v5, hv5, hf⟩ := x_ob hf
  refine xr_getR (ci := 10) (k := 44) S G hv5 rfl kw_1212 dX10_sitsDown_25 ?_
  refine lv_iload hx hb dX10_sitsDown_28 (lv_at hl 0 rfl) ?_
  refine lv_iload hx hb dX10_sitsDown_30 (lv_at hl 5 rfl) ?_
  obtain ⟨d6, hd6, hf⟩ := x_ob hf
  refine xr_iast S G hd6 dX10_sitsDown_32 (fun H locs G => ?_)
  cases hf
  exact xr_vret S G (fun _ => rfl) hr dX10_sitsDown_33
-- HalfLandingsModel.getsUp(II)V
theorem dX10_getsUp_0 : decode cX10_getsUp 0 = .ok (.bipush 6, 2) := by decide +kernel
theorem dX10_getsUp_2 : decode cX10_getsUp 2 = .ok (.iload_n 1, 1) := by decide +kernel
theorem dX10_getsUp_3 : decode cX10_getsUp 3 = .ok (.imul, 1) := by decide +kernel
theorem dX10_getsUp_4 : decode cX10_getsUp 4 = .ok (.iload_n 2, 1) := by decide +kernel
theorem dX10_getsUp_5 : decode cX10_getsUp 5 = .ok (.iadd, 1) := by decide +kernel
theorem dX10_getsUp_6 : decode cX10_getsUp 6 = .ok (.istore_n 3, 1) := by decide +kernel
theorem dX10_getsUp_7 : decode cX10_getsUp 7 = .ok (.aload_n 0, 1) := by decide +kernel
theorem dX10_getsUp_8 : decode cX10_getsUp 8 = .ok (.getfield 87, 3) := by decide +kernel
theorem dX10_getsUp_11 : decode cX10_getsUp 11 = .ok (.iload_n 3, 1) := by decide +kernel
theorem dX10_getsUp_12 : decode cX10_getsUp 12 = .ok (.iconst 1, 1) := by decide +kernel
theorem dX10_getsUp_13 : decode cX10_getsUp 13 = .ok (.iastore, 1) := by decide +kernel
theorem dX10_getsUp_14 : decode cX10_getsUp 14 = .ok (.aload_n 0, 1) := by decide +kernel
theorem dX10_getsUp_15 : decode cX10_getsUp 15 = .ok (.getfield 96, 3) := by decide +kernel
theorem dX10_getsUp_18 : decode cX10_getsUp 18 = .ok (.iload_n 3, 1) := by decide +kernel
theorem dX10_getsUp_19 : decode cX10_getsUp 19 = .ok (.iconst (-1), 1) := by decide +kernel
theorem dX10_getsUp_20 : decode cX10_getsUp 20 = .ok (.iastore, 1) := by decide +kernel
theorem dX10_getsUp_21 : decode cX10_getsUp 21 = .ok (.aload_n 0, 1) := by decide +kernel
theorem dX10_getsUp_22 : decode cX10_getsUp 22 = .ok (.getfield 99, 3) := by decide +kernel
theorem dX10_getsUp_25 : decode cX10_getsUp 25 = .ok (.iload_n 3, 1) := by decide +kernel
theorem dX10_getsUp_26 : decode cX10_getsUp 26 = .ok (.iconst 0, 1) := by decide +kernel
theorem dX10_getsUp_27 : decode cX10_getsUp 27 = .ok (.iastore, 1) := by decide +kernel
theorem dX10_getsUp_28 : decode cX10_getsUp 28 = .ok (.return_, 1) := by decide +kernel
theorem hd_X10_getsUp : yX10_getsUp.cls = xCn 10 ∧ yX10_getsUp.cls ≠ "java/lang/invoke/MethodHandle" ∧ yX10_getsUp.cls ≠ "java/lang/invoke/VarHandle" ∧ (parseMethodDescriptor yX10_getsUp.desc).map (fun d => d.parameters.length) = some 2 := by decide +kernel
def f_X10_getsUp (sh : List xSh) (q0 : Nat) (x1 : Int32) (x2 : Int32) (d : xD) : Option xD :=
  (xgR 10 sh d q0 40).bind fun v1 => (xsI .int sh d v1 (((6 : Int32) * x1) + x2) (1 : Int32)).bind fun d2 => (xgR 10 sh d2 q0 43).bind fun v3 => (xsI .int sh d2 v3 (((6 : Int32) * x1) + x2) (-1 : Int32)).bind fun d4 => (xgR 10 sh d4 q0 44).bind fun v5 => (xsI .int sh d4 v5 (((6 : Int32) * x1) + x2) (0 : Int32)).bind fun d6 => some d6
set_option maxHeartbeats 4000000 in
set_option maxRecDepth 100000 in
theorem mt_X10_getsUp (l : Launch) (D : va_G) (cid : FieldType → ClassId) (b : Nat) (ex : Bool) (sa sv B0 : Nat) (sh : List xSh) (q0 : Nat) (x1 : Int32) (x2 : Int32) (d : xD) (dz : xD) (hf : f_X10_getsUp sh q0 x1 x2 d = some dz) : xMet l yX10_getsUp cX10_getsUp 4 none 0 0 0 D cid b ex sa sv B0 [.ref (b + q0), .int x1, .int x2] sh d none sh dz := by
  refine xMet.of (by decide) (Nat.le_of_ble_eq_true rfl) ?_
  intro p e s m below meth c ls A S hr hin G hl
  have hl : lv_has ls 4 [(0, .ref (b + q0)), (1, .int x1), (2, .int x2)] := hl
  generalize ([.ref (b + q0), .int x1, .int x2] : List Value).toArray = av at S ⊢
  have hx := S.1
  have hb := S.2.1
  have hml := S.2.2.1
  have hown := S.2.2.2.1
  have hts := S.2.2.2.2.1
  unfold f_X10_getsUp at hf
  refine lv_bipush (v := (6 : Int32)) hx hb dX10_getsUp_0 (by decide) ?_
  refine lv_iload_n hx hb dX10_getsUp_2 rfl (lv_at hl 1 rfl) ?_
  refine lv_imul hx hb dX10_getsUp_3 ?_
  refine lv_iload_n hx hb dX10_getsUp_4 rfl (lv_at hl 2 rfl) ?_
  refine lv_iadd hx hb dX10_getsUp_5 ?_
  refine lv_istore_n (lv' := [(3, .int (((6 : Int32) * x1) + x2)), (0, .ref (b + q0)), (1, .int x1), (2, .int x2)]) hx hb dX10_getsUp_6 rfl hl (by decide) rfl (fun ls hl => ?_)
  refine lv_aload_n hx hb dX10_getsUp_7 rfl (lv_at hl 1 rfl) ?_
  obtain ⟨v1, hv1, hf⟩ := x_ob hf
  refine xr_getR (ci := 10) (k := 40) S G hv1 rfl kw_1208 dX10_getsUp_8 ?_
  refine lv_iload_n hx hb dX10_getsUp_11 rfl (lv_at hl 0 rfl) ?_
  refine lv_iconst (v := (1 : Int32)) hx hb dX10_getsUp_12 (by decide) ?_
  obtain ⟨d2, hd2, hf⟩ := x_ob hf
  refine xr_iast S G hd2 dX10_getsUp_13 (fun H locs G => ?_)
  refine lv_aload_n hx hb dX10_getsUp_14 rfl (lv_at hl 1 rfl) ?_
  obtain ⟨v3, hv3, hf⟩ := x_ob hf
  refine xr_getR (ci := 10) (k := 43) S G hv3 rfl kw_1211 dX10_getsUp_15 ?_
  refine lv_iload_n hx hb dX10_getsUp_18 rfl (lv_at hl 0 rfl) ?_
  refine lv_iconst (v := (-1 : Int32)) hx hb dX10_getsUp_19 (by decide) ?_
  obtain ⟨d4, hd4, hf⟩ := x_ob hf
  refine xr_iast S G hd4 dX10_getsUp_20 (fun H locs G => ?_)
  refine lv_aload_n hx hb dX10_getsUp_21 rfl (lv_at hl 1 rfl) ?_
  obtain ⟨v5, hv5, hf⟩ := x_ob hf
  refine xr_getR (ci := 10) (k := 44) S G hv5 rfl kw_1212 dX10_getsUp_22 ?_
  refine lv_iload_n hx hb dX10_getsUp_25 rfl (lv_at hl 0 rfl) ?_
  refine lv_iconst (v := (0 : Int32)) hx hb dX10_getsUp_26 (by decide) ?_
  obtain ⟨d6, hd6, hf⟩ := x_ob hf
  refine xr_iast S G hd6 dX10_getsUp_27 (fun H locs G => ?_)
  cases hf
  exact xr_vret S G (fun _ => rfl) hr dX10_getsUp_28
-- HalfLandingsModel.goesOut(II)V
theorem dX10_goesOut_0 : decode cX10_goesOut 0 = .ok (.aload_n 0, 1) := by decide +kernel
theorem dX10_goesOut_1 : decode cX10_goesOut 1 = .ok (.iload_n 1, 1) := by decide +kernel
theorem dX10_goesOut_2 : decode cX10_goesOut 2 = .ok (.iload_n 2, 1) := by decide +kernel
theorem dX10_goesOut_3 : decode cX10_goesOut 3 = .ok (.invokevirtual 356, 3) := by decide +kernel
theorem dX10_goesOut_6 : decode cX10_goesOut 6 = .ok (.aload_n 0, 1) := by decide +kernel
theorem dX10_goesOut_7 : decode cX10_goesOut 7 = .ok (.getfield 87, 3) := by decide +kernel
theorem dX10_goesOut_10 : decode cX10_goesOut 10 = .ok (.bipush 6, 2) := by decide +kernel
theorem dX10_goesOut_12 : decode cX10_goesOut 12 = .ok (.iload_n 1, 1) := by decide +kernel
theorem dX10_goesOut_13 : decode cX10_goesOut 13 = .ok (.imul, 1) := by decide +kernel
theorem dX10_goesOut_14 : decode cX10_goesOut 14 = .ok (.iload_n 2, 1) := by decide +kernel
theorem dX10_goesOut_15 : decode cX10_goesOut 15 = .ok (.iadd, 1) := by decide +kernel
theorem dX10_goesOut_16 : decode cX10_goesOut 16 = .ok (.iconst 3, 1) := by decide +kernel
theorem dX10_goesOut_17 : decode cX10_goesOut 17 = .ok (.iastore, 1) := by decide +kernel
theorem dX10_goesOut_18 : decode cX10_goesOut 18 = .ok (.return_, 1) := by decide +kernel
theorem hd_X10_goesOut : yX10_goesOut.cls = xCn 10 ∧ yX10_goesOut.cls ≠ "java/lang/invoke/MethodHandle" ∧ yX10_goesOut.cls ≠ "java/lang/invoke/VarHandle" ∧ (parseMethodDescriptor yX10_goesOut.desc).map (fun d => d.parameters.length) = some 2 := by decide +kernel
def f_X10_goesOut (sh : List xSh) (q0 : Nat) (x1 : Int32) (x2 : Int32) (d : xD) : Option xD :=
  (xon 10 sh q0 (f_X10_getsUp sh q0 x1 x2 d)).bind fun d1 => (xgR 10 sh d1 q0 40).bind fun v2 => (xsI .int sh d1 v2 (((6 : Int32) * x1) + x2) (3 : Int32)).bind fun d3 => some d3
set_option maxHeartbeats 4000000 in
set_option maxRecDepth 100000 in
theorem mt_X10_goesOut (l : Launch) (D : va_G) (cid : FieldType → ClassId) (b : Nat) (ex : Bool) (sa sv B0 : Nat) (sh : List xSh) (q0 : Nat) (x1 : Int32) (x2 : Int32) (d : xD) (dz : xD) (hf : f_X10_goesOut sh q0 x1 x2 d = some dz) : xMet l yX10_goesOut cX10_goesOut 3 none 1 0 0 D cid b ex sa sv B0 [.ref (b + q0), .int x1, .int x2] sh d none sh dz := by
  refine xMet.of (by decide) (Nat.le_of_ble_eq_true rfl) ?_
  intro p e s m below meth c ls A S hr hin G hl
  have hl : lv_has ls 3 [(0, .ref (b + q0)), (1, .int x1), (2, .int x2)] := hl
  generalize ([.ref (b + q0), .int x1, .int x2] : List Value).toArray = av at S ⊢
  have hx := S.1
  have hb := S.2.1
  have hml := S.2.2.1
  have hown := S.2.2.2.1
  have hts := S.2.2.2.2.1
  unfold f_X10_goesOut at hf
  refine lv_aload_n hx hb dX10_goesOut_0 rfl (lv_at hl 0 rfl) ?_
  refine lv_iload_n hx hb dX10_goesOut_1 rfl (lv_at hl 1 rfl) ?_
  refine lv_iload_n hx hb dX10_goesOut_2 rfl (lv_at hl 2 rfl) ?_
  obtain ⟨d1, hd1, hf⟩ := x_ob hf
  obtain ⟨hqd1, hd1⟩ := xon_of hd1
  refine xr_callV (ci := 10) (As := [.int x1, .int x2]) (rest := []) (st1 := []) S G hl.1 (fun _ => rfl) (mt_X10_getsUp l D cid b ex sa sv B0 sh q0 x1 x2 d _ hd1) hqd1 (by decide) kw_1592 kw_1594 ks_75 kw_17 kw_1595 hd_X10_getsUp ⟨Nat.le_of_ble_eq_true rfl, Nat.le_of_ble_eq_true rfl⟩ rfl rfl rfl (Nat.le_of_ble_eq_true rfl) ⟨Nat.le_of_ble_eq_true rfl, Nat.le_of_ble_eq_true rfl⟩ dX10_goesOut_3 (fun H locs G => ?_)
  refine lv_aload_n hx hb dX10_goesOut_6 rfl (lv_at hl 0 rfl) ?_
  obtain ⟨v2, hv2, hf⟩ := x_ob hf
  refine xr_getR (ci := 10) (k := 40) S G hv2 rfl kw_1208 dX10_goesOut_7 ?_
  refine lv_bipush (v := (6 : Int32)) hx hb dX10_goesOut_10 (by decide) ?_
  refine lv_iload_n hx hb dX10_goesOut_12 rfl (lv_at hl 1 rfl) ?_
  refine lv_imul hx hb dX10_goesOut_13 ?_
  refine lv_iload_n hx hb dX10_goesOut_14 rfl (lv_at hl 2 rfl) ?_
  refine lv_iadd hx hb dX10_goesOut_15 ?_
  refine lv_iconst (v := (3 : Int32)) hx hb dX10_goesOut_16 (by decide) ?_
  obtain ⟨d3, hd3, hf⟩ := x_ob hf
  refine xr_iast S G hd3 dX10_goesOut_17 (fun H locs G => ?_)
  cases hf
  exact xr_vret S G (fun _ => rfl) hr dX10_goesOut_18
-- HalfLandingsModel.sitsAt(III)Z
theorem dX10_sitsAt_0 : decode cX10_sitsAt 0 = .ok (.aload_n 0, 1) := by decide +kernel
theorem dX10_sitsAt_1 : decode cX10_sitsAt 1 = .ok (.iload_n 3, 1) := by decide +kernel
theorem dX10_sitsAt_2 : decode cX10_sitsAt 2 = .ok (.invokevirtual 359, 3) := by decide +kernel
theorem dX10_sitsAt_5 : decode cX10_sitsAt 5 = .ok (.istore 4, 2) := by decide +kernel
theorem dX10_sitsAt_7 : decode cX10_sitsAt 7 = .ok (.iload 4, 2) := by decide +kernel
theorem dX10_sitsAt_9 : decode cX10_sitsAt 9 = .ok (.iconst (-1), 1) := by decide +kernel
theorem dX10_sitsAt_10 : decode cX10_sitsAt 10 = .ok (.if_icmp .eq 13, 3) := by decide +kernel
theorem dX10_sitsAt_13 : decode cX10_sitsAt 13 = .ok (.aload_n 0, 1) := by decide +kernel
theorem dX10_sitsAt_14 : decode cX10_sitsAt 14 = .ok (.iload_n 1, 1) := by decide +kernel
theorem dX10_sitsAt_15 : decode cX10_sitsAt 15 = .ok (.iload 4, 2) := by decide +kernel
theorem dX10_sitsAt_17 : decode cX10_sitsAt 17 = .ok (.invokevirtual 362, 3) := by decide +kernel
theorem dX10_sitsAt_20 : decode cX10_sitsAt 20 = .ok (.ifCond .gt 5, 3) := by decide +kernel
theorem dX10_sitsAt_23 : decode cX10_sitsAt 23 = .ok (.iconst 0, 1) := by decide +kernel
theorem dX10_sitsAt_24 : decode cX10_sitsAt 24 = .ok (.ireturn, 1) := by decide +kernel
theorem dX10_sitsAt_25 : decode cX10_sitsAt 25 = .ok (.iconst 0, 1) := by decide +kernel
theorem dX10_sitsAt_26 : decode cX10_sitsAt 26 = .ok (.istore 5, 2) := by decide +kernel
theorem dX10_sitsAt_28 : decode cX10_sitsAt 28 = .ok (.iload 5, 2) := by decide +kernel
theorem dX10_sitsAt_30 : decode cX10_sitsAt 30 = .ok (.aload_n 0, 1) := by decide +kernel
theorem dX10_sitsAt_31 : decode cX10_sitsAt 31 = .ok (.getfield 13, 3) := by decide +kernel
theorem dX10_sitsAt_34 : decode cX10_sitsAt 34 = .ok (.iconst 3, 1) := by decide +kernel
theorem dX10_sitsAt_35 : decode cX10_sitsAt 35 = .ok (.iaload, 1) := by decide +kernel
theorem dX10_sitsAt_36 : decode cX10_sitsAt 36 = .ok (.if_icmp .ge 88, 3) := by decide +kernel
theorem dX10_sitsAt_39 : decode cX10_sitsAt 39 = .ok (.aload_n 0, 1) := by decide +kernel
theorem dX10_sitsAt_40 : decode cX10_sitsAt 40 = .ok (.getfield 331, 3) := by decide +kernel
theorem dX10_sitsAt_43 : decode cX10_sitsAt 43 = .ok (.iconst 4, 1) := by decide +kernel
theorem dX10_sitsAt_44 : decode cX10_sitsAt 44 = .ok (.if_icmp .eq 80, 3) := by decide +kernel
theorem dX10_sitsAt_47 : decode cX10_sitsAt 47 = .ok (.aload_n 0, 1) := by decide +kernel
theorem dX10_sitsAt_48 : decode cX10_sitsAt 48 = .ok (.getfield 84, 3) := by decide +kernel
theorem dX10_sitsAt_51 : decode cX10_sitsAt 51 = .ok (.iload_n 1, 1) := by decide +kernel
theorem dX10_sitsAt_52 : decode cX10_sitsAt 52 = .ok (.iaload, 1) := by decide +kernel
theorem dX10_sitsAt_53 : decode cX10_sitsAt 53 = .ok (.iload 5, 2) := by decide +kernel
theorem dX10_sitsAt_55 : decode cX10_sitsAt 55 = .ok (.ishr, 1) := by decide +kernel
theorem dX10_sitsAt_56 : decode cX10_sitsAt 56 = .ok (.iconst 1, 1) := by decide +kernel
theorem dX10_sitsAt_57 : decode cX10_sitsAt 57 = .ok (.iand, 1) := by decide +kernel
theorem dX10_sitsAt_58 : decode cX10_sitsAt 58 = .ok (.iconst 1, 1) := by decide +kernel
theorem dX10_sitsAt_59 : decode cX10_sitsAt 59 = .ok (.if_icmp .eq 59, 3) := by decide +kernel
theorem dX10_sitsAt_62 : decode cX10_sitsAt 62 = .ok (.aload_n 0, 1) := by decide +kernel
theorem dX10_sitsAt_63 : decode cX10_sitsAt 63 = .ok (.getfield 40, 3) := by decide +kernel
theorem dX10_sitsAt_66 : decode cX10_sitsAt 66 = .ok (.iload 5, 2) := by decide +kernel
theorem dX10_sitsAt_68 : decode cX10_sitsAt 68 = .ok (.iaload, 1) := by decide +kernel
theorem dX10_sitsAt_69 : decode cX10_sitsAt 69 = .ok (.iload_n 2, 1) := by decide +kernel
theorem dX10_sitsAt_70 : decode cX10_sitsAt 70 = .ok (.if_icmp .ne 48, 3) := by decide +kernel
theorem dX10_sitsAt_73 : decode cX10_sitsAt 73 = .ok (.aload_n 0, 1) := by decide +kernel
theorem dX10_sitsAt_74 : decode cX10_sitsAt 74 = .ok (.getfield 43, 3) := by decide +kernel
theorem dX10_sitsAt_77 : decode cX10_sitsAt 77 = .ok (.iload 5, 2) := by decide +kernel
theorem dX10_sitsAt_79 : decode cX10_sitsAt 79 = .ok (.iaload, 1) := by decide +kernel
theorem dX10_sitsAt_80 : decode cX10_sitsAt 80 = .ok (.iload 4, 2) := by decide +kernel
theorem dX10_sitsAt_82 : decode cX10_sitsAt 82 = .ok (.if_icmp .eq 6, 3) := by decide +kernel
theorem dX10_sitsAt_85 : decode cX10_sitsAt 85 = .ok (.goto 33, 3) := by decide +kernel
theorem dX10_sitsAt_88 : decode cX10_sitsAt 88 = .ok (.aload_n 0, 1) := by decide +kernel
theorem dX10_sitsAt_89 : decode cX10_sitsAt 89 = .ok (.getfield 84, 3) := by decide +kernel
theorem dX10_sitsAt_92 : decode cX10_sitsAt 92 = .ok (.iload_n 1, 1) := by decide +kernel
theorem dX10_sitsAt_93 : decode cX10_sitsAt 93 = .ok (.dup2, 1) := by decide +kernel
theorem dX10_sitsAt_94 : decode cX10_sitsAt 94 = .ok (.iaload, 1) := by decide +kernel
theorem dX10_sitsAt_95 : decode cX10_sitsAt 95 = .ok (.iconst 1, 1) := by decide +kernel
theorem dX10_sitsAt_96 : decode cX10_sitsAt 96 = .ok (.iload 5, 2) := by decide +kernel
theorem dX10_sitsAt_98 : decode cX10_sitsAt 98 = .ok (.ishl, 1) := by decide +kernel
theorem dX10_sitsAt_99 : decode cX10_sitsAt 99 = .ok (.ior, 1) := by decide +kernel
theorem dX10_sitsAt_100 : decode cX10_sitsAt 100 = .ok (.iastore, 1) := by decide +kernel
theorem dX10_sitsAt_101 : decode cX10_sitsAt 101 = .ok (.aload_n 0, 1) := by decide +kernel
theorem dX10_sitsAt_102 : decode cX10_sitsAt 102 = .ok (.iload_n 1, 1) := by decide +kernel
theorem dX10_sitsAt_103 : decode cX10_sitsAt 103 = .ok (.iload_n 2, 1) := by decide +kernel
theorem dX10_sitsAt_104 : decode cX10_sitsAt 104 = .ok (.iload 4, 2) := by decide +kernel
theorem dX10_sitsAt_106 : decode cX10_sitsAt 106 = .ok (.aload_n 0, 1) := by decide +kernel
theorem dX10_sitsAt_107 : decode cX10_sitsAt 107 = .ok (.getfield 46, 3) := by decide +kernel
theorem dX10_sitsAt_110 : decode cX10_sitsAt 110 = .ok (.iload 5, 2) := by decide +kernel
theorem dX10_sitsAt_112 : decode cX10_sitsAt 112 = .ok (.iaload, 1) := by decide +kernel
theorem dX10_sitsAt_113 : decode cX10_sitsAt 113 = .ok (.invokevirtual 365, 3) := by decide +kernel
theorem dX10_sitsAt_116 : decode cX10_sitsAt 116 = .ok (.iconst 1, 1) := by decide +kernel
theorem dX10_sitsAt_117 : decode cX10_sitsAt 117 = .ok (.ireturn, 1) := by decide +kernel
theorem dX10_sitsAt_118 : decode cX10_sitsAt 118 = .ok (.iinc 5 1, 3) := by decide +kernel
theorem dX10_sitsAt_121 : decode cX10_sitsAt 121 = .ok (.goto (-93), 3) := by decide +kernel
theorem dX10_sitsAt_124 : decode cX10_sitsAt 124 = .ok (.aload_n 0, 1) := by decide +kernel
theorem dX10_sitsAt_125 : decode cX10_sitsAt 125 = .ok (.getfield 114, 3) := by decide +kernel
theorem dX10_sitsAt_128 : decode cX10_sitsAt 128 = .ok (.iload_n 2, 1) := by decide +kernel
theorem dX10_sitsAt_129 : decode cX10_sitsAt 129 = .ok (.if_icmp .ne 31, 3) := by decide +kernel
theorem dX10_sitsAt_132 : decode cX10_sitsAt 132 = .ok (.aload_n 0, 1) := by decide +kernel
theorem dX10_sitsAt_133 : decode cX10_sitsAt 133 = .ok (.getfield 369, 3) := by decide +kernel
theorem dX10_sitsAt_136 : decode cX10_sitsAt 136 = .ok (.iload 4, 2) := by decide +kernel
theorem dX10_sitsAt_138 : decode cX10_sitsAt 138 = .ok (.if_icmp .ne 22, 3) := by decide +kernel
theorem dX10_sitsAt_141 : decode cX10_sitsAt 141 = .ok (.aload_n 0, 1) := by decide +kernel
theorem dX10_sitsAt_142 : decode cX10_sitsAt 142 = .ok (.iconst (-1), 1) := by decide +kernel
theorem dX10_sitsAt_143 : decode cX10_sitsAt 143 = .ok (.putfield 114, 3) := by decide +kernel
theorem dX10_sitsAt_146 : decode cX10_sitsAt 146 = .ok (.aload_n 0, 1) := by decide +kernel
theorem dX10_sitsAt_147 : decode cX10_sitsAt 147 = .ok (.iload_n 1, 1) := by decide +kernel
theorem dX10_sitsAt_148 : decode cX10_sitsAt 148 = .ok (.iload_n 2, 1) := by decide +kernel
theorem dX10_sitsAt_149 : decode cX10_sitsAt 149 = .ok (.iload 4, 2) := by decide +kernel
theorem dX10_sitsAt_151 : decode cX10_sitsAt 151 = .ok (.aload_n 0, 1) := by decide +kernel
theorem dX10_sitsAt_152 : decode cX10_sitsAt 152 = .ok (.getfield 372, 3) := by decide +kernel
theorem dX10_sitsAt_155 : decode cX10_sitsAt 155 = .ok (.invokevirtual 365, 3) := by decide +kernel
theorem dX10_sitsAt_158 : decode cX10_sitsAt 158 = .ok (.iconst 1, 1) := by decide +kernel
theorem dX10_sitsAt_159 : decode cX10_sitsAt 159 = .ok (.ireturn, 1) := by decide +kernel
theorem dX10_sitsAt_160 : decode cX10_sitsAt 160 = .ok (.aload_n 0, 1) := by decide +kernel
theorem dX10_sitsAt_161 : decode cX10_sitsAt 161 = .ok (.iload_n 1, 1) := by decide +kernel
theorem dX10_sitsAt_162 : decode cX10_sitsAt 162 = .ok (.iload_n 2, 1) := by decide +kernel
theorem dX10_sitsAt_163 : decode cX10_sitsAt 163 = .ok (.iload 4, 2) := by decide +kernel
theorem dX10_sitsAt_165 : decode cX10_sitsAt 165 = .ok (.invokevirtual 375, 3) := by decide +kernel
theorem dX10_sitsAt_168 : decode cX10_sitsAt 168 = .ok (.aload_n 0, 1) := by decide +kernel
theorem dX10_sitsAt_169 : decode cX10_sitsAt 169 = .ok (.iconst 0, 1) := by decide +kernel
theorem dX10_sitsAt_170 : decode cX10_sitsAt 170 = .ok (.invokevirtual 343, 3) := by decide +kernel
theorem dX10_sitsAt_173 : decode cX10_sitsAt 173 = .ok (.ifCond .eq 22, 3) := by decide +kernel
theorem dX10_sitsAt_176 : decode cX10_sitsAt 176 = .ok (.aload_n 0, 1) := by decide +kernel
theorem dX10_sitsAt_177 : decode cX10_sitsAt 177 = .ok (.iconst 0, 1) := by decide +kernel
theorem dX10_sitsAt_178 : decode cX10_sitsAt 178 = .ok (.invokevirtual 346, 3) := by decide +kernel
theorem dX10_sitsAt_181 : decode cX10_sitsAt 181 = .ok (.ifCond .eq 14, 3) := by decide +kernel
theorem dX10_sitsAt_184 : decode cX10_sitsAt 184 = .ok (.aload_n 0, 1) := by decide +kernel
theorem dX10_sitsAt_185 : decode cX10_sitsAt 185 = .ok (.getfield 69, 3) := by decide +kernel
theorem dX10_sitsAt_188 : decode cX10_sitsAt 188 = .ok (.iconst 0, 1) := by decide +kernel
theorem dX10_sitsAt_189 : decode cX10_sitsAt 189 = .ok (.laload, 1) := by decide +kernel
theorem dX10_sitsAt_190 : decode cX10_sitsAt 190 = .ok (.lconst 0, 1) := by decide +kernel
theorem dX10_sitsAt_191 : decode cX10_sitsAt 191 = .ok (.lcmp, 1) := by decide +kernel
theorem dX10_sitsAt_192 : decode cX10_sitsAt 192 = .ok (.ifCond .ne 5, 3) := by decide +kernel
theorem dX10_sitsAt_195 : decode cX10_sitsAt 195 = .ok (.iconst 0, 1) := by decide +kernel
theorem dX10_sitsAt_196 : decode cX10_sitsAt 196 = .ok (.ireturn, 1) := by decide +kernel
theorem dX10_sitsAt_197 : decode cX10_sitsAt 197 = .ok (.aload_n 0, 1) := by decide +kernel
theorem dX10_sitsAt_198 : decode cX10_sitsAt 198 = .ok (.iload_n 1, 1) := by decide +kernel
theorem dX10_sitsAt_199 : decode cX10_sitsAt 199 = .ok (.iload_n 2, 1) := by decide +kernel
theorem dX10_sitsAt_200 : decode cX10_sitsAt 200 = .ok (.iload 4, 2) := by decide +kernel
theorem dX10_sitsAt_202 : decode cX10_sitsAt 202 = .ok (.iconst 1, 1) := by decide +kernel
theorem dX10_sitsAt_203 : decode cX10_sitsAt 203 = .ok (.invokevirtual 365, 3) := by decide +kernel
theorem dX10_sitsAt_206 : decode cX10_sitsAt 206 = .ok (.iconst 1, 1) := by decide +kernel
theorem dX10_sitsAt_207 : decode cX10_sitsAt 207 = .ok (.ireturn, 1) := by decide +kernel
theorem hd_X10_sitsAt : yX10_sitsAt.cls = xCn 10 ∧ yX10_sitsAt.cls ≠ "java/lang/invoke/MethodHandle" ∧ yX10_sitsAt.cls ≠ "java/lang/invoke/VarHandle" ∧ (parseMethodDescriptor yX10_sitsAt.desc).map (fun d => d.parameters.length) = some 3 := by decide +kernel
def k_X10_sitsAt_23 (sh : List xSh) (d : xD) : Option (Int32 × xD) :=
  some ((0 : Int32), d)
def k_X10_sitsAt_195 (sh : List xSh) (d : xD) : Option (Int32 × xD) :=
  some ((0 : Int32), d)
def k_X10_sitsAt_160 (sh : List xSh) (q0 : Nat) (x1 : Int32) (x2 : Int32) (x4 : Int32) (d : xD) : Option (Int32 × xD) :=
  (xon 10 sh q0 (f_X10_calls sh q0 x1 x2 x4 d)).bind fun d1 => (xon 10 sh q0 (f_X10_hasLaw sh q0 (0 : Int32) d1)).bind fun z2 => if z2.1 = 0 then (k_X10_sitsAt_195 sh z2.2) else ((xon 10 sh q0 (f_X10_goes sh q0 (0 : Int32) z2.2)).bind fun z3 => if z3.1 = 0 then (k_X10_sitsAt_195 sh z3.2) else ((xgR 10 sh z3.2 q0 33).bind fun v4 => (xaL sh z3.2 v4 (0 : Int32)).bind fun v5 => if (lg_cmp v5 (0 : Int64)) = 0 then (k_X10_sitsAt_195 sh z3.2) else ((xon 10 sh q0 (f_X10_sitsDown sh q0 x1 x2 x4 (1 : Int32) z3.2)).bind fun d6 => some ((1 : Int32), d6))))
def k_X10_sitsAt_124 (sh : List xSh) (q0 : Nat) (x1 : Int32) (x2 : Int32) (x4 : Int32) (d : xD) : Option (Int32 × xD) :=
  (xgI 10 sh d q0 53).bind fun v7 => if v7 = x2 then ((xgI 10 sh d q0 54).bind fun v8 => if v8 = x4 then ((xpI 10 sh d q0 53 (-1 : Int32)).bind fun d9 => (xgI 10 sh d9 q0 55).bind fun v10 => (xon 10 sh q0 (f_X10_sitsDown sh q0 x1 x2 x4 v10 d9)).bind fun d11 => some ((1 : Int32), d11)) else (k_X10_sitsAt_160 sh q0 x1 x2 x4 d)) else (k_X10_sitsAt_160 sh q0 x1 x2 x4 d)
def k_X10_sitsAt_118 (sh : List xSh) (rec28 : Nat → Int32 → Int32 → Int32 → Int32 → xD → Option (Int32 × xD)) (q0 : Nat) (x1 : Int32) (x2 : Int32) (x4 : Int32) (x5 : Int32) (d : xD) : Option (Int32 × xD) :=
  rec28 q0 x1 x2 x4 (x5 + 1) d
def k_X10_sitsAt_88 (sh : List xSh) (q0 : Nat) (x1 : Int32) (x2 : Int32) (x4 : Int32) (x5 : Int32) (d : xD) : Option (Int32 × xD) :=
  (xgR 10 sh d q0 39).bind fun v12 => (xaI .int sh d v12 x1).bind fun v13 => (xsI .int sh d v12 x1 (v13 ||| ((1 : Int32) <<< (x5 &&& 31)))).bind fun d14 => (xgR 10 sh d14 q0 14).bind fun v15 => (xaI .int sh d14 v15 x5).bind fun v16 => (xon 10 sh q0 (f_X10_sitsDown sh q0 x1 x2 x4 v16 d14)).bind fun d17 => some ((1 : Int32), d17)
def b_X10_sitsAt_28 (sh : List xSh) (rec28 : Nat → Int32 → Int32 → Int32 → Int32 → xD → Option (Int32 × xD)) (q0 : Nat) (x1 : Int32) (x2 : Int32) (x4 : Int32) (x5 : Int32) (d : xD) : Option (Int32 × xD) :=
  (xgR 10 sh d q0 3).bind fun v18 => (xaI .int sh d v18 (3 : Int32)).bind fun v19 => if v19 ≤ x5 then (k_X10_sitsAt_124 sh q0 x1 x2 x4 d) else ((xgI 10 sh d q0 50).bind fun v20 => if v20 = (4 : Int32) then (k_X10_sitsAt_124 sh q0 x1 x2 x4 d) else ((xgR 10 sh d q0 39).bind fun v21 => (xaI .int sh d v21 x1).bind fun v22 => if ((v22 >>> (x5 &&& 31)) &&& (1 : Int32)) = (1 : Int32) then (k_X10_sitsAt_118 sh rec28 q0 x1 x2 x4 x5 d) else ((xgR 10 sh d q0 12).bind fun v23 => (xaI .int sh d v23 x5).bind fun v24 => if v24 = x2 then ((xgR 10 sh d q0 13).bind fun v25 => (xaI .int sh d v25 x5).bind fun v26 => if v26 = x4 then (k_X10_sitsAt_88 sh q0 x1 x2 x4 x5 d) else (k_X10_sitsAt_118 sh rec28 q0 x1 x2 x4 x5 d)) else (k_X10_sitsAt_118 sh rec28 q0 x1 x2 x4 x5 d))))
def f_X10_sitsAt (sh : List xSh) (q0 : Nat) (x1 : Int32) (x2 : Int32) (x3 : Int32) (d : xD) : Option (Int32 × xD) :=
  (xon 10 sh q0 (f_X10_benchAt sh q0 x3 d)).bind fun z27 => if z27.1 = (-1 : Int32) then (k_X10_sitsAt_23 sh z27.2) else ((xon 10 sh q0 (f_X10_freeOn sh q0 x1 z27.1 z27.2)).bind fun z28 => if 0 < z28.1 then (xloop (fun _ _ _ _ _ _ => none) (b_X10_sitsAt_28 sh) xF q0 x1 x2 z27.1 (0 : Int32) z28.2) else (k_X10_sitsAt_23 sh z28.2))
set_option maxHeartbeats 4000000 in
set_option maxRecDepth 100000 in
theorem mt_X10_sitsAt (l : Launch) (D : va_G) (cid : FieldType → ClassId) (b : Nat) (ex : Bool) (sa sv B0 : Nat) (sh : List xSh) (q0 : Nat) (x1 : Int32) (x2 : Int32) (x3 : Int32) (d : xD) (r : Int32) (dz : xD) (hf : f_X10_sitsAt sh q0 x1 x2 x3 d = some (r, dz)) : xMet l yX10_sitsAt cX10_sitsAt 6 (some .boolean) 3 0 0 D cid b ex sa sv B0 [.ref (b + q0), .int x1, .int x2, .int x3] sh d (some (.int r)) sh dz := by
  refine xMet.of (by decide) (Nat.le_of_ble_eq_true rfl) ?_
  intro p e s m below meth c ls A S hr hin G hl
  have hl : lv_has ls 6 [(0, .ref (b + q0)), (1, .int x1), (2, .int x2), (3, .int x3)] := hl
  generalize ([.ref (b + q0), .int x1, .int x2, .int x3] : List Value).toArray = av at S ⊢
  have hx := S.1
  have hb := S.2.1
  have hml := S.2.2.1
  have hown := S.2.2.2.1
  have hts := S.2.2.2.2.1
  have K23 : ∀ (d : xD), k_X10_sitsAt_23 sh d = some (r, dz) → ∀ (H : Heap) (locs : List Loc) (ls : Array Slot), lv_has ls 6 [] → xG D cid b A sh d s H locs → W p l e (xRm 3 0 0) s m av below meth c H locs 0 0 (MQ below (xQ D cid b ex A (some (.int r)) sh dz) av s 0 0 A) (F0 m 23 ls []) := by
    intro d hf H locs ls hl G
    unfold k_X10_sitsAt_23 at hf
    refine lv_iconst (v := (0 : Int32)) hx hb dX10_sitsAt_23 (by decide) ?_
    cases hf
    exact xr_zret S G (fun _ => rfl) hr (by decide) dX10_sitsAt_24
  have K195 : ∀ (d : xD), k_X10_sitsAt_195 sh d = some (r, dz) → ∀ (H : Heap) (locs : List Loc) (ls : Array Slot), lv_has ls 6 [] → xG D cid b A sh d s H locs → W p l e (xRm 3 0 0) s m av below meth c H locs 0 0 (MQ below (xQ D cid b ex A (some (.int r)) sh dz) av s 0 0 A) (F0 m 195 ls []) := by
    intro d hf H locs ls hl G
    unfold k_X10_sitsAt_195 at hf
    refine lv_iconst (v := (0 : Int32)) hx hb dX10_sitsAt_195 (by decide) ?_
    cases hf
    exact xr_zret S G (fun _ => rfl) hr (by decide) dX10_sitsAt_196
  have K160 : ∀ (q0 : Nat) (x1 : Int32) (x2 : Int32) (x4 : Int32) (d : xD), k_X10_sitsAt_160 sh q0 x1 x2 x4 d = some (r, dz) → ∀ (H : Heap) (locs : List Loc) (ls : Array Slot), lv_has ls 6 [(0, .ref (b + q0)), (1, .int x1), (2, .int x2), (4, .int x4)] → xG D cid b A sh d s H locs → W p l e (xRm 3 0 0) s m av below meth c H locs 0 0 (MQ below (xQ D cid b ex A (some (.int r)) sh dz) av s 0 0 A) (F0 m 160 ls []) := by
    intro q0 x1 x2 x4 d hf H locs ls hl G
    unfold k_X10_sitsAt_160 at hf
    refine lv_aload_n hx hb dX10_sitsAt_160 rfl (lv_at hl 0 rfl) ?_
    refine lv_iload_n hx hb dX10_sitsAt_161 rfl (lv_at hl 1 rfl) ?_
    refine lv_iload_n hx hb dX10_sitsAt_162 rfl (lv_at hl 2 rfl) ?_
    refine lv_iload hx hb dX10_sitsAt_163 (lv_at hl 3 rfl) ?_
    obtain ⟨d1, hd1, hf⟩ := x_ob hf
    obtain ⟨hqd1, hd1⟩ := xon_of hd1
    refine xr_callV (ci := 10) (As := [.int x1, .int x2, .int x4]) (rest := []) (st1 := []) S G hl.1 (fun _ => rfl) (mt_X10_calls l D cid b ex sa sv B0 sh q0 x1 x2 x4 d _ hd1) hqd1 (by decide) kw_1544 kw_1546 ks_67 kw_17 kw_1547 hd_X10_calls ⟨Nat.le_of_ble_eq_true rfl, Nat.le_of_ble_eq_true rfl⟩ rfl rfl rfl (Nat.le_of_ble_eq_true rfl) ⟨Nat.le_of_ble_eq_true rfl, Nat.le_of_ble_eq_true rfl⟩ dX10_sitsAt_165 (fun H locs G => ?_)
    refine lv_aload_n hx hb dX10_sitsAt_168 rfl (lv_at hl 0 rfl) ?_
    refine lv_iconst (v := (0 : Int32)) hx hb dX10_sitsAt_169 (by decide) ?_
    obtain ⟨z2, hz2, hf⟩ := x_ob hf
    obtain ⟨hqz2, hz2⟩ := xon_of hz2
    refine xr_callV (ci := 10) (As := [.int (0 : Int32)]) (rest := []) (st1 := [.int z2.1]) S G hl.1 (fun _ => rfl) (mt_X10_hasLaw l D cid b ex sa sv B0 sh q0 (0 : Int32) d1 _ _ hz2) hqz2 (by decide) kw_1539 kw_1541 ks_66 kw_17 kw_1542 hd_X10_hasLaw ⟨Nat.le_of_ble_eq_true rfl, Nat.le_of_ble_eq_true rfl⟩ rfl rfl rfl (Nat.le_of_ble_eq_true rfl) ⟨Nat.le_of_ble_eq_true rfl, Nat.le_of_ble_eq_true rfl⟩ dX10_sitsAt_170 (fun H locs G => ?_)
    refine lv_if_eq (tgt := 195) hx hb dX10_sitsAt_173 (by decide) (fun c => ?_) (fun c => ?_)
    · have hf := x_pos c hf
      exact K195 z2.2 hf _ _ ls (lv_sub hl [] rfl) G
    · have hf := x_neg c hf
      refine lv_aload_n hx hb dX10_sitsAt_176 rfl (lv_at hl 0 rfl) ?_
      refine lv_iconst (v := (0 : Int32)) hx hb dX10_sitsAt_177 (by decide) ?_
      obtain ⟨z3, hz3, hf⟩ := x_ob hf
      obtain ⟨hqz3, hz3⟩ := xon_of hz3
      refine xr_callV (ci := 10) (As := [.int (0 : Int32)]) (rest := []) (st1 := [.int z3.1]) S G hl.1 (fun _ => rfl) (mt_X10_goes l D cid b ex sa sv B0 sh q0 (0 : Int32) z2.2 _ _ hz3) hqz3 (by decide) kw_1552 kw_1554 ks_69 kw_17 kw_1555 hd_X10_goes ⟨Nat.le_of_ble_eq_true rfl, Nat.le_of_ble_eq_true rfl⟩ rfl rfl rfl (Nat.le_of_ble_eq_true rfl) ⟨Nat.le_of_ble_eq_true rfl, Nat.le_of_ble_eq_true rfl⟩ dX10_sitsAt_178 (fun H locs G => ?_)
      refine lv_if_eq (tgt := 195) hx hb dX10_sitsAt_181 (by decide) (fun c => ?_) (fun c => ?_)
      · have hf := x_pos c hf
        exact K195 z3.2 hf _ _ ls (lv_sub hl [] rfl) G
      · have hf := x_neg c hf
        refine lv_aload_n hx hb dX10_sitsAt_184 rfl (lv_at hl 0 rfl) ?_
        obtain ⟨v4, hv4, hf⟩ := x_ob hf
        refine xr_getR (ci := 10) (k := 33) S G hv4 rfl kw_1201 dX10_sitsAt_185 ?_
        refine lv_iconst (v := (0 : Int32)) hx hb dX10_sitsAt_188 (by decide) ?_
        obtain ⟨v5, hv5, hf⟩ := x_ob hf
        refine xr_lald S G hv5 dX10_sitsAt_189 ?_
        refine lv_lconst (v := (0 : Int64)) hx hb dX10_sitsAt_190 (by decide) ?_
        refine W.lcmp hx hb dX10_sitsAt_191 ?_
        refine lv_if_ne (tgt := 197) hx hb dX10_sitsAt_192 (by decide) (fun c => ?_) (fun c => ?_)
        · have hf := x_neg c hf
          refine lv_aload_n hx hb dX10_sitsAt_197 rfl (lv_at hl 0 rfl) ?_
          refine lv_iload_n hx hb dX10_sitsAt_198 rfl (lv_at hl 1 rfl) ?_
          refine lv_iload_n hx hb dX10_sitsAt_199 rfl (lv_at hl 2 rfl) ?_
          refine lv_iload hx hb dX10_sitsAt_200 (lv_at hl 3 rfl) ?_
          refine lv_iconst (v := (1 : Int32)) hx hb dX10_sitsAt_202 (by decide) ?_
          obtain ⟨d6, hd6, hf⟩ := x_ob hf
          obtain ⟨hqd6, hd6⟩ := xon_of hd6
          refine xr_callV (ci := 10) (As := [.int x1, .int x2, .int x4, .int (1 : Int32)]) (rest := []) (st1 := []) S G hl.1 (fun _ => rfl) (mt_X10_sitsDown l D cid b ex sa sv B0 sh q0 x1 x2 x4 (1 : Int32) z3.2 _ hd6) hqd6 (by decide) kw_1584 kw_1586 ks_74 kw_17 kw_1587 hd_X10_sitsDown ⟨Nat.le_of_ble_eq_true rfl, Nat.le_of_ble_eq_true rfl⟩ rfl rfl rfl (Nat.le_of_ble_eq_true rfl) ⟨Nat.le_of_ble_eq_true rfl, Nat.le_of_ble_eq_true rfl⟩ dX10_sitsAt_203 (fun H locs G => ?_)
          refine lv_iconst (v := (1 : Int32)) hx hb dX10_sitsAt_206 (by decide) ?_
          cases hf
          exact xr_zret S G (fun _ => rfl) hr (by decide) dX10_sitsAt_207
        · have hf := x_pos c hf
          exact K195 z3.2 hf _ _ ls (lv_sub hl [] rfl) G
  have K124 : ∀ (q0 : Nat) (x1 : Int32) (x2 : Int32) (x4 : Int32) (d : xD), k_X10_sitsAt_124 sh q0 x1 x2 x4 d = some (r, dz) → ∀ (H : Heap) (locs : List Loc) (ls : Array Slot), lv_has ls 6 [(0, .ref (b + q0)), (1, .int x1), (2, .int x2), (4, .int x4)] → xG D cid b A sh d s H locs → W p l e (xRm 3 0 0) s m av below meth c H locs 0 0 (MQ below (xQ D cid b ex A (some (.int r)) sh dz) av s 0 0 A) (F0 m 124 ls []) := by
    intro q0 x1 x2 x4 d hf H locs ls hl G
    unfold k_X10_sitsAt_124 at hf
    refine lv_aload_n hx hb dX10_sitsAt_124 rfl (lv_at hl 0 rfl) ?_
    obtain ⟨v7, hv7, hf⟩ := x_ob hf
    refine xr_getI (ci := 10) (k := 53) S G hv7 rfl kw_1221 dX10_sitsAt_125 ?_
    refine lv_iload_n hx hb dX10_sitsAt_128 rfl (lv_at hl 2 rfl) ?_
    refine lv_icmp_ne (tgt := 160) hx hb dX10_sitsAt_129 (by decide) (fun c => ?_) (fun c => ?_)
    · have hf := x_neg c hf
      exact K160 q0 x1 x2 x4 d hf _ _ ls (lv_sub hl [0, 1, 2, 3] rfl) G
    · have hf := x_pos c hf
      refine lv_aload_n hx hb dX10_sitsAt_132 rfl (lv_at hl 0 rfl) ?_
      obtain ⟨v8, hv8, hf⟩ := x_ob hf
      refine xr_getI (ci := 10) (k := 54) S G hv8 rfl kw_1222 dX10_sitsAt_133 ?_
      refine lv_iload hx hb dX10_sitsAt_136 (lv_at hl 3 rfl) ?_
      refine lv_icmp_ne (tgt := 160) hx hb dX10_sitsAt_138 (by decide) (fun c => ?_) (fun c => ?_)
      · have hf := x_neg c hf
        exact K160 q0 x1 x2 x4 d hf _ _ ls (lv_sub hl [0, 1, 2, 3] rfl) G
      · have hf := x_pos c hf
        refine lv_aload_n hx hb dX10_sitsAt_141 rfl (lv_at hl 0 rfl) ?_
        refine lv_iconst (v := (-1 : Int32)) hx hb dX10_sitsAt_142 (by decide) ?_
        obtain ⟨d9, hd9, hf⟩ := x_ob hf
        refine xr_putI (ci := 10) (k := 53) S G hd9 rfl kw_1221 dX10_sitsAt_143 (fun H locs G => ?_)
        refine lv_aload_n hx hb dX10_sitsAt_146 rfl (lv_at hl 0 rfl) ?_
        refine lv_iload_n hx hb dX10_sitsAt_147 rfl (lv_at hl 1 rfl) ?_
        refine lv_iload_n hx hb dX10_sitsAt_148 rfl (lv_at hl 2 rfl) ?_
        refine lv_iload hx hb dX10_sitsAt_149 (lv_at hl 3 rfl) ?_
        refine lv_aload_n hx hb dX10_sitsAt_151 rfl (lv_at hl 0 rfl) ?_
        obtain ⟨v10, hv10, hf⟩ := x_ob hf
        refine xr_getI (ci := 10) (k := 55) S G hv10 rfl kw_1223 dX10_sitsAt_152 ?_
        obtain ⟨d11, hd11, hf⟩ := x_ob hf
        obtain ⟨hqd11, hd11⟩ := xon_of hd11
        refine xr_callV (ci := 10) (As := [.int x1, .int x2, .int x4, .int v10]) (rest := []) (st1 := []) S G hl.1 (fun _ => rfl) (mt_X10_sitsDown l D cid b ex sa sv B0 sh q0 x1 x2 x4 v10 d9 _ hd11) hqd11 (by decide) kw_1584 kw_1586 ks_74 kw_17 kw_1587 hd_X10_sitsDown ⟨Nat.le_of_ble_eq_true rfl, Nat.le_of_ble_eq_true rfl⟩ rfl rfl rfl (Nat.le_of_ble_eq_true rfl) ⟨Nat.le_of_ble_eq_true rfl, Nat.le_of_ble_eq_true rfl⟩ dX10_sitsAt_155 (fun H locs G => ?_)
        refine lv_iconst (v := (1 : Int32)) hx hb dX10_sitsAt_158 (by decide) ?_
        cases hf
        exact xr_zret S G (fun _ => rfl) hr (by decide) dX10_sitsAt_159
  have K118 : ∀ (rec28 : Nat → Int32 → Int32 → Int32 → Int32 → xD → Option (Int32 × xD)) (hrec28 : ∀ (q0 : Nat) (x1 : Int32) (x2 : Int32) (x4 : Int32) (x5 : Int32) (d : xD), rec28 q0 x1 x2 x4 x5 d = some (r, dz) → ∀ (H : Heap) (locs : List Loc) (ls : Array Slot), lv_has ls 6 [(0, .ref (b + q0)), (1, .int x1), (2, .int x2), (4, .int x4), (5, .int x5)] → xG D cid b A sh d s H locs → W p l e (xRm 3 0 0) s m av below meth c H locs 0 0 (MQ below (xQ D cid b ex A (some (.int r)) sh dz) av s 0 0 A) (F0 m 28 ls [])) (q0 : Nat) (x1 : Int32) (x2 : Int32) (x4 : Int32) (x5 : Int32) (d : xD), k_X10_sitsAt_118 sh rec28 q0 x1 x2 x4 x5 d = some (r, dz) → ∀ (H : Heap) (locs : List Loc) (ls : Array Slot), lv_has ls 6 [(0, .ref (b + q0)), (1, .int x1), (2, .int x2), (4, .int x4), (5, .int x5)] → xG D cid b A sh d s H locs → W p l e (xRm 3 0 0) s m av below meth c H locs 0 0 (MQ below (xQ D cid b ex A (some (.int r)) sh dz) av s 0 0 A) (F0 m 118 ls []) := by
    intro rec28 hrec28 q0 x1 x2 x4 x5 d hf H locs ls hl G
    unfold k_X10_sitsAt_118 at hf
    refine lv_iinc (v := (x5 + 1)) (lv' := [(5, .int (x5 + 1)), (0, .ref (b + q0)), (1, .int x1), (2, .int x2), (4, .int x4)]) hx hb dX10_sitsAt_118 hl (k := 4) rfl rfl (by decide) rfl (fun ls hl => ?_)
    refine lv_goto (tgt := 28) hx hb dX10_sitsAt_121 (by decide) ?_
    exact hrec28 q0 x1 x2 x4 (x5 + 1) d hf _ _ ls (lv_sub hl [1, 2, 3, 4, 0] rfl) G
  have K88 : ∀ (q0 : Nat) (x1 : Int32) (x2 : Int32) (x4 : Int32) (x5 : Int32) (d : xD), k_X10_sitsAt_88 sh q0 x1 x2 x4 x5 d = some (r, dz) → ∀ (H : Heap) (locs : List Loc) (ls : Array Slot), lv_has ls 6 [(0, .ref (b + q0)), (1, .int x1), (2, .int x2), (4, .int x4), (5, .int x5)] → xG D cid b A sh d s H locs → W p l e (xRm 3 0 0) s m av below meth c H locs 0 0 (MQ below (xQ D cid b ex A (some (.int r)) sh dz) av s 0 0 A) (F0 m 88 ls []) := by
    intro q0 x1 x2 x4 x5 d hf H locs ls hl G
    unfold k_X10_sitsAt_88 at hf
    refine lv_aload_n hx hb dX10_sitsAt_88 rfl (lv_at hl 0 rfl) ?_
    obtain ⟨v12, hv12, hf⟩ := x_ob hf
    refine xr_getR (ci := 10) (k := 39) S G hv12 rfl kw_1207 dX10_sitsAt_89 ?_
    refine lv_iload_n hx hb dX10_sitsAt_92 rfl (lv_at hl 1 rfl) ?_
    refine lv_dup2_11 hx hb dX10_sitsAt_93 rfl rfl ?_
    obtain ⟨v13, hv13, hf⟩ := x_ob hf
    refine xr_iald S G hv13 dX10_sitsAt_94 ?_
    refine lv_iconst (v := (1 : Int32)) hx hb dX10_sitsAt_95 (by decide) ?_
    refine lv_iload hx hb dX10_sitsAt_96 (lv_at hl 4 rfl) ?_
    refine lv_ishl hx hb dX10_sitsAt_98 ?_
    refine lv_ior hx hb dX10_sitsAt_99 ?_
    obtain ⟨d14, hd14, hf⟩ := x_ob hf
    refine xr_iast S G hd14 dX10_sitsAt_100 (fun H locs G => ?_)
    refine lv_aload_n hx hb dX10_sitsAt_101 rfl (lv_at hl 0 rfl) ?_
    refine lv_iload_n hx hb dX10_sitsAt_102 rfl (lv_at hl 1 rfl) ?_
    refine lv_iload_n hx hb dX10_sitsAt_103 rfl (lv_at hl 2 rfl) ?_
    refine lv_iload hx hb dX10_sitsAt_104 (lv_at hl 3 rfl) ?_
    refine lv_aload_n hx hb dX10_sitsAt_106 rfl (lv_at hl 0 rfl) ?_
    obtain ⟨v15, hv15, hf⟩ := x_ob hf
    refine xr_getR (ci := 10) (k := 14) S G hv15 rfl kw_1182 dX10_sitsAt_107 ?_
    refine lv_iload hx hb dX10_sitsAt_110 (lv_at hl 4 rfl) ?_
    obtain ⟨v16, hv16, hf⟩ := x_ob hf
    refine xr_iald S G hv16 dX10_sitsAt_112 ?_
    obtain ⟨d17, hd17, hf⟩ := x_ob hf
    obtain ⟨hqd17, hd17⟩ := xon_of hd17
    refine xr_callV (ci := 10) (As := [.int x1, .int x2, .int x4, .int v16]) (rest := []) (st1 := []) S G hl.1 (fun _ => rfl) (mt_X10_sitsDown l D cid b ex sa sv B0 sh q0 x1 x2 x4 v16 d14 _ hd17) hqd17 (by decide) kw_1584 kw_1586 ks_74 kw_17 kw_1587 hd_X10_sitsDown ⟨Nat.le_of_ble_eq_true rfl, Nat.le_of_ble_eq_true rfl⟩ rfl rfl rfl (Nat.le_of_ble_eq_true rfl) ⟨Nat.le_of_ble_eq_true rfl, Nat.le_of_ble_eq_true rfl⟩ dX10_sitsAt_113 (fun H locs G => ?_)
    refine lv_iconst (v := (1 : Int32)) hx hb dX10_sitsAt_116 (by decide) ?_
    cases hf
    exact xr_zret S G (fun _ => rfl) hr (by decide) dX10_sitsAt_117
  have K28 : ∀ (n : Nat) (q0 : Nat) (x1 : Int32) (x2 : Int32) (x4 : Int32) (x5 : Int32) (d : xD), xloop (fun _ _ _ _ _ _ => none) (b_X10_sitsAt_28 sh) n q0 x1 x2 x4 x5 d = some (r, dz) → ∀ (H : Heap) (locs : List Loc) (ls : Array Slot), lv_has ls 6 [(0, .ref (b + q0)), (1, .int x1), (2, .int x2), (4, .int x4), (5, .int x5)] → xG D cid b A sh d s H locs → W p l e (xRm 3 0 0) s m av below meth c H locs 0 0 (MQ below (xQ D cid b ex A (some (.int r)) sh dz) av s 0 0 A) (F0 m 28 ls []) := by
    intro n
    induction n with
    | zero =>
      intro q0 x1 x2 x4 x5 d hf
      have hf : (none : Option (Int32 × xD)) = some (r, dz) := hf
      cases hf
    | succ n hrec28 =>
      intro q0 x1 x2 x4 x5 d hf H locs ls hl G
      have hf : b_X10_sitsAt_28 sh (xloop (fun _ _ _ _ _ _ => none) (b_X10_sitsAt_28 sh) n) q0 x1 x2 x4 x5 d = some (r, dz) := hf
      unfold b_X10_sitsAt_28 at hf
      refine lv_iload hx hb dX10_sitsAt_28 (lv_at hl 4 rfl) ?_
      refine lv_aload_n hx hb dX10_sitsAt_30 rfl (lv_at hl 0 rfl) ?_
      obtain ⟨v18, hv18, hf⟩ := x_ob hf
      refine xr_getR (ci := 10) (k := 3) S G hv18 rfl kw_1171 dX10_sitsAt_31 ?_
      refine lv_iconst (v := (3 : Int32)) hx hb dX10_sitsAt_34 (by decide) ?_
      obtain ⟨v19, hv19, hf⟩ := x_ob hf
      refine xr_iald S G hv19 dX10_sitsAt_35 ?_
      refine lv_icmp_ge (tgt := 124) hx hb dX10_sitsAt_36 (by decide) (fun c => ?_) (fun c => ?_)
      · have hf := x_pos c hf
        exact K124 q0 x1 x2 x4 d hf _ _ ls (lv_sub hl [0, 1, 2, 3] rfl) G
      · have hf := x_neg c hf
        refine lv_aload_n hx hb dX10_sitsAt_39 rfl (lv_at hl 0 rfl) ?_
        obtain ⟨v20, hv20, hf⟩ := x_ob hf
        refine xr_getI (ci := 10) (k := 50) S G hv20 rfl kw_1218 dX10_sitsAt_40 ?_
        refine lv_iconst (v := (4 : Int32)) hx hb dX10_sitsAt_43 (by decide) ?_
        refine lv_icmp_eq (tgt := 124) hx hb dX10_sitsAt_44 (by decide) (fun c => ?_) (fun c => ?_)
        · have hf := x_pos c hf
          exact K124 q0 x1 x2 x4 d hf _ _ ls (lv_sub hl [0, 1, 2, 3] rfl) G
        · have hf := x_neg c hf
          refine lv_aload_n hx hb dX10_sitsAt_47 rfl (lv_at hl 0 rfl) ?_
          obtain ⟨v21, hv21, hf⟩ := x_ob hf
          refine xr_getR (ci := 10) (k := 39) S G hv21 rfl kw_1207 dX10_sitsAt_48 ?_
          refine lv_iload_n hx hb dX10_sitsAt_51 rfl (lv_at hl 1 rfl) ?_
          obtain ⟨v22, hv22, hf⟩ := x_ob hf
          refine xr_iald S G hv22 dX10_sitsAt_52 ?_
          refine lv_iload hx hb dX10_sitsAt_53 (lv_at hl 4 rfl) ?_
          refine lv_ishr hx hb dX10_sitsAt_55 ?_
          refine lv_iconst (v := (1 : Int32)) hx hb dX10_sitsAt_56 (by decide) ?_
          refine lv_iand hx hb dX10_sitsAt_57 ?_
          refine lv_iconst (v := (1 : Int32)) hx hb dX10_sitsAt_58 (by decide) ?_
          refine lv_icmp_eq (tgt := 118) hx hb dX10_sitsAt_59 (by decide) (fun c => ?_) (fun c => ?_)
          · have hf := x_pos c hf
            exact K118 _ hrec28 q0 x1 x2 x4 x5 d hf _ _ ls (lv_sub hl [0, 1, 2, 3, 4] rfl) G
          · have hf := x_neg c hf
            refine lv_aload_n hx hb dX10_sitsAt_62 rfl (lv_at hl 0 rfl) ?_
            obtain ⟨v23, hv23, hf⟩ := x_ob hf
            refine xr_getR (ci := 10) (k := 12) S G hv23 rfl kw_1180 dX10_sitsAt_63 ?_
            refine lv_iload hx hb dX10_sitsAt_66 (lv_at hl 4 rfl) ?_
            obtain ⟨v24, hv24, hf⟩ := x_ob hf
            refine xr_iald S G hv24 dX10_sitsAt_68 ?_
            refine lv_iload_n hx hb dX10_sitsAt_69 rfl (lv_at hl 2 rfl) ?_
            refine lv_icmp_ne (tgt := 118) hx hb dX10_sitsAt_70 (by decide) (fun c => ?_) (fun c => ?_)
            · have hf := x_neg c hf
              exact K118 _ hrec28 q0 x1 x2 x4 x5 d hf _ _ ls (lv_sub hl [0, 1, 2, 3, 4] rfl) G
            · have hf := x_pos c hf
              refine lv_aload_n hx hb dX10_sitsAt_73 rfl (lv_at hl 0 rfl) ?_
              obtain ⟨v25, hv25, hf⟩ := x_ob hf
              refine xr_getR (ci := 10) (k := 13) S G hv25 rfl kw_1181 dX10_sitsAt_74 ?_
              refine lv_iload hx hb dX10_sitsAt_77 (lv_at hl 4 rfl) ?_
              obtain ⟨v26, hv26, hf⟩ := x_ob hf
              refine xr_iald S G hv26 dX10_sitsAt_79 ?_
              refine lv_iload hx hb dX10_sitsAt_80 (lv_at hl 3 rfl) ?_
              refine lv_icmp_eq (tgt := 88) hx hb dX10_sitsAt_82 (by decide) (fun c => ?_) (fun c => ?_)
              · have hf := x_pos c hf
                exact K88 q0 x1 x2 x4 x5 d hf _ _ ls (lv_sub hl [0, 1, 2, 3, 4] rfl) G
              · have hf := x_neg c hf
                refine lv_goto (tgt := 118) hx hb dX10_sitsAt_85 (by decide) ?_
                exact K118 _ hrec28 q0 x1 x2 x4 x5 d hf _ _ ls (lv_sub hl [0, 1, 2, 3, 4] rfl) G
  unfold f_X10_sitsAt at hf
  refine lv_aload_n hx hb dX10_sitsAt_0 rfl (lv_at hl 0 rfl) ?_
  refine lv_iload_n hx hb dX10_sitsAt_1 rfl (lv_at hl 3 rfl) ?_
  obtain ⟨z27, hz27, hf⟩ := x_ob hf
  obtain ⟨hqz27, hz27⟩ := xon_of hz27
  refine xr_callV (ci := 10) (As := [.int x3]) (rest := []) (st1 := [.int z27.1]) S G hl.1 (fun _ => rfl) (mt_X10_benchAt l D cid b ex sa sv B0 sh q0 x3 d _ _ hz27) hqz27 (by decide) kw_1572 kw_1574 ks_71 kw_17 kw_1575 hd_X10_benchAt ⟨Nat.le_of_ble_eq_true rfl, Nat.le_of_ble_eq_true rfl⟩ rfl rfl rfl (Nat.le_of_ble_eq_true rfl) ⟨Nat.le_of_ble_eq_true rfl, Nat.le_of_ble_eq_true rfl⟩ dX10_sitsAt_2 (fun H locs G => ?_)
  refine lv_istore (lv' := [(4, .int z27.1), (0, .ref (b + q0)), (1, .int x1), (2, .int x2), (3, .int x3)]) hx hb dX10_sitsAt_5 hl (by decide) rfl (fun ls hl => ?_)
  refine lv_iload hx hb dX10_sitsAt_7 (lv_at hl 0 rfl) ?_
  refine lv_iconst (v := (-1 : Int32)) hx hb dX10_sitsAt_9 (by decide) ?_
  refine lv_icmp_eq (tgt := 23) hx hb dX10_sitsAt_10 (by decide) (fun c => ?_) (fun c => ?_)
  · have hf := x_pos c hf
    exact K23 z27.2 hf _ _ ls (lv_sub hl [] rfl) G
  · have hf := x_neg c hf
    refine lv_aload_n hx hb dX10_sitsAt_13 rfl (lv_at hl 1 rfl) ?_
    refine lv_iload_n hx hb dX10_sitsAt_14 rfl (lv_at hl 2 rfl) ?_
    refine lv_iload hx hb dX10_sitsAt_15 (lv_at hl 0 rfl) ?_
    obtain ⟨z28, hz28, hf⟩ := x_ob hf
    obtain ⟨hqz28, hz28⟩ := xon_of hz28
    refine xr_callV (ci := 10) (As := [.int x1, .int z27.1]) (rest := []) (st1 := [.int z28.1]) S G hl.1 (fun _ => rfl) (mt_X10_freeOn l D cid b ex sa sv B0 sh q0 x1 z27.1 z27.2 _ _ hz28) hqz28 (by decide) kw_1520 kw_1522 ks_65 kw_17 kw_1523 hd_X10_freeOn ⟨Nat.le_of_ble_eq_true rfl, Nat.le_of_ble_eq_true rfl⟩ rfl rfl rfl (Nat.le_of_ble_eq_true rfl) ⟨Nat.le_of_ble_eq_true rfl, Nat.le_of_ble_eq_true rfl⟩ dX10_sitsAt_17 (fun H locs G => ?_)
    refine lv_if_gt (tgt := 25) hx hb dX10_sitsAt_20 (by decide) (fun c => ?_) (fun c => ?_)
    · have hf := x_pos c hf
      refine lv_iconst (v := (0 : Int32)) hx hb dX10_sitsAt_25 (by decide) ?_
      refine lv_istore (lv' := [(5, .int (0 : Int32)), (4, .int z27.1), (0, .ref (b + q0)), (1, .int x1), (2, .int x2), (3, .int x3)]) hx hb dX10_sitsAt_26 hl (by decide) rfl (fun ls hl => ?_)
      exact K28 xF q0 x1 x2 z27.1 (0 : Int32) z28.2 hf _ _ ls (lv_sub hl [2, 3, 4, 1, 0] rfl) G
    · have hf := x_neg c hf
      exact K23 z28.2 hf _ _ ls (lv_sub hl [] rfl) G

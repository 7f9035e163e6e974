-- HalfLandingsModel.canPush(II)Z
theorem dX10_canPush_0 : decode cX10_canPush 0 = .ok (.iload_n 2, 1) := by decide +kernel
theorem dX10_canPush_1 : decode cX10_canPush 1 = .ok (.ifCond .ge 7, 3) := by decide +kernel
theorem dX10_canPush_4 : decode cX10_canPush 4 = .ok (.iconst (-1), 1) := by decide +kernel
theorem dX10_canPush_5 : decode cX10_canPush 5 = .ok (.goto 4, 3) := by decide +kernel
theorem dX10_canPush_8 : decode cX10_canPush 8 = .ok (.iconst 1, 1) := by decide +kernel
theorem dX10_canPush_9 : decode cX10_canPush 9 = .ok (.istore_n 3, 1) := by decide +kernel
theorem dX10_canPush_10 : decode cX10_canPush 10 = .ok (.iload_n 3, 1) := by decide +kernel
theorem dX10_canPush_11 : decode cX10_canPush 11 = .ok (.istore 4, 2) := by decide +kernel
theorem dX10_canPush_13 : decode cX10_canPush 13 = .ok (.iload 4, 2) := by decide +kernel
theorem dX10_canPush_15 : decode cX10_canPush 15 = .ok (.iload_n 2, 1) := by decide +kernel
theorem dX10_canPush_16 : decode cX10_canPush 16 = .ok (.iload_n 3, 1) := by decide +kernel
theorem dX10_canPush_17 : decode cX10_canPush 17 = .ok (.iadd, 1) := by decide +kernel
theorem dX10_canPush_18 : decode cX10_canPush 18 = .ok (.if_icmp .eq 25, 3) := by decide +kernel
theorem dX10_canPush_21 : decode cX10_canPush 21 = .ok (.aload_n 0, 1) := by decide +kernel
theorem dX10_canPush_22 : decode cX10_canPush 22 = .ok (.iload_n 1, 1) := by decide +kernel
theorem dX10_canPush_23 : decode cX10_canPush 23 = .ok (.iload 4, 2) := by decide +kernel
theorem dX10_canPush_25 : decode cX10_canPush 25 = .ok (.iadd, 1) := by decide +kernel
theorem dX10_canPush_26 : decode cX10_canPush 26 = .ok (.invokevirtual 436, 3) := by decide +kernel
theorem dX10_canPush_29 : decode cX10_canPush 29 = .ok (.ifCond .ne 5, 3) := by decide +kernel
theorem dX10_canPush_32 : decode cX10_canPush 32 = .ok (.iconst 0, 1) := by decide +kernel
theorem dX10_canPush_33 : decode cX10_canPush 33 = .ok (.ireturn, 1) := by decide +kernel
theorem dX10_canPush_34 : decode cX10_canPush 34 = .ok (.iload 4, 2) := by decide +kernel
theorem dX10_canPush_36 : decode cX10_canPush 36 = .ok (.iload_n 3, 1) := by decide +kernel
theorem dX10_canPush_37 : decode cX10_canPush 37 = .ok (.iadd, 1) := by decide +kernel
theorem dX10_canPush_38 : decode cX10_canPush 38 = .ok (.istore 4, 2) := by decide +kernel
theorem dX10_canPush_40 : decode cX10_canPush 40 = .ok (.goto (-27), 3) := by decide +kernel
theorem dX10_canPush_43 : decode cX10_canPush 43 = .ok (.iconst 1, 1) := by decide +kernel
theorem dX10_canPush_44 : decode cX10_canPush 44 = .ok (.ireturn, 1) := by decide +kernel
theorem hd_X10_canPush : yX10_canPush.cls = xCn 10 ∧ yX10_canPush.cls ≠ "java/lang/invoke/MethodHandle" ∧ yX10_canPush.cls ≠ "java/lang/invoke/VarHandle" ∧ (parseMethodDescriptor yX10_canPush.desc).map (fun d => d.parameters.length) = some 2 := by decide +kernel
def k_X10_canPush_43 (sh : List xSh) (d : xD) : Option (Int32 × xD) :=
  some ((1 : Int32), d)
def k_X10_canPush_32 (sh : List xSh) (d : xD) : Option (Int32 × xD) :=
  some ((0 : Int32), d)
def b_X10_canPush_13 (sh : List xSh) (rec13 : Nat → Int32 → Int32 → Int32 → Int32 → xD → Option (Int32 × xD)) (q0 : Nat) (x1 : Int32) (x2 : Int32) (x3 : Int32) (x4 : Int32) (d : xD) : Option (Int32 × xD) :=
  if x4 = (x2 + x3) then (k_X10_canPush_43 sh d) else ((xon 10 sh q0 (f_X10_isFreeStep sh q0 (x1 + x4) d)).bind fun z1 => if z1.1 = 0 then (k_X10_canPush_32 sh z1.2) else (rec13 q0 x1 x2 x3 (x4 + x3) z1.2))
def k_X10_canPush_9 (sh : List xSh) (q0 : Nat) (x1 : Int32) (x2 : Int32) (y0 : Int32) (d : xD) : Option (Int32 × xD) :=
  xloop (fun _ _ _ _ _ _ => none) (b_X10_canPush_13 sh) xF q0 x1 x2 y0 y0 d
def f_X10_canPush (sh : List xSh) (q0 : Nat) (x1 : Int32) (x2 : Int32) (d : xD) : Option (Int32 × xD) :=
  if 0 ≤ x2 then (k_X10_canPush_9 sh q0 x1 x2 (1 : Int32) d) else (k_X10_canPush_9 sh q0 x1 x2 (-1 : Int32) d)
set_option maxHeartbeats 4000000 in
set_option maxRecDepth 100000 in
theorem mt_X10_canPush (l : Launch) (D : va_G) (cid : FieldType → ClassId) (b : Nat) (ex : Bool) (sa sv B0 : Nat) (sh : List xSh) (q0 : Nat) (x1 : Int32) (x2 : Int32) (d : xD) (r : Int32) (dz : xD) (hf : f_X10_canPush sh q0 x1 x2 d = some (r, dz)) : xMet l yX10_canPush cX10_canPush 5 (some .boolean) 2 0 0 D cid b ex sa sv B0 [.ref (b + q0), .int x1, .int x2] sh d (some (.int r)) sh dz := by
  refine xMet.of (by decide) (Nat.le_of_ble_eq_true rfl) ?_
  intro p e s m below meth c ls A S hr hin G hl
  have hl : lv_has ls 5 [(0, .ref (b + q0)), (1, .int x1), (2, .int x2)] := hl
  generalize ([.ref (b + q0), .int x1, .int x2] : List Value).toArray = av at S ⊢
  have hx := S.1
  have hb := S.2.1
  have hml := S.2.2.1
  have hown := S.2.2.2.1
  have hts := S.2.2.2.2.1
  have K43 : ∀ (d : xD), k_X10_canPush_43 sh d = some (r, dz) → ∀ (H : Heap) (locs : List Loc) (ls : Array Slot), lv_has ls 5 [] → xG D cid b A sh d s H locs → W p l e (xRm 2 0 0) s m av below meth c H locs 0 0 (MQ below (xQ D cid b ex A (some (.int r)) sh dz) av s 0 0 A) (F0 m 43 ls []) := by
    intro d hf H locs ls hl G
    unfold k_X10_canPush_43 at hf
    refine lv_iconst (v := (1 : Int32)) hx hb dX10_canPush_43 (by decide) ?_
    cases hf
    exact xr_zret S G (fun _ => rfl) hr (by decide) dX10_canPush_44
  have K32 : ∀ (d : xD), k_X10_canPush_32 sh d = some (r, dz) → ∀ (H : Heap) (locs : List Loc) (ls : Array Slot), lv_has ls 5 [] → xG D cid b A sh d s H locs → W p l e (xRm 2 0 0) s m av below meth c H locs 0 0 (MQ below (xQ D cid b ex A (some (.int r)) sh dz) av s 0 0 A) (F0 m 32 ls []) := by
    intro d hf H locs ls hl G
    unfold k_X10_canPush_32 at hf
    refine lv_iconst (v := (0 : Int32)) hx hb dX10_canPush_32 (by decide) ?_
    cases hf
    exact xr_zret S G (fun _ => rfl) hr (by decide) dX10_canPush_33
  have K13 : ∀ (n : Nat) (q0 : Nat) (x1 : Int32) (x2 : Int32) (x3 : Int32) (x4 : Int32) (d : xD), xloop (fun _ _ _ _ _ _ => none) (b_X10_canPush_13 sh) n q0 x1 x2 x3 x4 d = some (r, dz) → ∀ (H : Heap) (locs : List Loc) (ls : Array Slot), lv_has ls 5 [(0, .ref (b + q0)), (1, .int x1), (2, .int x2), (3, .int x3), (4, .int x4)] → xG D cid b A sh d s H locs → W p l e (xRm 2 0 0) s m av below meth c H locs 0 0 (MQ below (xQ D cid b ex A (some (.int r)) sh dz) av s 0 0 A) (F0 m 13 ls []) := by
    intro n
    induction n with
    | zero =>
      intro q0 x1 x2 x3 x4 d hf
      have hf : (none : Option (Int32 × xD)) = some (r, dz) := hf
      cases hf
    | succ n hrec13 =>
      intro q0 x1 x2 x3 x4 d hf H locs ls hl G
      have hf : b_X10_canPush_13 sh (xloop (fun _ _ _ _ _ _ => none) (b_X10_canPush_13 sh) n) q0 x1 x2 x3 x4 d = some (r, dz) := hf
      unfold b_X10_canPush_13 at hf
      refine lv_iload hx hb dX10_canPush_13 (lv_at hl 4 rfl) ?_
      refine lv_iload_n hx hb dX10_canPush_15 rfl (lv_at hl 2 rfl) ?_
      refine lv_iload_n hx hb dX10_canPush_16 rfl (lv_at hl 3 rfl) ?_
      refine lv_iadd hx hb dX10_canPush_17 ?_
      refine lv_icmp_eq (tgt := 43) hx hb dX10_canPush_18 (by decide) (fun c => ?_) (fun c => ?_)
      · have hf := x_pos c hf
        exact K43 d hf _ _ ls (lv_sub hl [] rfl) G
      · have hf := x_neg c hf
        refine lv_aload_n hx hb dX10_canPush_21 rfl (lv_at hl 0 rfl) ?_
        refine lv_iload_n hx hb dX10_canPush_22 rfl (lv_at hl 1 rfl) ?_
        refine lv_iload hx hb dX10_canPush_23 (lv_at hl 4 rfl) ?_
        refine lv_iadd hx hb dX10_canPush_25 ?_
        obtain ⟨z1, hz1, hf⟩ := x_ob hf
        obtain ⟨hqz1, hz1⟩ := xon_of hz1
        refine xr_callV (ci := 10) (As := [.int (x1 + x4)]) (rest := []) (st1 := [.int z1.1]) S G hl.1 (fun _ => rfl) (mt_X10_isFreeStep l D cid b ex sa sv B0 sh q0 (x1 + x4) d _ _ hz1) hqz1 (by decide) kw_1604 kw_1606 ks_77 kw_17 kw_1607 hd_X10_isFreeStep ⟨Nat.le_of_ble_eq_true rfl, Nat.le_of_ble_eq_true rfl⟩ rfl rfl rfl (Nat.le_of_ble_eq_true rfl) ⟨Nat.le_of_ble_eq_true rfl, Nat.le_of_ble_eq_true rfl⟩ dX10_canPush_26 (fun H locs G => ?_)
        refine lv_if_ne (tgt := 34) hx hb dX10_canPush_29 (by decide) (fun c => ?_) (fun c => ?_)
        · have hf := x_neg c hf
          refine lv_iload hx hb dX10_canPush_34 (lv_at hl 4 rfl) ?_
          refine lv_iload_n hx hb dX10_canPush_36 rfl (lv_at hl 3 rfl) ?_
          refine lv_iadd hx hb dX10_canPush_37 ?_
          refine lv_istore (lv' := [(4, .int (x4 + x3)), (0, .ref (b + q0)), (1, .int x1), (2, .int x2), (3, .int x3)]) hx hb dX10_canPush_38 hl (by decide) rfl (fun ls hl => ?_)
          refine lv_goto (tgt := 13) hx hb dX10_canPush_40 (by decide) ?_
          exact hrec13 q0 x1 x2 x3 (x4 + x3) z1.2 hf _ _ ls (lv_sub hl [1, 2, 3, 4, 0] rfl) G
        · have hf := x_pos c hf
          exact K32 z1.2 hf _ _ ls (lv_sub hl [] rfl) G
  have K9 : ∀ (q0 : Nat) (x1 : Int32) (x2 : Int32) (y0 : Int32) (d : xD), k_X10_canPush_9 sh q0 x1 x2 y0 d = some (r, dz) → ∀ (H : Heap) (locs : List Loc) (ls : Array Slot), lv_has ls 5 [(0, .ref (b + q0)), (1, .int x1), (2, .int x2)] → xG D cid b A sh d s H locs → W p l e (xRm 2 0 0) s m av below meth c H locs 0 0 (MQ below (xQ D cid b ex A (some (.int r)) sh dz) av s 0 0 A) (F0 m 9 ls [.int y0]) := by
    intro q0 x1 x2 y0 d hf H locs ls hl G
    unfold k_X10_canPush_9 at hf
    refine lv_istore_n (lv' := [(3, .int y0), (0, .ref (b + q0)), (1, .int x1), (2, .int x2)]) hx hb dX10_canPush_9 rfl hl (by decide) rfl (fun ls hl => ?_)
    refine lv_iload_n hx hb dX10_canPush_10 rfl (lv_at hl 0 rfl) ?_
    refine lv_istore (lv' := [(4, .int y0), (3, .int y0), (0, .ref (b + q0)), (1, .int x1), (2, .int x2)]) hx hb dX10_canPush_11 hl (by decide) rfl (fun ls hl => ?_)
    exact K13 xF q0 x1 x2 y0 y0 d hf _ _ ls (lv_sub hl [2, 3, 4, 1, 0] rfl) G
  unfold f_X10_canPush at hf
  refine lv_iload_n hx hb dX10_canPush_0 rfl (lv_at hl 2 rfl) ?_
  refine lv_if_ge (tgt := 8) hx hb dX10_canPush_1 (by decide) (fun c => ?_) (fun c => ?_)
  · have hf := x_pos c hf
    refine lv_iconst (v := (1 : Int32)) hx hb dX10_canPush_8 (by decide) ?_
    exact K9 q0 x1 x2 (1 : Int32) d hf _ _ ls (lv_sub hl [0, 1, 2] rfl) G
  · have hf := x_neg c hf
    refine lv_iconst (v := (-1 : Int32)) hx hb dX10_canPush_4 (by decide) ?_
    refine lv_goto (tgt := 9) hx hb dX10_canPush_5 (by decide) ?_
    exact K9 q0 x1 x2 (-1 : Int32) d hf _ _ ls (lv_sub hl [0, 1, 2] rfl) G
-- HalfLandingsModel.push(I)I
theorem dX10_push_0 : decode cX10_push 0 = .ok (.aload_n 0, 1) := by decide +kernel
theorem dX10_push_1 : decode cX10_push 1 = .ok (.iconst 0, 1) := by decide +kernel
theorem dX10_push_2 : decode cX10_push 2 = .ok (.putfield 145, 3) := by decide +kernel
theorem dX10_push_5 : decode cX10_push 5 = .ok (.iload_n 1, 1) := by decide +kernel
theorem dX10_push_6 : decode cX10_push 6 = .ok (.bipush (-3), 2) := by decide +kernel
theorem dX10_push_8 : decode cX10_push 8 = .ok (.if_icmp .lt 21, 3) := by decide +kernel
theorem dX10_push_11 : decode cX10_push 11 = .ok (.iload_n 1, 1) := by decide +kernel
theorem dX10_push_12 : decode cX10_push 12 = .ok (.iconst 3, 1) := by decide +kernel
theorem dX10_push_13 : decode cX10_push 13 = .ok (.if_icmp .gt 16, 3) := by decide +kernel
theorem dX10_push_16 : decode cX10_push 16 = .ok (.iload_n 1, 1) := by decide +kernel
theorem dX10_push_17 : decode cX10_push 17 = .ok (.ifCond .eq 12, 3) := by decide +kernel
theorem dX10_push_20 : decode cX10_push 20 = .ok (.aload_n 0, 1) := by decide +kernel
theorem dX10_push_21 : decode cX10_push 21 = .ok (.getfield 81, 3) := by decide +kernel
theorem dX10_push_24 : decode cX10_push 24 = .ok (.iconst 0, 1) := by decide +kernel
theorem dX10_push_25 : decode cX10_push 25 = .ok (.iaload, 1) := by decide +kernel
theorem dX10_push_26 : decode cX10_push 26 = .ok (.ifCond .ne 5, 3) := by decide +kernel
theorem dX10_push_29 : decode cX10_push 29 = .ok (.iconst (-1), 1) := by decide +kernel
theorem dX10_push_30 : decode cX10_push 30 = .ok (.ireturn, 1) := by decide +kernel
theorem dX10_push_31 : decode cX10_push 31 = .ok (.aload_n 0, 1) := by decide +kernel
theorem dX10_push_32 : decode cX10_push 32 = .ok (.aload_n 0, 1) := by decide +kernel
theorem dX10_push_33 : decode cX10_push 33 = .ok (.getfield 81, 3) := by decide +kernel
theorem dX10_push_36 : decode cX10_push 36 = .ok (.iconst 0, 1) := by decide +kernel
theorem dX10_push_37 : decode cX10_push 37 = .ok (.iaload, 1) := by decide +kernel
theorem dX10_push_38 : decode cX10_push 38 = .ok (.iload_n 1, 1) := by decide +kernel
theorem dX10_push_39 : decode cX10_push 39 = .ok (.invokevirtual 439, 3) := by decide +kernel
theorem dX10_push_42 : decode cX10_push 42 = .ok (.ifCond .ne 6, 3) := by decide +kernel
theorem dX10_push_45 : decode cX10_push 45 = .ok (.bipush (-2), 2) := by decide +kernel
theorem dX10_push_47 : decode cX10_push 47 = .ok (.ireturn, 1) := by decide +kernel
theorem dX10_push_48 : decode cX10_push 48 = .ok (.aload_n 0, 1) := by decide +kernel
theorem dX10_push_49 : decode cX10_push 49 = .ok (.invokevirtual 429, 3) := by decide +kernel
theorem dX10_push_52 : decode cX10_push 52 = .ok (.aload_n 0, 1) := by decide +kernel
theorem dX10_push_53 : decode cX10_push 53 = .ok (.getfield 81, 3) := by decide +kernel
theorem dX10_push_56 : decode cX10_push 56 = .ok (.iconst 0, 1) := by decide +kernel
theorem dX10_push_57 : decode cX10_push 57 = .ok (.dup2, 1) := by decide +kernel
theorem dX10_push_58 : decode cX10_push 58 = .ok (.iaload, 1) := by decide +kernel
theorem dX10_push_59 : decode cX10_push 59 = .ok (.iload_n 1, 1) := by decide +kernel
theorem dX10_push_60 : decode cX10_push 60 = .ok (.iadd, 1) := by decide +kernel
theorem dX10_push_61 : decode cX10_push 61 = .ok (.iastore, 1) := by decide +kernel
theorem dX10_push_62 : decode cX10_push 62 = .ok (.aload_n 0, 1) := by decide +kernel
theorem dX10_push_63 : decode cX10_push 63 = .ok (.getfield 81, 3) := by decide +kernel
theorem dX10_push_66 : decode cX10_push 66 = .ok (.iconst 0, 1) := by decide +kernel
theorem dX10_push_67 : decode cX10_push 67 = .ok (.iaload, 1) := by decide +kernel
theorem dX10_push_68 : decode cX10_push 68 = .ok (.ireturn, 1) := by decide +kernel
theorem hd_X10_push : yX10_push.cls = xCn 10 ∧ yX10_push.cls ≠ "java/lang/invoke/MethodHandle" ∧ yX10_push.cls ≠ "java/lang/invoke/VarHandle" ∧ (parseMethodDescriptor yX10_push.desc).map (fun d => d.parameters.length) = some 1 := by decide +kernel
def k_X10_push_29 (sh : List xSh) (d : xD) : Option (Int32 × xD) :=
  some ((-1 : Int32), d)
def f_X10_push (sh : List xSh) (q0 : Nat) (x1 : Int32) (d : xD) : Option (Int32 × xD) :=
  (xpI 10 sh d q0 0 (0 : Int32)).bind fun d1 => if x1 < (-3 : Int32) then (k_X10_push_29 sh d1) else (if (3 : Int32) < x1 then (k_X10_push_29 sh d1) else (if x1 = 0 then (k_X10_push_29 sh d1) else ((xgR 10 sh d1 q0 38).bind fun v2 => (xaI .int sh d1 v2 (0 : Int32)).bind fun v3 => if v3 = 0 then (k_X10_push_29 sh d1) else ((xgR 10 sh d1 q0 38).bind fun v4 => (xaI .int sh d1 v4 (0 : Int32)).bind fun v5 => (xon 10 sh q0 (f_X10_canPush sh q0 v5 x1 d1)).bind fun z6 => if z6.1 = 0 then (some ((-2 : Int32), z6.2)) else ((xon 10 sh q0 (f_X10_keepNow sh q0 z6.2)).bind fun d7 => (xgR 10 sh d7 q0 38).bind fun v8 => (xaI .int sh d7 v8 (0 : Int32)).bind fun v9 => (xsI .int sh d7 v8 (0 : Int32) (v9 + x1)).bind fun d10 => (xgR 10 sh d10 q0 38).bind fun v11 => (xaI .int sh d10 v11 (0 : Int32)).bind fun v12 => some (v12, d10))))))
set_option maxHeartbeats 4000000 in
set_option maxRecDepth 100000 in
theorem mt_X10_push (l : Launch) (D : va_G) (cid : FieldType → ClassId) (b : Nat) (ex : Bool) (sa sv B0 : Nat) (sh : List xSh) (q0 : Nat) (x1 : Int32) (d : xD) (r : Int32) (dz : xD) (hf : f_X10_push sh q0 x1 d = some (r, dz)) : xMet l yX10_push cX10_push 2 (some .int) 3 0 0 D cid b ex sa sv B0 [.ref (b + q0), .int x1] sh d (some (.int r)) sh dz := by
  refine xMet.of (by decide) (Nat.le_of_ble_eq_true rfl) ?_
  intro p e s m below meth c ls A S hr hin G hl
  have hl : lv_has ls 2 [(0, .ref (b + q0)), (1, .int x1)] := hl
  generalize ([.ref (b + q0), .int x1] : List Value).toArray = av at S ⊢
  have hx := S.1
  have hb := S.2.1
  have hml := S.2.2.1
  have hown := S.2.2.2.1
  have hts := S.2.2.2.2.1
  have K29 : ∀ (d : xD), k_X10_push_29 sh d = some (r, dz) → ∀ (H : Heap) (locs : List Loc) (ls : Array Slot), lv_has ls 2 [] → xG D cid b A sh d s H locs → W p l e (xRm 3 0 0) s m av below meth c H locs 0 0 (MQ below (xQ D cid b ex A (some (.int r)) sh dz) av s 0 0 A) (F0 m 29 ls []) := by
    intro d hf H locs ls hl G
    unfold k_X10_push_29 at hf
    refine lv_iconst (v := (-1 : Int32)) hx hb dX10_push_29 (by decide) ?_
    cases hf
    exact xr_iret S G (fun _ => rfl) hr dX10_push_30
  unfold f_X10_push at hf
  refine lv_aload_n hx hb dX10_push_0 rfl (lv_at hl 0 rfl) ?_
  refine lv_iconst (v := (0 : Int32)) hx hb dX10_push_1 (by decide) ?_
  obtain ⟨d1, hd1, hf⟩ := x_ob hf
  refine xr_putI (ci := 10) (k := 0) S G hd1 rfl kw_1168 dX10_push_2 (fun H locs G => ?_)
  refine lv_iload_n hx hb dX10_push_5 rfl (lv_at hl 1 rfl) ?_
  refine lv_bipush (v := (-3 : Int32)) hx hb dX10_push_6 (by decide) ?_
  refine lv_icmp_lt (tgt := 29) hx hb dX10_push_8 (by decide) (fun c => ?_) (fun c => ?_)
  · have hf := x_pos c hf
    exact K29 d1 hf _ _ ls (lv_sub hl [] rfl) G
  · have hf := x_neg c hf
    refine lv_iload_n hx hb dX10_push_11 rfl (lv_at hl 1 rfl) ?_
    refine lv_iconst (v := (3 : Int32)) hx hb dX10_push_12 (by decide) ?_
    refine lv_icmp_gt (tgt := 29) hx hb dX10_push_13 (by decide) (fun c => ?_) (fun c => ?_)
    · have hf := x_pos c hf
      exact K29 d1 hf _ _ ls (lv_sub hl [] rfl) G
    · have hf := x_neg c hf
      refine lv_iload_n hx hb dX10_push_16 rfl (lv_at hl 1 rfl) ?_
      refine lv_if_eq (tgt := 29) hx hb dX10_push_17 (by decide) (fun c => ?_) (fun c => ?_)
      · have hf := x_pos c hf
        exact K29 d1 hf _ _ ls (lv_sub hl [] rfl) G
      · have hf := x_neg c hf
        refine lv_aload_n hx hb dX10_push_20 rfl (lv_at hl 0 rfl) ?_
        obtain ⟨v2, hv2, hf⟩ := x_ob hf
        refine xr_getR (ci := 10) (k := 38) S G hv2 rfl kw_1206 dX10_push_21 ?_
        refine lv_iconst (v := (0 : Int32)) hx hb dX10_push_24 (by decide) ?_
        obtain ⟨v3, hv3, hf⟩ := x_ob hf
        refine xr_iald S G hv3 dX10_push_25 ?_
        refine lv_if_ne (tgt := 31) hx hb dX10_push_26 (by decide) (fun c => ?_) (fun c => ?_)
        · have hf := x_neg c hf
          refine lv_aload_n hx hb dX10_push_31 rfl (lv_at hl 0 rfl) ?_
          refine lv_aload_n hx hb dX10_push_32 rfl (lv_at hl 0 rfl) ?_
          obtain ⟨v4, hv4, hf⟩ := x_ob hf
          refine xr_getR (ci := 10) (k := 38) S G hv4 rfl kw_1206 dX10_push_33 ?_
          refine lv_iconst (v := (0 : Int32)) hx hb dX10_push_36 (by decide) ?_
          obtain ⟨v5, hv5, hf⟩ := x_ob hf
          refine xr_iald S G hv5 dX10_push_37 ?_
          refine lv_iload_n hx hb dX10_push_38 rfl (lv_at hl 1 rfl) ?_
          obtain ⟨z6, hz6, hf⟩ := x_ob hf
          obtain ⟨hqz6, hz6⟩ := xon_of hz6
          refine xr_callV (ci := 10) (As := [.int v5, .int x1]) (rest := []) (st1 := [.int z6.1]) S G hl.1 (fun _ => rfl) (mt_X10_canPush l D cid b ex sa sv B0 sh q0 v5 x1 d1 _ _ hz6) hqz6 (by decide) kw_1600 kw_1602 ks_76 kw_17 kw_1603 hd_X10_canPush ⟨Nat.le_of_ble_eq_true rfl, Nat.le_of_ble_eq_true rfl⟩ rfl rfl rfl (Nat.le_of_ble_eq_true rfl) ⟨Nat.le_of_ble_eq_true rfl, Nat.le_of_ble_eq_true rfl⟩ dX10_push_39 (fun H locs G => ?_)
          refine lv_if_ne (tgt := 48) hx hb dX10_push_42 (by decide) (fun c => ?_) (fun c => ?_)
          · have hf := x_neg c hf
            refine lv_aload_n hx hb dX10_push_48 rfl (lv_at hl 0 rfl) ?_
            obtain ⟨d7, hd7, hf⟩ := x_ob hf
            obtain ⟨hqd7, hd7⟩ := xon_of hd7
            refine xr_callV (ci := 10) (As := []) (rest := []) (st1 := []) S G hl.1 (fun _ => rfl) (mt_X10_keepNow l D cid b ex sa sv B0 sh q0 z6.2 _ hd7) hqd7 (by decide) kw_1576 kw_1578 ks_72 kw_17 kw_1579 hd_X10_keepNow ⟨Nat.le_of_ble_eq_true rfl, Nat.le_of_ble_eq_true rfl⟩ rfl rfl rfl (Nat.le_of_ble_eq_true rfl) ⟨Nat.le_of_ble_eq_true rfl, Nat.le_of_ble_eq_true rfl⟩ dX10_push_49 (fun H locs G => ?_)
            refine lv_aload_n hx hb dX10_push_52 rfl (lv_at hl 0 rfl) ?_
            obtain ⟨v8, hv8, hf⟩ := x_ob hf
            refine xr_getR (ci := 10) (k := 38) S G hv8 rfl kw_1206 dX10_push_53 ?_
            refine lv_iconst (v := (0 : Int32)) hx hb dX10_push_56 (by decide) ?_
            refine lv_dup2_11 hx hb dX10_push_57 rfl rfl ?_
            obtain ⟨v9, hv9, hf⟩ := x_ob hf
            refine xr_iald S G hv9 dX10_push_58 ?_
            refine lv_iload_n hx hb dX10_push_59 rfl (lv_at hl 1 rfl) ?_
            refine lv_iadd hx hb dX10_push_60 ?_
            obtain ⟨d10, hd10, hf⟩ := x_ob hf
            refine xr_iast S G hd10 dX10_push_61 (fun H locs G => ?_)
            refine lv_aload_n hx hb dX10_push_62 rfl (lv_at hl 0 rfl) ?_
            obtain ⟨v11, hv11, hf⟩ := x_ob hf
            refine xr_getR (ci := 10) (k := 38) S G hv11 rfl kw_1206 dX10_push_63 ?_
            refine lv_iconst (v := (0 : Int32)) hx hb dX10_push_66 (by decide) ?_
            obtain ⟨v12, hv12, hf⟩ := x_ob hf
            refine xr_iald S G hv12 dX10_push_67 ?_
            cases hf
            exact xr_iret S G (fun _ => rfl) hr dX10_push_68
          · have hf := x_pos c hf
            refine lv_bipush (v := (-2 : Int32)) hx hb dX10_push_45 (by decide) ?_
            cases hf
            exact xr_iret S G (fun _ => rfl) hr dX10_push_47
        · have hf := x_pos c hf
          exact K29 d1 hf _ _ ls (lv_sub hl [] rfl) G
-- HalfLandingsModel.go(I)I
theorem dX10_go_0 : decode cX10_go 0 = .ok (.aload_n 0, 1) := by decide +kernel
theorem dX10_go_1 : decode cX10_go 1 = .ok (.iconst 0, 1) := by decide +kernel
theorem dX10_go_2 : decode cX10_go 2 = .ok (.putfield 145, 3) := by decide +kernel
theorem dX10_go_5 : decode cX10_go 5 = .ok (.iload_n 1, 1) := by decide +kernel
theorem dX10_go_6 : decode cX10_go 6 = .ok (.ifCond .lt 24, 3) := by decide +kernel
theorem dX10_go_9 : decode cX10_go 9 = .ok (.iload_n 1, 1) := by decide +kernel
theorem dX10_go_10 : decode cX10_go 10 = .ok (.sipush 200, 3) := by decide +kernel
theorem dX10_go_13 : decode cX10_go 13 = .ok (.if_icmp .gt 17, 3) := by decide +kernel
theorem dX10_go_16 : decode cX10_go 16 = .ok (.aload_n 0, 1) := by decide +kernel
theorem dX10_go_17 : decode cX10_go 17 = .ok (.getfield 72, 3) := by decide +kernel
theorem dX10_go_20 : decode cX10_go 20 = .ok (.iconst 0, 1) := by decide +kernel
theorem dX10_go_21 : decode cX10_go 21 = .ok (.iaload, 1) := by decide +kernel
theorem dX10_go_22 : decode cX10_go 22 = .ok (.iload_n 1, 1) := by decide +kernel
theorem dX10_go_23 : decode cX10_go 23 = .ok (.iadd, 1) := by decide +kernel
theorem dX10_go_24 : decode cX10_go 24 = .ok (.sipush 9800, 3) := by decide +kernel
theorem dX10_go_27 : decode cX10_go 27 = .ok (.if_icmp .le 5, 3) := by decide +kernel
theorem dX10_go_30 : decode cX10_go 30 = .ok (.iconst (-1), 1) := by decide +kernel
theorem dX10_go_31 : decode cX10_go 31 = .ok (.ireturn, 1) := by decide +kernel
theorem dX10_go_32 : decode cX10_go 32 = .ok (.iload_n 1, 1) := by decide +kernel
theorem dX10_go_33 : decode cX10_go 33 = .ok (.ifCond .le 8, 3) := by decide +kernel
theorem dX10_go_36 : decode cX10_go 36 = .ok (.aload_n 0, 1) := by decide +kernel
theorem dX10_go_37 : decode cX10_go 37 = .ok (.iconst 0, 1) := by decide +kernel
theorem dX10_go_38 : decode cX10_go 38 = .ok (.putfield 302, 3) := by decide +kernel
theorem dX10_go_41 : decode cX10_go 41 = .ok (.iconst 0, 1) := by decide +kernel
theorem dX10_go_42 : decode cX10_go 42 = .ok (.istore_n 2, 1) := by decide +kernel
theorem dX10_go_43 : decode cX10_go 43 = .ok (.iload_n 2, 1) := by decide +kernel
theorem dX10_go_44 : decode cX10_go 44 = .ok (.iload_n 1, 1) := by decide +kernel
theorem dX10_go_45 : decode cX10_go 45 = .ok (.if_icmp .ge 15, 3) := by decide +kernel
theorem dX10_go_48 : decode cX10_go 48 = .ok (.aload_n 0, 1) := by decide +kernel
theorem dX10_go_49 : decode cX10_go 49 = .ok (.iconst 0, 1) := by decide +kernel
theorem dX10_go_50 : decode cX10_go 50 = .ok (.iconst 1, 1) := by decide +kernel
theorem dX10_go_51 : decode cX10_go 51 = .ok (.invokevirtual 409, 3) := by decide +kernel
theorem dX10_go_54 : decode cX10_go 54 = .ok (.iinc 2 1, 3) := by decide +kernel
theorem dX10_go_57 : decode cX10_go 57 = .ok (.goto (-14), 3) := by decide +kernel
theorem dX10_go_60 : decode cX10_go 60 = .ok (.aload_n 0, 1) := by decide +kernel
theorem dX10_go_61 : decode cX10_go 61 = .ok (.getfield 72, 3) := by decide +kernel
theorem dX10_go_64 : decode cX10_go 64 = .ok (.iconst 0, 1) := by decide +kernel
theorem dX10_go_65 : decode cX10_go 65 = .ok (.iaload, 1) := by decide +kernel
theorem dX10_go_66 : decode cX10_go 66 = .ok (.ireturn, 1) := by decide +kernel
theorem hd_X10_go : yX10_go.cls = xCn 10 ∧ yX10_go.cls ≠ "java/lang/invoke/MethodHandle" ∧ yX10_go.cls ≠ "java/lang/invoke/VarHandle" ∧ (parseMethodDescriptor yX10_go.desc).map (fun d => d.parameters.length) = some 1 := by decide +kernel
def k_X10_go_30 (sh : List xSh) (d : xD) : Option (Int32 × xD) :=
  some ((-1 : Int32), d)
def k_X10_go_60 (sh : List xSh) (q0 : Nat) (d : xD) : Option (Int32 × xD) :=
  (xgR 10 sh d q0 35).bind fun v1 => (xaI .int sh d v1 (0 : Int32)).bind fun v2 => some (v2, d)
def b_X10_go_43 (sh : List xSh) (rec43 : Nat → Int32 → Int32 → xD → Option (Int32 × xD)) (q0 : Nat) (x1 : Int32) (x2 : Int32) (d : xD) : Option (Int32 × xD) :=
  if x1 ≤ x2 then (k_X10_go_60 sh q0 d) else ((xon 10 sh q0 (f_X10_passes sh q0 (0 : Int32) (1 : Int32) d)).bind fun d3 => rec43 q0 x1 (x2 + 1) d3)
def k_X10_go_41 (sh : List xSh) (q0 : Nat) (x1 : Int32) (d : xD) : Option (Int32 × xD) :=
  xloop (fun _ _ _ _ => none) (b_X10_go_43 sh) xF q0 x1 (0 : Int32) d
def f_X10_go (sh : List xSh) (q0 : Nat) (x1 : Int32) (d : xD) : Option (Int32 × xD) :=
  (xpI 10 sh d q0 0 (0 : Int32)).bind fun d4 => if x1 < 0 then (k_X10_go_30 sh d4) else (if (200 : Int32) < x1 then (k_X10_go_30 sh d4) else ((xgR 10 sh d4 q0 35).bind fun v5 => (xaI .int sh d4 v5 (0 : Int32)).bind fun v6 => if (v6 + x1) ≤ (9800 : Int32) then (if x1 ≤ 0 then (k_X10_go_41 sh q0 x1 d4) else ((xpI 10 sh d4 q0 49 (0 : Int32)).bind fun d7 => k_X10_go_41 sh q0 x1 d7)) else (k_X10_go_30 sh d4)))
set_option maxHeartbeats 4000000 in
set_option maxRecDepth 100000 in
theorem mt_X10_go (l : Launch) (D : va_G) (cid : FieldType → ClassId) (b : Nat) (ex : Bool) (sa sv B0 : Nat) (sh : List xSh) (q0 : Nat) (x1 : Int32) (d : xD) (r : Int32) (dz : xD) (hf : f_X10_go sh q0 x1 d = some (r, dz)) : xMet l yX10_go cX10_go 3 (some .int) 6 0 0 D cid b ex sa sv B0 [.ref (b + q0), .int x1] sh d (some (.int r)) sh dz := by
  refine xMet.of (by decide) (Nat.le_of_ble_eq_true rfl) ?_
  intro p e s m below meth c ls A S hr hin G hl
  have hl : lv_has ls 3 [(0, .ref (b + q0)), (1, .int x1)] := hl
  generalize ([.ref (b + q0), .int x1] : List Value).toArray = av at S ⊢
  have hx := S.1
  have hb := S.2.1
  have hml := S.2.2.1
  have hown := S.2.2.2.1
  have hts := S.2.2.2.2.1
  have K30 : ∀ (d : xD), k_X10_go_30 sh d = some (r, dz) → ∀ (H : Heap) (locs : List Loc) (ls : Array Slot), lv_has ls 3 [] → xG D cid b A sh d s H locs → W p l e (xRm 6 0 0) s m av below meth c H locs 0 0 (MQ below (xQ D cid b ex A (some (.int r)) sh dz) av s 0 0 A) (F0 m 30 ls []) := by
    intro d hf H locs ls hl G
    unfold k_X10_go_30 at hf
    refine lv_iconst (v := (-1 : Int32)) hx hb dX10_go_30 (by decide) ?_
    cases hf
    exact xr_iret S G (fun _ => rfl) hr dX10_go_31
  have K60 : ∀ (q0 : Nat) (d : xD), k_X10_go_60 sh q0 d = some (r, dz) → ∀ (H : Heap) (locs : List Loc) (ls : Array Slot), lv_has ls 3 [(0, .ref (b + q0))] → xG D cid b A sh d s H locs → W p l e (xRm 6 0 0) s m av below meth c H locs 0 0 (MQ below (xQ D cid b ex A (some (.int r)) sh dz) av s 0 0 A) (F0 m 60 ls []) := by
    intro q0 d hf H locs ls hl G
    unfold k_X10_go_60 at hf
    refine lv_aload_n hx hb dX10_go_60 rfl (lv_at hl 0 rfl) ?_
    obtain ⟨v1, hv1, hf⟩ := x_ob hf
    refine xr_getR (ci := 10) (k := 35) S G hv1 rfl kw_1203 dX10_go_61 ?_
    refine lv_iconst (v := (0 : Int32)) hx hb dX10_go_64 (by decide) ?_
    obtain ⟨v2, hv2, hf⟩ := x_ob hf
    refine xr_iald S G hv2 dX10_go_65 ?_
    cases hf
    exact xr_iret S G (fun _ => rfl) hr dX10_go_66
  have K43 : ∀ (n : Nat) (q0 : Nat) (x1 : Int32) (x2 : Int32) (d : xD), xloop (fun _ _ _ _ => none) (b_X10_go_43 sh) n q0 x1 x2 d = some (r, dz) → ∀ (H : Heap) (locs : List Loc) (ls : Array Slot), lv_has ls 3 [(0, .ref (b + q0)), (1, .int x1), (2, .int x2)] → xG D cid b A sh d s H locs → W p l e (xRm 6 0 0) s m av below meth c H locs 0 0 (MQ below (xQ D cid b ex A (some (.int r)) sh dz) av s 0 0 A) (F0 m 43 ls []) := by
    intro n
    induction n with
    | zero =>
      intro q0 x1 x2 d hf
      have hf : (none : Option (Int32 × xD)) = some (r, dz) := hf
      cases hf
    | succ n hrec43 =>
      intro q0 x1 x2 d hf H locs ls hl G
      have hf : b_X10_go_43 sh (xloop (fun _ _ _ _ => none) (b_X10_go_43 sh) n) q0 x1 x2 d = some (r, dz) := hf
      unfold b_X10_go_43 at hf
      refine lv_iload_n hx hb dX10_go_43 rfl (lv_at hl 2 rfl) ?_
      refine lv_iload_n hx hb dX10_go_44 rfl (lv_at hl 1 rfl) ?_
      refine lv_icmp_ge (tgt := 60) hx hb dX10_go_45 (by decide) (fun c => ?_) (fun c => ?_)
      · have hf := x_pos c hf
        exact K60 q0 d hf _ _ ls (lv_sub hl [0] rfl) G
      · have hf := x_neg c hf
        refine lv_aload_n hx hb dX10_go_48 rfl (lv_at hl 0 rfl) ?_
        refine lv_iconst (v := (0 : Int32)) hx hb dX10_go_49 (by decide) ?_
        refine lv_iconst (v := (1 : Int32)) hx hb dX10_go_50 (by decide) ?_
        obtain ⟨d3, hd3, hf⟩ := x_ob hf
        obtain ⟨hqd3, hd3⟩ := xon_of hd3
        refine xr_callV (ci := 10) (As := [.int (0 : Int32), .int (1 : Int32)]) (rest := []) (st1 := []) S G hl.1 (fun _ => rfl) (mt_X10_passes l D cid b ex sa sv B0 sh q0 (0 : Int32) (1 : Int32) d _ hd3) hqd3 (by decide) kw_1616 kw_1618 ks_79 kw_17 kw_1619 hd_X10_passes ⟨Nat.le_of_ble_eq_true rfl, Nat.le_of_ble_eq_true rfl⟩ rfl rfl rfl (Nat.le_of_ble_eq_true rfl) ⟨Nat.le_of_ble_eq_true rfl, Nat.le_of_ble_eq_true rfl⟩ dX10_go_51 (fun H locs G => ?_)
        refine lv_iinc (v := (x2 + 1)) (lv' := [(2, .int (x2 + 1)), (0, .ref (b + q0)), (1, .int x1)]) hx hb dX10_go_54 hl (k := 2) rfl rfl (by decide) rfl (fun ls hl => ?_)
        refine lv_goto (tgt := 43) hx hb dX10_go_57 (by decide) ?_
        exact hrec43 q0 x1 (x2 + 1) d3 hf _ _ ls (lv_sub hl [1, 2, 0] rfl) G
  have K41 : ∀ (q0 : Nat) (x1 : Int32) (d : xD), k_X10_go_41 sh q0 x1 d = some (r, dz) → ∀ (H : Heap) (locs : List Loc) (ls : Array Slot), lv_has ls 3 [(0, .ref (b + q0)), (1, .int x1)] → xG D cid b A sh d s H locs → W p l e (xRm 6 0 0) s m av below meth c H locs 0 0 (MQ below (xQ D cid b ex A (some (.int r)) sh dz) av s 0 0 A) (F0 m 41 ls []) := by
    intro q0 x1 d hf H locs ls hl G
    unfold k_X10_go_41 at hf
    refine lv_iconst (v := (0 : Int32)) hx hb dX10_go_41 (by decide) ?_
    refine lv_istore_n (lv' := [(2, .int (0 : Int32)), (0, .ref (b + q0)), (1, .int x1)]) hx hb dX10_go_42 rfl hl (by decide) rfl (fun ls hl => ?_)
    exact K43 xF q0 x1 (0 : Int32) d hf _ _ ls (lv_sub hl [1, 2, 0] rfl) G
  unfold f_X10_go at hf
  refine lv_aload_n hx hb dX10_go_0 rfl (lv_at hl 0 rfl) ?_
  refine lv_iconst (v := (0 : Int32)) hx hb dX10_go_1 (by decide) ?_
  obtain ⟨d4, hd4, hf⟩ := x_ob hf
  refine xr_putI (ci := 10) (k := 0) S G hd4 rfl kw_1168 dX10_go_2 (fun H locs G => ?_)
  refine lv_iload_n hx hb dX10_go_5 rfl (lv_at hl 1 rfl) ?_
  refine lv_if_lt (tgt := 30) hx hb dX10_go_6 (by decide) (fun c => ?_) (fun c => ?_)
  · have hf := x_pos c hf
    exact K30 d4 hf _ _ ls (lv_sub hl [] rfl) G
  · have hf := x_neg c hf
    refine lv_iload_n hx hb dX10_go_9 rfl (lv_at hl 1 rfl) ?_
    refine lv_sipush (v := (200 : Int32)) hx hb dX10_go_10 (by decide) ?_
    refine lv_icmp_gt (tgt := 30) hx hb dX10_go_13 (by decide) (fun c => ?_) (fun c => ?_)
    · have hf := x_pos c hf
      exact K30 d4 hf _ _ ls (lv_sub hl [] rfl) G
    · have hf := x_neg c hf
      refine lv_aload_n hx hb dX10_go_16 rfl (lv_at hl 0 rfl) ?_
      obtain ⟨v5, hv5, hf⟩ := x_ob hf
      refine xr_getR (ci := 10) (k := 35) S G hv5 rfl kw_1203 dX10_go_17 ?_
      refine lv_iconst (v := (0 : Int32)) hx hb dX10_go_20 (by decide) ?_
      obtain ⟨v6, hv6, hf⟩ := x_ob hf
      refine xr_iald S G hv6 dX10_go_21 ?_
      refine lv_iload_n hx hb dX10_go_22 rfl (lv_at hl 1 rfl) ?_
      refine lv_iadd hx hb dX10_go_23 ?_
      refine lv_sipush (v := (9800 : Int32)) hx hb dX10_go_24 (by decide) ?_
      refine lv_icmp_le (tgt := 32) hx hb dX10_go_27 (by decide) (fun c => ?_) (fun c => ?_)
      · have hf := x_pos c hf
        refine lv_iload_n hx hb dX10_go_32 rfl (lv_at hl 1 rfl) ?_
        refine lv_if_le (tgt := 41) hx hb dX10_go_33 (by decide) (fun c => ?_) (fun c => ?_)
        · have hf := x_pos c hf
          exact K41 q0 x1 d4 hf _ _ ls (lv_sub hl [0, 1] rfl) G
        · have hf := x_neg c hf
          refine lv_aload_n hx hb dX10_go_36 rfl (lv_at hl 0 rfl) ?_
          refine lv_iconst (v := (0 : Int32)) hx hb dX10_go_37 (by decide) ?_
          obtain ⟨d7, hd7, hf⟩ := x_ob hf
          refine xr_putI (ci := 10) (k := 49) S G hd7 rfl kw_1217 dX10_go_38 (fun H locs G => ?_)
          exact K41 q0 x1 d7 hf _ _ ls (lv_sub hl [0, 1] rfl) G
      · have hf := x_neg c hf
        exact K30 d4 hf _ _ ls (lv_sub hl [] rfl) G
-- HalfLandingsModel.ahead(III)I
theorem dX10_ahead_0 : decode cX10_ahead 0 = .ok (.aload_n 0, 1) := by decide +kernel
theorem dX10_ahead_1 : decode cX10_ahead 1 = .ok (.iconst 0, 1) := by decide +kernel
theorem dX10_ahead_2 : decode cX10_ahead 2 = .ok (.putfield 145, 3) := by decide +kernel
theorem dX10_ahead_5 : decode cX10_ahead 5 = .ok (.iload_n 1, 1) := by decide +kernel
theorem dX10_ahead_6 : decode cX10_ahead 6 = .ok (.ifCond .lt 45, 3) := by decide +kernel
theorem dX10_ahead_9 : decode cX10_ahead 9 = .ok (.iload_n 1, 1) := by decide +kernel
theorem dX10_ahead_10 : decode cX10_ahead 10 = .ok (.sipush 200, 3) := by decide +kernel
theorem dX10_ahead_13 : decode cX10_ahead 13 = .ok (.if_icmp .gt 38, 3) := by decide +kernel
theorem dX10_ahead_16 : decode cX10_ahead 16 = .ok (.iload_n 2, 1) := by decide +kernel
theorem dX10_ahead_17 : decode cX10_ahead 17 = .ok (.ifCond .lt 34, 3) := by decide +kernel
theorem dX10_ahead_20 : decode cX10_ahead 20 = .ok (.iload_n 2, 1) := by decide +kernel
theorem dX10_ahead_21 : decode cX10_ahead 21 = .ok (.iconst 3, 1) := by decide +kernel
theorem dX10_ahead_22 : decode cX10_ahead 22 = .ok (.if_icmp .gt 29, 3) := by decide +kernel
theorem dX10_ahead_25 : decode cX10_ahead 25 = .ok (.iload_n 2, 1) := by decide +kernel
theorem dX10_ahead_26 : decode cX10_ahead 26 = .ok (.iconst 1, 1) := by decide +kernel
theorem dX10_ahead_27 : decode cX10_ahead 27 = .ok (.if_icmp .ne 11, 3) := by decide +kernel
theorem dX10_ahead_30 : decode cX10_ahead 30 = .ok (.aload_n 0, 1) := by decide +kernel
theorem dX10_ahead_31 : decode cX10_ahead 31 = .ok (.iload_n 3, 1) := by decide +kernel
theorem dX10_ahead_32 : decode cX10_ahead 32 = .ok (.invokevirtual 422, 3) := by decide +kernel
theorem dX10_ahead_35 : decode cX10_ahead 35 = .ok (.ifCond .eq 16, 3) := by decide +kernel
theorem dX10_ahead_38 : decode cX10_ahead 38 = .ok (.iload_n 2, 1) := by decide +kernel
theorem dX10_ahead_39 : decode cX10_ahead 39 = .ok (.iconst 2, 1) := by decide +kernel
theorem dX10_ahead_40 : decode cX10_ahead 40 = .ok (.if_icmp .ne 13, 3) := by decide +kernel
theorem dX10_ahead_43 : decode cX10_ahead 43 = .ok (.aload_n 0, 1) := by decide +kernel
theorem dX10_ahead_44 : decode cX10_ahead 44 = .ok (.iload_n 3, 1) := by decide +kernel
theorem dX10_ahead_45 : decode cX10_ahead 45 = .ok (.invokevirtual 419, 3) := by decide +kernel
theorem dX10_ahead_48 : decode cX10_ahead 48 = .ok (.ifCond .ne 5, 3) := by decide +kernel
theorem dX10_ahead_51 : decode cX10_ahead 51 = .ok (.iconst (-1), 1) := by decide +kernel
theorem dX10_ahead_52 : decode cX10_ahead 52 = .ok (.ireturn, 1) := by decide +kernel
theorem dX10_ahead_53 : decode cX10_ahead 53 = .ok (.aload_n 0, 1) := by decide +kernel
theorem dX10_ahead_54 : decode cX10_ahead 54 = .ok (.iload_n 1, 1) := by decide +kernel
theorem dX10_ahead_55 : decode cX10_ahead 55 = .ok (.invokevirtual 442, 3) := by decide +kernel
theorem dX10_ahead_58 : decode cX10_ahead 58 = .ok (.iload_n 2, 1) := by decide +kernel
theorem dX10_ahead_59 : decode cX10_ahead 59 = .ok (.tableswitch 59 0 2 #[25, 39, 49], 25) := by decide +kernel
theorem dX10_ahead_84 : decode cX10_ahead 84 = .ok (.aload_n 0, 1) := by decide +kernel
theorem dX10_ahead_85 : decode cX10_ahead 85 = .ok (.getfield 78, 3) := by decide +kernel
theorem dX10_ahead_88 : decode cX10_ahead 88 = .ok (.iconst 1, 1) := by decide +kernel
theorem dX10_ahead_89 : decode cX10_ahead 89 = .ok (.iaload, 1) := by decide +kernel
theorem dX10_ahead_90 : decode cX10_ahead 90 = .ok (.aload_n 0, 1) := by decide +kernel
theorem dX10_ahead_91 : decode cX10_ahead 91 = .ok (.getfield 78, 3) := by decide +kernel
theorem dX10_ahead_94 : decode cX10_ahead 94 = .ok (.iconst 0, 1) := by decide +kernel
theorem dX10_ahead_95 : decode cX10_ahead 95 = .ok (.iaload, 1) := by decide +kernel
theorem dX10_ahead_96 : decode cX10_ahead 96 = .ok (.isub, 1) := by decide +kernel
theorem dX10_ahead_97 : decode cX10_ahead 97 = .ok (.ireturn, 1) := by decide +kernel
theorem dX10_ahead_98 : decode cX10_ahead 98 = .ok (.aload_n 0, 1) := by decide +kernel
theorem dX10_ahead_99 : decode cX10_ahead 99 = .ok (.getfield 108, 3) := by decide +kernel
theorem dX10_ahead_102 : decode cX10_ahead 102 = .ok (.bipush 8, 2) := by decide +kernel
theorem dX10_ahead_104 : decode cX10_ahead 104 = .ok (.iload_n 3, 1) := by decide +kernel
theorem dX10_ahead_105 : decode cX10_ahead 105 = .ok (.iadd, 1) := by decide +kernel
theorem dX10_ahead_106 : decode cX10_ahead 106 = .ok (.iaload, 1) := by decide +kernel
theorem dX10_ahead_107 : decode cX10_ahead 107 = .ok (.ireturn, 1) := by decide +kernel
theorem dX10_ahead_108 : decode cX10_ahead 108 = .ok (.aload_n 0, 1) := by decide +kernel
theorem dX10_ahead_109 : decode cX10_ahead 109 = .ok (.getfield 90, 3) := by decide +kernel
theorem dX10_ahead_112 : decode cX10_ahead 112 = .ok (.bipush 6, 2) := by decide +kernel
theorem dX10_ahead_114 : decode cX10_ahead 114 = .ok (.iload_n 3, 1) := by decide +kernel
theorem dX10_ahead_115 : decode cX10_ahead 115 = .ok (.iadd, 1) := by decide +kernel
theorem dX10_ahead_116 : decode cX10_ahead 116 = .ok (.iaload, 1) := by decide +kernel
theorem dX10_ahead_117 : decode cX10_ahead 117 = .ok (.ireturn, 1) := by decide +kernel
theorem dX10_ahead_118 : decode cX10_ahead 118 = .ok (.aload_n 0, 1) := by decide +kernel
theorem dX10_ahead_119 : decode cX10_ahead 119 = .ok (.iconst 1, 1) := by decide +kernel
theorem dX10_ahead_120 : decode cX10_ahead 120 = .ok (.iconst 3, 1) := by decide +kernel
theorem dX10_ahead_121 : decode cX10_ahead 121 = .ok (.invokevirtual 445, 3) := by decide +kernel
theorem dX10_ahead_124 : decode cX10_ahead 124 = .ok (.ireturn, 1) := by decide +kernel
theorem hd_X10_ahead : yX10_ahead.cls = xCn 10 ∧ yX10_ahead.cls ≠ "java/lang/invoke/MethodHandle" ∧ yX10_ahead.cls ≠ "java/lang/invoke/VarHandle" ∧ (parseMethodDescriptor yX10_ahead.desc).map (fun d => d.parameters.length) = some 3 := by decide +kernel
def k_X10_ahead_51 (sh : List xSh) (d : xD) : Option (Int32 × xD) :=
  some ((-1 : Int32), d)
def k_X10_ahead_53 (sh : List xSh) (q0 : Nat) (x1 : Int32) (x2 : Int32) (x3 : Int32) (d : xD) : Option (Int32 × xD) :=
  (xon 10 sh q0 (f_X10_runs sh q0 x1 d)).bind fun d1 => if x2 = (0 : Int32) then ((xgR 10 sh d1 q0 37).bind fun v3 => (xaI .int sh d1 v3 (1 : Int32)).bind fun v4 => (xgR 10 sh d1 q0 37).bind fun v5 => (xaI .int sh d1 v5 (0 : Int32)).bind fun v6 => some ((v4 - v6), d1)) else (if x2 = (1 : Int32) then ((xgR 10 sh d1 q0 47).bind fun v8 => (xaI .int sh d1 v8 ((8 : Int32) + x3)).bind fun v9 => some (v9, d1)) else (if x2 = (2 : Int32) then ((xgR 10 sh d1 q0 41).bind fun v11 => (xaI .int sh d1 v11 ((6 : Int32) + x3)).bind fun v12 => some (v12, d1)) else ((xon 10 sh q0 (f_X10_walkersOf sh q0 (1 : Int32) (3 : Int32) d1)).bind fun z13 => some (z13.1, z13.2))))
def k_X10_ahead_38 (sh : List xSh) (q0 : Nat) (x1 : Int32) (x2 : Int32) (x3 : Int32) (d : xD) : Option (Int32 × xD) :=
  if x2 = (2 : Int32) then ((xon 10 sh q0 (f_X10_isWalker sh q0 x3 d)).bind fun z14 => if z14.1 = 0 then (k_X10_ahead_51 sh z14.2) else (k_X10_ahead_53 sh q0 x1 x2 x3 z14.2)) else (k_X10_ahead_53 sh q0 x1 x2 x3 d)
def f_X10_ahead (sh : List xSh) (q0 : Nat) (x1 : Int32) (x2 : Int32) (x3 : Int32) (d : xD) : Option (Int32 × xD) :=
  (xpI 10 sh d q0 0 (0 : Int32)).bind fun d15 => if x1 < 0 then (k_X10_ahead_51 sh d15) else (if (200 : Int32) < x1 then (k_X10_ahead_51 sh d15) else (if x2 < 0 then (k_X10_ahead_51 sh d15) else (if (3 : Int32) < x2 then (k_X10_ahead_51 sh d15) else (if x2 = (1 : Int32) then ((xon 10 sh q0 (f_X10_isBench sh q0 x3 d15)).bind fun z16 => if z16.1 = 0 then (k_X10_ahead_51 sh z16.2) else (k_X10_ahead_38 sh q0 x1 x2 x3 z16.2)) else (k_X10_ahead_38 sh q0 x1 x2 x3 d15)))))
set_option maxHeartbeats 4000000 in
set_option maxRecDepth 100000 in
theorem mt_X10_ahead (l : Launch) (D : va_G) (cid : FieldType → ClassId) (b : Nat) (ex : Bool) (sa sv B0 : Nat) (sh : List xSh) (q0 : Nat) (x1 : Int32) (x2 : Int32) (x3 : Int32) (d : xD) (r : Int32) (dz : xD) (hf : f_X10_ahead sh q0 x1 x2 x3 d = some (r, dz)) : xMet l yX10_ahead cX10_ahead 4 (some .int) 8 0 0 D cid b ex sa sv B0 [.ref (b + q0), .int x1, .int x2, .int x3] sh d (some (.int r)) sh dz := by
  refine xMet.of (by decide) (Nat.le_of_ble_eq_true rfl) ?_
  intro p e s m below meth c ls A S hr hin G hl
  have hl : lv_has ls 4 [(0, .ref (b + q0)), (1, .int x1), (2, .int x2), (3, .int x3)] := hl
  generalize ([.ref (b + q0), .int x1, .int x2, .int x3] : List Value).toArray = av at S ⊢
  have hx := S.1
  have hb := S.2.1
  have hml := S.2.2.1
  have hown := S.2.2.2.1
  have hts := S.2.2.2.2.1
  have K51 : ∀ (d : xD), k_X10_ahead_51 sh d = some (r, dz) → ∀ (H : Heap) (locs : List Loc) (ls : Array Slot), lv_has ls 4 [] → xG D cid b A sh d s H locs → W p l e (xRm 8 0 0) s m av below meth c H locs 0 0 (MQ below (xQ D cid b ex A (some (.int r)) sh dz) av s 0 0 A) (F0 m 51 ls []) := by
    intro d hf H locs ls hl G
    unfold k_X10_ahead_51 at hf
    refine lv_iconst (v := (-1 : Int32)) hx hb dX10_ahead_51 (by decide) ?_
    cases hf
    exact xr_iret S G (fun _ => rfl) hr dX10_ahead_52
  have K53 : ∀ (q0 : Nat) (x1 : Int32) (x2 : Int32) (x3 : Int32) (d : xD), k_X10_ahead_53 sh q0 x1 x2 x3 d = some (r, dz) → ∀ (H : Heap) (locs : List Loc) (ls : Array Slot), lv_has ls 4 [(0, .ref (b + q0)), (1, .int x1), (2, .int x2), (3, .int x3)] → xG D cid b A sh d s H locs → W p l e (xRm 8 0 0) s m av below meth c H locs 0 0 (MQ below (xQ D cid b ex A (some (.int r)) sh dz) av s 0 0 A) (F0 m 53 ls []) := by
    intro q0 x1 x2 x3 d hf H locs ls hl G
    unfold k_X10_ahead_53 at hf
    refine lv_aload_n hx hb dX10_ahead_53 rfl (lv_at hl 0 rfl) ?_
    refine lv_iload_n hx hb dX10_ahead_54 rfl (lv_at hl 1 rfl) ?_
    obtain ⟨d1, hd1, hf⟩ := x_ob hf
    obtain ⟨hqd1, hd1⟩ := xon_of hd1
    refine xr_callV (ci := 10) (As := [.int x1]) (rest := []) (st1 := []) S G hl.1 (fun _ => rfl) (mt_X10_runs l D cid b ex sa sv B0 sh q0 x1 d _ hd1) hqd1 (by decide) kw_1657 kw_1659 ks_87 kw_17 kw_1660 hd_X10_runs ⟨Nat.le_of_ble_eq_true rfl, Nat.le_of_ble_eq_true rfl⟩ rfl rfl rfl (Nat.le_of_ble_eq_true rfl) ⟨Nat.le_of_ble_eq_true rfl, Nat.le_of_ble_eq_true rfl⟩ dX10_ahead_55 (fun H locs G => ?_)
    refine lv_iload_n hx hb dX10_ahead_58 rfl (lv_at hl 2 rfl) ?_
    by_cases c2 : x2 = (0 : Int32)
    · have hf := x_pos c2 hf
      refine xr_tab (k := (0 : Int32)) (tgt := 84) hx hb c2 dX10_ahead_59 (by decide) (by decide) rfl (by decide) ?_
      refine lv_aload_n hx hb dX10_ahead_84 rfl (lv_at hl 0 rfl) ?_
      obtain ⟨v3, hv3, hf⟩ := x_ob hf
      refine xr_getR (ci := 10) (k := 37) S G hv3 rfl kw_1205 dX10_ahead_85 ?_
      refine lv_iconst (v := (1 : Int32)) hx hb dX10_ahead_88 (by decide) ?_
      obtain ⟨v4, hv4, hf⟩ := x_ob hf
      refine xr_iald S G hv4 dX10_ahead_89 ?_
      refine lv_aload_n hx hb dX10_ahead_90 rfl (lv_at hl 0 rfl) ?_
      obtain ⟨v5, hv5, hf⟩ := x_ob hf
      refine xr_getR (ci := 10) (k := 37) S G hv5 rfl kw_1205 dX10_ahead_91 ?_
      refine lv_iconst (v := (0 : Int32)) hx hb dX10_ahead_94 (by decide) ?_
      obtain ⟨v6, hv6, hf⟩ := x_ob hf
      refine xr_iald S G hv6 dX10_ahead_95 ?_
      refine lv_isub hx hb dX10_ahead_96 ?_
      cases hf
      exact xr_iret S G (fun _ => rfl) hr dX10_ahead_97
    · have hf := x_neg c2 hf
      by_cases c7 : x2 = (1 : Int32)
      · have hf := x_pos c7 hf
        refine xr_tab (k := (1 : Int32)) (tgt := 98) hx hb c7 dX10_ahead_59 (by decide) (by decide) rfl (by decide) ?_
        refine lv_aload_n hx hb dX10_ahead_98 rfl (lv_at hl 0 rfl) ?_
        obtain ⟨v8, hv8, hf⟩ := x_ob hf
        refine xr_getR (ci := 10) (k := 47) S G hv8 rfl kw_1215 dX10_ahead_99 ?_
        refine lv_bipush (v := (8 : Int32)) hx hb dX10_ahead_102 (by decide) ?_
        refine lv_iload_n hx hb dX10_ahead_104 rfl (lv_at hl 3 rfl) ?_
        refine lv_iadd hx hb dX10_ahead_105 ?_
        obtain ⟨v9, hv9, hf⟩ := x_ob hf
        refine xr_iald S G hv9 dX10_ahead_106 ?_
        cases hf
        exact xr_iret S G (fun _ => rfl) hr dX10_ahead_107
      · have hf := x_neg c7 hf
        by_cases c10 : x2 = (2 : Int32)
        · have hf := x_pos c10 hf
          refine xr_tab (k := (2 : Int32)) (tgt := 108) hx hb c10 dX10_ahead_59 (by decide) (by decide) rfl (by decide) ?_
          refine lv_aload_n hx hb dX10_ahead_108 rfl (lv_at hl 0 rfl) ?_
          obtain ⟨v11, hv11, hf⟩ := x_ob hf
          refine xr_getR (ci := 10) (k := 41) S G hv11 rfl kw_1209 dX10_ahead_109 ?_
          refine lv_bipush (v := (6 : Int32)) hx hb dX10_ahead_112 (by decide) ?_
          refine lv_iload_n hx hb dX10_ahead_114 rfl (lv_at hl 3 rfl) ?_
          refine lv_iadd hx hb dX10_ahead_115 ?_
          obtain ⟨v12, hv12, hf⟩ := x_ob hf
          refine xr_iald S G hv12 dX10_ahead_116 ?_
          cases hf
          exact xr_iret S G (fun _ => rfl) hr dX10_ahead_117
        · have hf := x_neg c10 hf
          have hks : ∀ z ∈ ([0, 1, 2] : List Int), (x2).toInt ≠ z := by
            intro z hz
            simp only [List.mem_cons, List.not_mem_nil, or_false] at hz
            rcases hz with rfl | rfl | rfl
            · exact x_toInt_ne 0 c2 (by decide)
            · exact x_toInt_ne 1 c7 (by decide)
            · exact x_toInt_ne 2 c10 (by decide)
          refine xr_tabD (tgt := 118) [0, 1, 2] hx hb dX10_ahead_59 hks (by decide) (by decide) (by decide) ?_
          refine lv_aload_n hx hb dX10_ahead_118 rfl (lv_at hl 0 rfl) ?_
          refine lv_iconst (v := (1 : Int32)) hx hb dX10_ahead_119 (by decide) ?_
          refine lv_iconst (v := (3 : Int32)) hx hb dX10_ahead_120 (by decide) ?_
          obtain ⟨z13, hz13, hf⟩ := x_ob hf
          obtain ⟨hqz13, hz13⟩ := xon_of hz13
          refine xr_callV (ci := 10) (As := [.int (1 : Int32), .int (3 : Int32)]) (rest := []) (st1 := [.int z13.1]) S G hl.1 (fun _ => rfl) (mt_X10_walkersOf l D cid b ex sa sv B0 sh q0 (1 : Int32) (3 : Int32) d1 _ _ hz13) hqz13 (by decide) kw_1665 kw_1667 ks_89 kw_17 kw_1668 hd_X10_walkersOf ⟨Nat.le_of_ble_eq_true rfl, Nat.le_of_ble_eq_true rfl⟩ rfl rfl rfl (Nat.le_of_ble_eq_true rfl) ⟨Nat.le_of_ble_eq_true rfl, Nat.le_of_ble_eq_true rfl⟩ dX10_ahead_121 (fun H locs G => ?_)
          cases hf
          exact xr_iret S G (fun _ => rfl) hr dX10_ahead_124
  have K38 : ∀ (q0 : Nat) (x1 : Int32) (x2 : Int32) (x3 : Int32) (d : xD), k_X10_ahead_38 sh q0 x1 x2 x3 d = some (r, dz) → ∀ (H : Heap) (locs : List Loc) (ls : Array Slot), lv_has ls 4 [(0, .ref (b + q0)), (1, .int x1), (2, .int x2), (3, .int x3)] → xG D cid b A sh d s H locs → W p l e (xRm 8 0 0) s m av below meth c H locs 0 0 (MQ below (xQ D cid b ex A (some (.int r)) sh dz) av s 0 0 A) (F0 m 38 ls []) := by
    intro q0 x1 x2 x3 d hf H locs ls hl G
    unfold k_X10_ahead_38 at hf
    refine lv_iload_n hx hb dX10_ahead_38 rfl (lv_at hl 2 rfl) ?_
    refine lv_iconst (v := (2 : Int32)) hx hb dX10_ahead_39 (by decide) ?_
    refine lv_icmp_ne (tgt := 53) hx hb dX10_ahead_40 (by decide) (fun c => ?_) (fun c => ?_)
    · have hf := x_neg c hf
      exact K53 q0 x1 x2 x3 d hf _ _ ls (lv_sub hl [0, 1, 2, 3] rfl) G
    · have hf := x_pos c hf
      refine lv_aload_n hx hb dX10_ahead_43 rfl (lv_at hl 0 rfl) ?_
      refine lv_iload_n hx hb dX10_ahead_44 rfl (lv_at hl 3 rfl) ?_
      obtain ⟨z14, hz14, hf⟩ := x_ob hf
      obtain ⟨hqz14, hz14⟩ := xon_of hz14
      refine xr_callV (ci := 10) (As := [.int x3]) (rest := []) (st1 := [.int z14.1]) S G hl.1 (fun _ => rfl) (mt_X10_isWalker l D cid b ex sa sv B0 sh q0 x3 d _ _ hz14) hqz14 (by decide) kw_1504 kw_1506 ks_62 kw_17 kw_1507 hd_X10_isWalker ⟨Nat.le_of_ble_eq_true rfl, Nat.le_of_ble_eq_true rfl⟩ rfl rfl rfl (Nat.le_of_ble_eq_true rfl) ⟨Nat.le_of_ble_eq_true rfl, Nat.le_of_ble_eq_true rfl⟩ dX10_ahead_45 (fun H locs G => ?_)
      refine lv_if_ne (tgt := 53) hx hb dX10_ahead_48 (by decide) (fun c => ?_) (fun c => ?_)
      · have hf := x_neg c hf
        exact K53 q0 x1 x2 x3 z14.2 hf _ _ ls (lv_sub hl [0, 1, 2, 3] rfl) G
      · have hf := x_pos c hf
        exact K51 z14.2 hf _ _ ls (lv_sub hl [] rfl) G
  unfold f_X10_ahead at hf
  refine lv_aload_n hx hb dX10_ahead_0 rfl (lv_at hl 0 rfl) ?_
  refine lv_iconst (v := (0 : Int32)) hx hb dX10_ahead_1 (by decide) ?_
  obtain ⟨d15, hd15, hf⟩ := x_ob hf
  refine xr_putI (ci := 10) (k := 0) S G hd15 rfl kw_1168 dX10_ahead_2 (fun H locs G => ?_)
  refine lv_iload_n hx hb dX10_ahead_5 rfl (lv_at hl 1 rfl) ?_
  refine lv_if_lt (tgt := 51) hx hb dX10_ahead_6 (by decide) (fun c => ?_) (fun c => ?_)
  · have hf := x_pos c hf
    exact K51 d15 hf _ _ ls (lv_sub hl [] rfl) G
  · have hf := x_neg c hf
    refine lv_iload_n hx hb dX10_ahead_9 rfl (lv_at hl 1 rfl) ?_
    refine lv_sipush (v := (200 : Int32)) hx hb dX10_ahead_10 (by decide) ?_
    refine lv_icmp_gt (tgt := 51) hx hb dX10_ahead_13 (by decide) (fun c => ?_) (fun c => ?_)
    · have hf := x_pos c hf
      exact K51 d15 hf _ _ ls (lv_sub hl [] rfl) G
    · have hf := x_neg c hf
      refine lv_iload_n hx hb dX10_ahead_16 rfl (lv_at hl 2 rfl) ?_
      refine lv_if_lt (tgt := 51) hx hb dX10_ahead_17 (by decide) (fun c => ?_) (fun c => ?_)
      · have hf := x_pos c hf
        exact K51 d15 hf _ _ ls (lv_sub hl [] rfl) G
      · have hf := x_neg c hf
        refine lv_iload_n hx hb dX10_ahead_20 rfl (lv_at hl 2 rfl) ?_
        refine lv_iconst (v := (3 : Int32)) hx hb dX10_ahead_21 (by decide) ?_
        refine lv_icmp_gt (tgt := 51) hx hb dX10_ahead_22 (by decide) (fun c => ?_) (fun c => ?_)
        · have hf := x_pos c hf
          exact K51 d15 hf _ _ ls (lv_sub hl [] rfl) G
        · have hf := x_neg c hf
          refine lv_iload_n hx hb dX10_ahead_25 rfl (lv_at hl 2 rfl) ?_
          refine lv_iconst (v := (1 : Int32)) hx hb dX10_ahead_26 (by decide) ?_
          refine lv_icmp_ne (tgt := 38) hx hb dX10_ahead_27 (by decide) (fun c => ?_) (fun c => ?_)
          · have hf := x_neg c hf
            exact K38 q0 x1 x2 x3 d15 hf _ _ ls (lv_sub hl [0, 1, 2, 3] rfl) G
          · have hf := x_pos c hf
            refine lv_aload_n hx hb dX10_ahead_30 rfl (lv_at hl 0 rfl) ?_
            refine lv_iload_n hx hb dX10_ahead_31 rfl (lv_at hl 3 rfl) ?_
            obtain ⟨z16, hz16, hf⟩ := x_ob hf
            obtain ⟨hqz16, hz16⟩ := xon_of hz16
            refine xr_callV (ci := 10) (As := [.int x3]) (rest := []) (st1 := [.int z16.1]) S G hl.1 (fun _ => rfl) (mt_X10_isBench l D cid b ex sa sv B0 sh q0 x3 d15 _ _ hz16) hqz16 (by decide) kw_1512 kw_1514 ks_63 kw_17 kw_1515 hd_X10_isBench ⟨Nat.le_of_ble_eq_true rfl, Nat.le_of_ble_eq_true rfl⟩ rfl rfl rfl (Nat.le_of_ble_eq_true rfl) ⟨Nat.le_of_ble_eq_true rfl, Nat.le_of_ble_eq_true rfl⟩ dX10_ahead_32 (fun H locs G => ?_)
            refine lv_if_eq (tgt := 51) hx hb dX10_ahead_35 (by decide) (fun c => ?_) (fun c => ?_)
            · have hf := x_pos c hf
              exact K51 z16.2 hf _ _ ls (lv_sub hl [] rfl) G
            · have hf := x_neg c hf
              exact K38 q0 x1 x2 x3 z16.2 hf _ _ ls (lv_sub hl [0, 1, 2, 3] rfl) G
-- HalfLandingsModel.areTwo(II)Z
theorem dX10_areTwo_0 : decode cX10_areTwo 0 = .ok (.aload_n 0, 1) := by decide +kernel
theorem dX10_areTwo_1 : decode cX10_areTwo 1 = .ok (.iload_n 1, 1) := by decide +kernel
theorem dX10_areTwo_2 : decode cX10_areTwo 2 = .ok (.invokevirtual 419, 3) := by decide +kernel
theorem dX10_areTwo_5 : decode cX10_areTwo 5 = .ok (.ifCond .eq 20, 3) := by decide +kernel
theorem dX10_areTwo_8 : decode cX10_areTwo 8 = .ok (.aload_n 0, 1) := by decide +kernel
theorem dX10_areTwo_9 : decode cX10_areTwo 9 = .ok (.iload_n 2, 1) := by decide +kernel
theorem dX10_areTwo_10 : decode cX10_areTwo 10 = .ok (.invokevirtual 419, 3) := by decide +kernel
theorem dX10_areTwo_13 : decode cX10_areTwo 13 = .ok (.ifCond .eq 12, 3) := by decide +kernel
theorem dX10_areTwo_16 : decode cX10_areTwo 16 = .ok (.iload_n 1, 1) := by decide +kernel
theorem dX10_areTwo_17 : decode cX10_areTwo 17 = .ok (.iload_n 2, 1) := by decide +kernel
theorem dX10_areTwo_18 : decode cX10_areTwo 18 = .ok (.if_icmp .eq 7, 3) := by decide +kernel
theorem dX10_areTwo_21 : decode cX10_areTwo 21 = .ok (.iconst 1, 1) := by decide +kernel
theorem dX10_areTwo_22 : decode cX10_areTwo 22 = .ok (.goto 4, 3) := by decide +kernel
theorem dX10_areTwo_25 : decode cX10_areTwo 25 = .ok (.iconst 0, 1) := by decide +kernel
theorem dX10_areTwo_26 : decode cX10_areTwo 26 = .ok (.ireturn, 1) := by decide +kernel
theorem hd_X10_areTwo : yX10_areTwo.cls = xCn 10 ∧ yX10_areTwo.cls ≠ "java/lang/invoke/MethodHandle" ∧ yX10_areTwo.cls ≠ "java/lang/invoke/VarHandle" ∧ (parseMethodDescriptor yX10_areTwo.desc).map (fun d => d.parameters.length) = some 2 := by decide +kernel
def k_X10_areTwo_26 (sh : List xSh) (y0 : Int32) (d : xD) : Option (Int32 × xD) :=
  (xz y0).bind fun v1 => some (v1, d)
def k_X10_areTwo_25 (sh : List xSh) (d : xD) : Option (Int32 × xD) :=
  k_X10_areTwo_26 sh (0 : Int32) d
def f_X10_areTwo (sh : List xSh) (q0 : Nat) (x1 : Int32) (x2 : Int32) (d : xD) : Option (Int32 × xD) :=
  (xon 10 sh q0 (f_X10_isWalker sh q0 x1 d)).bind fun z2 => if z2.1 = 0 then (k_X10_areTwo_25 sh z2.2) else ((xon 10 sh q0 (f_X10_isWalker sh q0 x2 z2.2)).bind fun z3 => if z3.1 = 0 then (k_X10_areTwo_25 sh z3.2) else (if x1 = x2 then (k_X10_areTwo_25 sh z3.2) else (k_X10_areTwo_26 sh (1 : Int32) z3.2)))
set_option maxHeartbeats 4000000 in
set_option maxRecDepth 100000 in
theorem mt_X10_areTwo (l : Launch) (D : va_G) (cid : FieldType → ClassId) (b : Nat) (ex : Bool) (sa sv B0 : Nat) (sh : List xSh) (q0 : Nat) (x1 : Int32) (x2 : Int32) (d : xD) (r : Int32) (dz : xD) (hf : f_X10_areTwo sh q0 x1 x2 d = some (r, dz)) : xMet l yX10_areTwo cX10_areTwo 3 (some .boolean) 1 0 0 D cid b ex sa sv B0 [.ref (b + q0), .int x1, .int x2] sh d (some (.int r)) sh dz := by
  refine xMet.of (by decide) (Nat.le_of_ble_eq_true rfl) ?_
  intro p e s m below meth c ls A S hr hin G hl
  have hl : lv_has ls 3 [(0, .ref (b + q0)), (1, .int x1), (2, .int x2)] := hl
  generalize ([.ref (b + q0), .int x1, .int x2] : List Value).toArray = av at S ⊢
  have hx := S.1
  have hb := S.2.1
  have hml := S.2.2.1
  have hown := S.2.2.2.1
  have hts := S.2.2.2.2.1
  have K26 : ∀ (y0 : Int32) (d : xD), k_X10_areTwo_26 sh y0 d = some (r, dz) → ∀ (H : Heap) (locs : List Loc) (ls : Array Slot), lv_has ls 3 [] → xG D cid b A sh d s H locs → W p l e (xRm 1 0 0) s m av below meth c H locs 0 0 (MQ below (xQ D cid b ex A (some (.int r)) sh dz) av s 0 0 A) (F0 m 26 ls [.int y0]) := by
    intro y0 d hf H locs ls hl G
    unfold k_X10_areTwo_26 at hf
    obtain ⟨v1, hv1, hf⟩ := x_ob hf
    cases hf
    exact xr_zret S G (fun _ => rfl) hr hv1 dX10_areTwo_26
  have K25 : ∀ (d : xD), k_X10_areTwo_25 sh d = some (r, dz) → ∀ (H : Heap) (locs : List Loc) (ls : Array Slot), lv_has ls 3 [] → xG D cid b A sh d s H locs → W p l e (xRm 1 0 0) s m av below meth c H locs 0 0 (MQ below (xQ D cid b ex A (some (.int r)) sh dz) av s 0 0 A) (F0 m 25 ls []) := by
    intro d hf H locs ls hl G
    unfold k_X10_areTwo_25 at hf
    refine lv_iconst (v := (0 : Int32)) hx hb dX10_areTwo_25 (by decide) ?_
    exact K26 (0 : Int32) d hf _ _ ls (lv_sub hl [] rfl) G
  unfold f_X10_areTwo at hf
  refine lv_aload_n hx hb dX10_areTwo_0 rfl (lv_at hl 0 rfl) ?_
  refine lv_iload_n hx hb dX10_areTwo_1 rfl (lv_at hl 1 rfl) ?_
  obtain ⟨z2, hz2, hf⟩ := x_ob hf
  obtain ⟨hqz2, hz2⟩ := xon_of hz2
  refine xr_callV (ci := 10) (As := [.int x1]) (rest := []) (st1 := [.int z2.1]) S G hl.1 (fun _ => rfl) (mt_X10_isWalker l D cid b ex sa sv B0 sh q0 x1 d _ _ hz2) hqz2 (by decide) kw_1504 kw_1506 ks_62 kw_17 kw_1507 hd_X10_isWalker ⟨Nat.le_of_ble_eq_true rfl, Nat.le_of_ble_eq_true rfl⟩ rfl rfl rfl (Nat.le_of_ble_eq_true rfl) ⟨Nat.le_of_ble_eq_true rfl, Nat.le_of_ble_eq_true rfl⟩ dX10_areTwo_2 (fun H locs G => ?_)
  refine lv_if_eq (tgt := 25) hx hb dX10_areTwo_5 (by decide) (fun c => ?_) (fun c => ?_)
  · have hf := x_pos c hf
    exact K25 z2.2 hf _ _ ls (lv_sub hl [] rfl) G
  · have hf := x_neg c hf
    refine lv_aload_n hx hb dX10_areTwo_8 rfl (lv_at hl 0 rfl) ?_
    refine lv_iload_n hx hb dX10_areTwo_9 rfl (lv_at hl 2 rfl) ?_
    obtain ⟨z3, hz3, hf⟩ := x_ob hf
    obtain ⟨hqz3, hz3⟩ := xon_of hz3
    refine xr_callV (ci := 10) (As := [.int x2]) (rest := []) (st1 := [.int z3.1]) S G hl.1 (fun _ => rfl) (mt_X10_isWalker l D cid b ex sa sv B0 sh q0 x2 z2.2 _ _ hz3) hqz3 (by decide) kw_1504 kw_1506 ks_62 kw_17 kw_1507 hd_X10_isWalker ⟨Nat.le_of_ble_eq_true rfl, Nat.le_of_ble_eq_true rfl⟩ rfl rfl rfl (Nat.le_of_ble_eq_true rfl) ⟨Nat.le_of_ble_eq_true rfl, Nat.le_of_ble_eq_true rfl⟩ dX10_areTwo_10 (fun H locs G => ?_)
    refine lv_if_eq (tgt := 25) hx hb dX10_areTwo_13 (by decide) (fun c => ?_) (fun c => ?_)
    · have hf := x_pos c hf
      exact K25 z3.2 hf _ _ ls (lv_sub hl [] rfl) G
    · have hf := x_neg c hf
      refine lv_iload_n hx hb dX10_areTwo_16 rfl (lv_at hl 1 rfl) ?_
      refine lv_iload_n hx hb dX10_areTwo_17 rfl (lv_at hl 2 rfl) ?_
      refine lv_icmp_eq (tgt := 25) hx hb dX10_areTwo_18 (by decide) (fun c => ?_) (fun c => ?_)
      · have hf := x_pos c hf
        exact K25 z3.2 hf _ _ ls (lv_sub hl [] rfl) G
      · have hf := x_neg c hf
        refine lv_iconst (v := (1 : Int32)) hx hb dX10_areTwo_21 (by decide) ?_
        refine lv_goto (tgt := 26) hx hb dX10_areTwo_22 (by decide) ?_
        exact K26 (1 : Int32) z3.2 hf _ _ ls (lv_sub hl [] rfl) G
-- HalfLandingsModel.meet(II)I
theorem dX10_meet_0 : decode cX10_meet 0 = .ok (.aload_n 0, 1) := by decide +kernel
theorem dX10_meet_1 : decode cX10_meet 1 = .ok (.iconst 0, 1) := by decide +kernel
theorem dX10_meet_2 : decode cX10_meet 2 = .ok (.putfield 145, 3) := by decide +kernel
theorem dX10_meet_5 : decode cX10_meet 5 = .ok (.aload_n 0, 1) := by decide +kernel
theorem dX10_meet_6 : decode cX10_meet 6 = .ok (.iload_n 1, 1) := by decide +kernel
theorem dX10_meet_7 : decode cX10_meet 7 = .ok (.iload_n 2, 1) := by decide +kernel
theorem dX10_meet_8 : decode cX10_meet 8 = .ok (.invokevirtual 448, 3) := by decide +kernel
theorem dX10_meet_11 : decode cX10_meet 11 = .ok (.ifCond .ne 5, 3) := by decide +kernel
theorem dX10_meet_14 : decode cX10_meet 14 = .ok (.iconst (-1), 1) := by decide +kernel
theorem dX10_meet_15 : decode cX10_meet 15 = .ok (.ireturn, 1) := by decide +kernel
theorem dX10_meet_16 : decode cX10_meet 16 = .ok (.aload_n 0, 1) := by decide +kernel
theorem dX10_meet_17 : decode cX10_meet 17 = .ok (.iconst 1, 1) := by decide +kernel
theorem dX10_meet_18 : decode cX10_meet 18 = .ok (.iconst 0, 1) := by decide +kernel
theorem dX10_meet_19 : decode cX10_meet 19 = .ok (.invokevirtual 413, 3) := by decide +kernel
theorem dX10_meet_22 : decode cX10_meet 22 = .ok (.iconst 1, 1) := by decide +kernel
theorem dX10_meet_23 : decode cX10_meet 23 = .ok (.istore_n 3, 1) := by decide +kernel
theorem dX10_meet_24 : decode cX10_meet 24 = .ok (.iload_n 3, 1) := by decide +kernel
theorem dX10_meet_25 : decode cX10_meet 25 = .ok (.sipush 199, 3) := by decide +kernel
theorem dX10_meet_28 : decode cX10_meet 28 = .ok (.if_icmp .gt 44, 3) := by decide +kernel
theorem dX10_meet_31 : decode cX10_meet 31 = .ok (.aload_n 0, 1) := by decide +kernel
theorem dX10_meet_32 : decode cX10_meet 32 = .ok (.getfield 105, 3) := by decide +kernel
theorem dX10_meet_35 : decode cX10_meet 35 = .ok (.bipush 6, 2) := by decide +kernel
theorem dX10_meet_37 : decode cX10_meet 37 = .ok (.iload_n 1, 1) := by decide +kernel
theorem dX10_meet_38 : decode cX10_meet 38 = .ok (.iadd, 1) := by decide +kernel
theorem dX10_meet_39 : decode cX10_meet 39 = .ok (.iconst 0, 1) := by decide +kernel
theorem dX10_meet_40 : decode cX10_meet 40 = .ok (.iastore, 1) := by decide +kernel
theorem dX10_meet_41 : decode cX10_meet 41 = .ok (.aload_n 0, 1) := by decide +kernel
theorem dX10_meet_42 : decode cX10_meet 42 = .ok (.iconst 1, 1) := by decide +kernel
theorem dX10_meet_43 : decode cX10_meet 43 = .ok (.iconst 0, 1) := by decide +kernel
theorem dX10_meet_44 : decode cX10_meet 44 = .ok (.invokevirtual 409, 3) := by decide +kernel
theorem dX10_meet_47 : decode cX10_meet 47 = .ok (.aload_n 0, 1) := by decide +kernel
theorem dX10_meet_48 : decode cX10_meet 48 = .ok (.getfield 105, 3) := by decide +kernel
theorem dX10_meet_51 : decode cX10_meet 51 = .ok (.bipush 6, 2) := by decide +kernel
theorem dX10_meet_53 : decode cX10_meet 53 = .ok (.iload_n 1, 1) := by decide +kernel
theorem dX10_meet_54 : decode cX10_meet 54 = .ok (.iadd, 1) := by decide +kernel
theorem dX10_meet_55 : decode cX10_meet 55 = .ok (.iaload, 1) := by decide +kernel
theorem dX10_meet_56 : decode cX10_meet 56 = .ok (.iload_n 2, 1) := by decide +kernel
theorem dX10_meet_57 : decode cX10_meet 57 = .ok (.ishr, 1) := by decide +kernel
theorem dX10_meet_58 : decode cX10_meet 58 = .ok (.iconst 1, 1) := by decide +kernel
theorem dX10_meet_59 : decode cX10_meet 59 = .ok (.iand, 1) := by decide +kernel
theorem dX10_meet_60 : decode cX10_meet 60 = .ok (.iconst 1, 1) := by decide +kernel
theorem dX10_meet_61 : decode cX10_meet 61 = .ok (.if_icmp .ne 5, 3) := by decide +kernel
theorem dX10_meet_64 : decode cX10_meet 64 = .ok (.iload_n 3, 1) := by decide +kernel
theorem dX10_meet_65 : decode cX10_meet 65 = .ok (.ireturn, 1) := by decide +kernel
theorem dX10_meet_66 : decode cX10_meet 66 = .ok (.iinc 3 1, 3) := by decide +kernel
theorem dX10_meet_69 : decode cX10_meet 69 = .ok (.goto (-45), 3) := by decide +kernel
theorem dX10_meet_72 : decode cX10_meet 72 = .ok (.bipush (-2), 2) := by decide +kernel
theorem dX10_meet_74 : decode cX10_meet 74 = .ok (.ireturn, 1) := by decide +kernel
theorem hd_X10_meet : yX10_meet.cls = xCn 10 ∧ yX10_meet.cls ≠ "java/lang/invoke/MethodHandle" ∧ yX10_meet.cls ≠ "java/lang/invoke/VarHandle" ∧ (parseMethodDescriptor yX10_meet.desc).map (fun d => d.parameters.length) = some 2 := by decide +kernel
def k_X10_meet_72 (sh : List xSh) (d : xD) : Option (Int32 × xD) :=
  some ((-2 : Int32), d)
def k_X10_meet_64 (sh : List xSh) (x3 : Int32) (d : xD) : Option (Int32 × xD) :=
  some (x3, d)
def b_X10_meet_24 (sh : List xSh) (rec24 : Nat → Int32 → Int32 → Int32 → xD → Option (Int32 × xD)) (q0 : Nat) (x1 : Int32) (x2 : Int32) (x3 : Int32) (d : xD) : Option (Int32 × xD) :=
  if (199 : Int32) < x3 then (k_X10_meet_72 sh d) else ((xgR 10 sh d q0 46).bind fun v1 => (xsI .int sh d v1 ((6 : Int32) + x1) (0 : Int32)).bind fun d2 => (xon 10 sh q0 (f_X10_passes sh q0 (1 : Int32) (0 : Int32) d2)).bind fun d3 => (xgR 10 sh d3 q0 46).bind fun v4 => (xaI .int sh d3 v4 ((6 : Int32) + x1)).bind fun v5 => if ((v5 >>> (x2 &&& 31)) &&& (1 : Int32)) = (1 : Int32) then (k_X10_meet_64 sh x3 d3) else (rec24 q0 x1 x2 (x3 + 1) d3))
def f_X10_meet (sh : List xSh) (q0 : Nat) (x1 : Int32) (x2 : Int32) (d : xD) : Option (Int32 × xD) :=
  (xpI 10 sh d q0 0 (0 : Int32)).bind fun d6 => (xon 10 sh q0 (f_X10_areTwo sh q0 x1 x2 d6)).bind fun z7 => if z7.1 = 0 then (some ((-1 : Int32), z7.2)) else ((xon 10 sh q0 (f_X10_copies sh q0 (1 : Int32) (0 : Int32) z7.2)).bind fun d8 => xloop (fun _ _ _ _ _ => none) (b_X10_meet_24 sh) xF q0 x1 x2 (1 : Int32) d8)
set_option maxHeartbeats 4000000 in
set_option maxRecDepth 100000 in
theorem mt_X10_meet (l : Launch) (D : va_G) (cid : FieldType → ClassId) (b : Nat) (ex : Bool) (sa sv B0 : Nat) (sh : List xSh) (q0 : Nat) (x1 : Int32) (x2 : Int32) (d : xD) (r : Int32) (dz : xD) (hf : f_X10_meet sh q0 x1 x2 d = some (r, dz)) : xMet l yX10_meet cX10_meet 4 (some .int) 6 0 0 D cid b ex sa sv B0 [.ref (b + q0), .int x1, .int x2] sh d (some (.int r)) sh dz := by
  refine xMet.of (by decide) (Nat.le_of_ble_eq_true rfl) ?_
  intro p e s m below meth c ls A S hr hin G hl
  have hl : lv_has ls 4 [(0, .ref (b + q0)), (1, .int x1), (2, .int x2)] := hl
  generalize ([.ref (b + q0), .int x1, .int x2] : List Value).toArray = av at S ⊢
  have hx := S.1
  have hb := S.2.1
  have hml := S.2.2.1
  have hown := S.2.2.2.1
  have hts := S.2.2.2.2.1
  have K72 : ∀ (d : xD), k_X10_meet_72 sh d = some (r, dz) → ∀ (H : Heap) (locs : List Loc) (ls : Array Slot), lv_has ls 4 [] → xG D cid b A sh d s H locs → W p l e (xRm 6 0 0) s m av below meth c H locs 0 0 (MQ below (xQ D cid b ex A (some (.int r)) sh dz) av s 0 0 A) (F0 m 72 ls []) := by
    intro d hf H locs ls hl G
    unfold k_X10_meet_72 at hf
    refine lv_bipush (v := (-2 : Int32)) hx hb dX10_meet_72 (by decide) ?_
    cases hf
    exact xr_iret S G (fun _ => rfl) hr dX10_meet_74
  have K64 : ∀ (x3 : Int32) (d : xD), k_X10_meet_64 sh x3 d = some (r, dz) → ∀ (H : Heap) (locs : List Loc) (ls : Array Slot), lv_has ls 4 [(3, .int x3)] → xG D cid b A sh d s H locs → W p l e (xRm 6 0 0) s m av below meth c H locs 0 0 (MQ below (xQ D cid b ex A (some (.int r)) sh dz) av s 0 0 A) (F0 m 64 ls []) := by
    intro x3 d hf H locs ls hl G
    unfold k_X10_meet_64 at hf
    refine lv_iload_n hx hb dX10_meet_64 rfl (lv_at hl 0 rfl) ?_
    cases hf
    exact xr_iret S G (fun _ => rfl) hr dX10_meet_65
  have K24 : ∀ (n : Nat) (q0 : Nat) (x1 : Int32) (x2 : Int32) (x3 : Int32) (d : xD), xloop (fun _ _ _ _ _ => none) (b_X10_meet_24 sh) n q0 x1 x2 x3 d = some (r, dz) → ∀ (H : Heap) (locs : List Loc) (ls : Array Slot), lv_has ls 4 [(0, .ref (b + q0)), (1, .int x1), (2, .int x2), (3, .int x3)] → xG D cid b A sh d s H locs → W p l e (xRm 6 0 0) s m av below meth c H locs 0 0 (MQ below (xQ D cid b ex A (some (.int r)) sh dz) av s 0 0 A) (F0 m 24 ls []) := by
    intro n
    induction n with
    | zero =>
      intro q0 x1 x2 x3 d hf
      have hf : (none : Option (Int32 × xD)) = some (r, dz) := hf
      cases hf
    | succ n hrec24 =>
      intro q0 x1 x2 x3 d hf H locs ls hl G
      have hf : b_X10_meet_24 sh (xloop (fun _ _ _ _ _ => none) (b_X10_meet_24 sh) n) q0 x1 x2 x3 d = some (r, dz) := hf
      unfold b_X10_meet_24 at hf
      refine lv_iload_n hx hb dX10_meet_24 rfl (lv_at hl 3 rfl) ?_
      refine lv_sipush (v := (199 : Int32)) hx hb dX10_meet_25 (by decide) ?_
      refine lv_icmp_gt (tgt := 72) hx hb dX10_meet_28 (by decide) (fun c => ?_) (fun c => ?_)
      · have hf := x_pos c hf
        exact K72 d hf _ _ ls (lv_sub hl [] rfl) G
      · have hf := x_neg c hf
        refine lv_aload_n hx hb dX10_meet_31 rfl (lv_at hl 0 rfl) ?_
        obtain ⟨v1, hv1, hf⟩ := x_ob hf
        refine xr_getR (ci := 10) (k := 46) S G hv1 rfl kw_1214 dX10_meet_32 ?_
        refine lv_bipush (v := (6 : Int32)) hx hb dX10_meet_35 (by decide) ?_
        refine lv_iload_n hx hb dX10_meet_37 rfl (lv_at hl 1 rfl) ?_
        refine lv_iadd hx hb dX10_meet_38 ?_
        refine lv_iconst (v := (0 : Int32)) hx hb dX10_meet_39 (by decide) ?_
        obtain ⟨d2, hd2, hf⟩ := x_ob hf
        refine xr_iast S G hd2 dX10_meet_40 (fun H locs G => ?_)
        refine lv_aload_n hx hb dX10_meet_41 rfl (lv_at hl 0 rfl) ?_
        refine lv_iconst (v := (1 : Int32)) hx hb dX10_meet_42 (by decide) ?_
        refine lv_iconst (v := (0 : Int32)) hx hb dX10_meet_43 (by decide) ?_
        obtain ⟨d3, hd3, hf⟩ := x_ob hf
        obtain ⟨hqd3, hd3⟩ := xon_of hd3
        refine xr_callV (ci := 10) (As := [.int (1 : Int32), .int (0 : Int32)]) (rest := []) (st1 := []) S G hl.1 (fun _ => rfl) (mt_X10_passes l D cid b ex sa sv B0 sh q0 (1 : Int32) (0 : Int32) d2 _ hd3) hqd3 (by decide) kw_1616 kw_1618 ks_79 kw_17 kw_1619 hd_X10_passes ⟨Nat.le_of_ble_eq_true rfl, Nat.le_of_ble_eq_true rfl⟩ rfl rfl rfl (Nat.le_of_ble_eq_true rfl) ⟨Nat.le_of_ble_eq_true rfl, Nat.le_of_ble_eq_true rfl⟩ dX10_meet_44 (fun H locs G => ?_)
        refine lv_aload_n hx hb dX10_meet_47 rfl (lv_at hl 0 rfl) ?_
        obtain ⟨v4, hv4, hf⟩ := x_ob hf
        refine xr_getR (ci := 10) (k := 46) S G hv4 rfl kw_1214 dX10_meet_48 ?_
        refine lv_bipush (v := (6 : Int32)) hx hb dX10_meet_51 (by decide) ?_
        refine lv_iload_n hx hb dX10_meet_53 rfl (lv_at hl 1 rfl) ?_
        refine lv_iadd hx hb dX10_meet_54 ?_
        obtain ⟨v5, hv5, hf⟩ := x_ob hf
        refine xr_iald S G hv5 dX10_meet_55 ?_
        refine lv_iload_n hx hb dX10_meet_56 rfl (lv_at hl 2 rfl) ?_
        refine lv_ishr hx hb dX10_meet_57 ?_
        refine lv_iconst (v := (1 : Int32)) hx hb dX10_meet_58 (by decide) ?_
        refine lv_iand hx hb dX10_meet_59 ?_
        refine lv_iconst (v := (1 : Int32)) hx hb dX10_meet_60 (by decide) ?_
        refine lv_icmp_ne (tgt := 66) hx hb dX10_meet_61 (by decide) (fun c => ?_) (fun c => ?_)
        · have hf := x_neg c hf
          refine lv_iinc (v := (x3 + 1)) (lv' := [(3, .int (x3 + 1)), (0, .ref (b + q0)), (1, .int x1), (2, .int x2)]) hx hb dX10_meet_66 hl (k := 3) rfl rfl (by decide) rfl (fun ls hl => ?_)
          refine lv_goto (tgt := 24) hx hb dX10_meet_69 (by decide) ?_
          exact hrec24 q0 x1 x2 (x3 + 1) d3 hf _ _ ls (lv_sub hl [1, 2, 3, 0] rfl) G
        · have hf := x_pos c hf
          exact K64 x3 d3 hf _ _ ls (lv_sub hl [3] rfl) G
  unfold f_X10_meet at hf
  refine lv_aload_n hx hb dX10_meet_0 rfl (lv_at hl 0 rfl) ?_
  refine lv_iconst (v := (0 : Int32)) hx hb dX10_meet_1 (by decide) ?_
  obtain ⟨d6, hd6, hf⟩ := x_ob hf
  refine xr_putI (ci := 10) (k := 0) S G hd6 rfl kw_1168 dX10_meet_2 (fun H locs G => ?_)
  refine lv_aload_n hx hb dX10_meet_5 rfl (lv_at hl 0 rfl) ?_
  refine lv_iload_n hx hb dX10_meet_6 rfl (lv_at hl 1 rfl) ?_
  refine lv_iload_n hx hb dX10_meet_7 rfl (lv_at hl 2 rfl) ?_
  obtain ⟨z7, hz7, hf⟩ := x_ob hf
  obtain ⟨hqz7, hz7⟩ := xon_of hz7
  refine xr_callV (ci := 10) (As := [.int x1, .int x2]) (rest := []) (st1 := [.int z7.1]) S G hl.1 (fun _ => rfl) (mt_X10_areTwo l D cid b ex sa sv B0 sh q0 x1 x2 d6 _ _ hz7) hqz7 (by decide) kw_1673 kw_1675 ks_90 kw_17 kw_1676 hd_X10_areTwo ⟨Nat.le_of_ble_eq_true rfl, Nat.le_of_ble_eq_true rfl⟩ rfl rfl rfl (Nat.le_of_ble_eq_true rfl) ⟨Nat.le_of_ble_eq_true rfl, Nat.le_of_ble_eq_true rfl⟩ dX10_meet_8 (fun H locs G => ?_)
  refine lv_if_ne (tgt := 16) hx hb dX10_meet_11 (by decide) (fun c => ?_) (fun c => ?_)
  · have hf := x_neg c hf
    refine lv_aload_n hx hb dX10_meet_16 rfl (lv_at hl 0 rfl) ?_
    refine lv_iconst (v := (1 : Int32)) hx hb dX10_meet_17 (by decide) ?_
    refine lv_iconst (v := (0 : Int32)) hx hb dX10_meet_18 (by decide) ?_
    obtain ⟨d8, hd8, hf⟩ := x_ob hf
    obtain ⟨hqd8, hd8⟩ := xon_of hd8
    refine xr_callV (ci := 10) (As := [.int (1 : Int32), .int (0 : Int32)]) (rest := []) (st1 := []) S G hl.1 (fun _ => rfl) (mt_X10_copies l D cid b ex sa sv B0 sh q0 (1 : Int32) (0 : Int32) z7.2 _ hd8) hqd8 (by decide) kw_1580 kw_1582 ks_73 kw_17 kw_1583 hd_X10_copies ⟨Nat.le_of_ble_eq_true rfl, Nat.le_of_ble_eq_true rfl⟩ rfl rfl rfl (Nat.le_of_ble_eq_true rfl) ⟨Nat.le_of_ble_eq_true rfl, Nat.le_of_ble_eq_true rfl⟩ dX10_meet_19 (fun H locs G => ?_)
    refine lv_iconst (v := (1 : Int32)) hx hb dX10_meet_22 (by decide) ?_
    refine lv_istore_n (lv' := [(3, .int (1 : Int32)), (0, .ref (b + q0)), (1, .int x1), (2, .int x2)]) hx hb dX10_meet_23 rfl hl (by decide) rfl (fun ls hl => ?_)
    exact K24 xF q0 x1 x2 (1 : Int32) d8 hf _ _ ls (lv_sub hl [1, 2, 3, 0] rfl) G
  · have hf := x_pos c hf
    refine lv_iconst (v := (-1 : Int32)) hx hb dX10_meet_14 (by decide) ?_
    cases hf
    exact xr_iret S G (fun _ => rfl) hr dX10_meet_15
-- HalfLandingsModel.aboveOf(II)I
theorem dX10_aboveOf_0 : decode cX10_aboveOf 0 = .ok (.aload_n 0, 1) := by decide +kernel
theorem dX10_aboveOf_1 : decode cX10_aboveOf 1 = .ok (.iconst 1, 1) := by decide +kernel
theorem dX10_aboveOf_2 : decode cX10_aboveOf 2 = .ok (.iload_n 1, 1) := by decide +kernel
theorem dX10_aboveOf_3 : decode cX10_aboveOf 3 = .ok (.invokevirtual 432, 3) := by decide +kernel
theorem dX10_aboveOf_6 : decode cX10_aboveOf 6 = .ok (.ifCond .eq 12, 3) := by decide +kernel
theorem dX10_aboveOf_9 : decode cX10_aboveOf 9 = .ok (.aload_n 0, 1) := by decide +kernel
theorem dX10_aboveOf_10 : decode cX10_aboveOf 10 = .ok (.iconst 1, 1) := by decide +kernel
theorem dX10_aboveOf_11 : decode cX10_aboveOf 11 = .ok (.iload_n 2, 1) := by decide +kernel
theorem dX10_aboveOf_12 : decode cX10_aboveOf 12 = .ok (.invokevirtual 432, 3) := by decide +kernel
theorem dX10_aboveOf_15 : decode cX10_aboveOf 15 = .ok (.ifCond .ne 5, 3) := by decide +kernel
theorem dX10_aboveOf_18 : decode cX10_aboveOf 18 = .ok (.iconst 0, 1) := by decide +kernel
theorem dX10_aboveOf_19 : decode cX10_aboveOf 19 = .ok (.ireturn, 1) := by decide +kernel
theorem dX10_aboveOf_20 : decode cX10_aboveOf 20 = .ok (.aload_n 0, 1) := by decide +kernel
theorem dX10_aboveOf_21 : decode cX10_aboveOf 21 = .ok (.getfield 90, 3) := by decide +kernel
theorem dX10_aboveOf_24 : decode cX10_aboveOf 24 = .ok (.bipush 6, 2) := by decide +kernel
theorem dX10_aboveOf_26 : decode cX10_aboveOf 26 = .ok (.iload_n 1, 1) := by decide +kernel
theorem dX10_aboveOf_27 : decode cX10_aboveOf 27 = .ok (.iadd, 1) := by decide +kernel
theorem dX10_aboveOf_28 : decode cX10_aboveOf 28 = .ok (.iaload, 1) := by decide +kernel
theorem dX10_aboveOf_29 : decode cX10_aboveOf 29 = .ok (.aload_n 0, 1) := by decide +kernel
theorem dX10_aboveOf_30 : decode cX10_aboveOf 30 = .ok (.getfield 90, 3) := by decide +kernel
theorem dX10_aboveOf_33 : decode cX10_aboveOf 33 = .ok (.bipush 6, 2) := by decide +kernel
theorem dX10_aboveOf_35 : decode cX10_aboveOf 35 = .ok (.iload_n 2, 1) := by decide +kernel
theorem dX10_aboveOf_36 : decode cX10_aboveOf 36 = .ok (.iadd, 1) := by decide +kernel
theorem dX10_aboveOf_37 : decode cX10_aboveOf 37 = .ok (.iaload, 1) := by decide +kernel
theorem dX10_aboveOf_38 : decode cX10_aboveOf 38 = .ok (.isub, 1) := by decide +kernel
theorem dX10_aboveOf_39 : decode cX10_aboveOf 39 = .ok (.ireturn, 1) := by decide +kernel
theorem hd_X10_aboveOf : yX10_aboveOf.cls = xCn 10 ∧ yX10_aboveOf.cls ≠ "java/lang/invoke/MethodHandle" ∧ yX10_aboveOf.cls ≠ "java/lang/invoke/VarHandle" ∧ (parseMethodDescriptor yX10_aboveOf.desc).map (fun d => d.parameters.length) = some 2 := by decide +kernel
def k_X10_aboveOf_18 (sh : List xSh) (d : xD) : Option (Int32 × xD) :=
  some ((0 : Int32), d)
def f_X10_aboveOf (sh : List xSh) (q0 : Nat) (x1 : Int32) (x2 : Int32) (d : xD) : Option (Int32 × xD) :=
  (xon 10 sh q0 (f_X10_isThere sh q0 (1 : Int32) x1 d)).bind fun z1 => if z1.1 = 0 then (k_X10_aboveOf_18 sh z1.2) else ((xon 10 sh q0 (f_X10_isThere sh q0 (1 : Int32) x2 z1.2)).bind fun z2 => if z2.1 = 0 then (k_X10_aboveOf_18 sh z2.2) else ((xgR 10 sh z2.2 q0 41).bind fun v3 => (xaI .int sh z2.2 v3 ((6 : Int32) + x1)).bind fun v4 => (xgR 10 sh z2.2 q0 41).bind fun v5 => (xaI .int sh z2.2 v5 ((6 : Int32) + x2)).bind fun v6 => some ((v4 - v6), z2.2)))
set_option maxHeartbeats 4000000 in
set_option maxRecDepth 100000 in
theorem mt_X10_aboveOf (l : Launch) (D : va_G) (cid : FieldType → ClassId) (b : Nat) (ex : Bool) (sa sv B0 : Nat) (sh : List xSh) (q0 : Nat) (x1 : Int32) (x2 : Int32) (d : xD) (r : Int32) (dz : xD) (hf : f_X10_aboveOf sh q0 x1 x2 d = some (r, dz)) : xMet l yX10_aboveOf cX10_aboveOf 3 (some .int) 1 0 0 D cid b ex sa sv B0 [.ref (b + q0), .int x1, .int x2] sh d (some (.int r)) sh dz := by
  refine xMet.of (by decide) (Nat.le_of_ble_eq_true rfl) ?_
  intro p e s m below meth c ls A S hr hin G hl
  have hl : lv_has ls 3 [(0, .ref (b + q0)), (1, .int x1), (2, .int x2)] := hl
  generalize ([.ref (b + q0), .int x1, .int x2] : List Value).toArray = av at S ⊢
  have hx := S.1
  have hb := S.2.1
  have hml := S.2.2.1
  have hown := S.2.2.2.1
  have hts := S.2.2.2.2.1
  have K18 : ∀ (d : xD), k_X10_aboveOf_18 sh d = some (r, dz) → ∀ (H : Heap) (locs : List Loc) (ls : Array Slot), lv_has ls 3 [] → xG D cid b A sh d s H locs → W p l e (xRm 1 0 0) s m av below meth c H locs 0 0 (MQ below (xQ D cid b ex A (some (.int r)) sh dz) av s 0 0 A) (F0 m 18 ls []) := by
    intro d hf H locs ls hl G
    unfold k_X10_aboveOf_18 at hf
    refine lv_iconst (v := (0 : Int32)) hx hb dX10_aboveOf_18 (by decide) ?_
    cases hf
    exact xr_iret S G (fun _ => rfl) hr dX10_aboveOf_19
  unfold f_X10_aboveOf at hf
  refine lv_aload_n hx hb dX10_aboveOf_0 rfl (lv_at hl 0 rfl) ?_
  refine lv_iconst (v := (1 : Int32)) hx hb dX10_aboveOf_1 (by decide) ?_
  refine lv_iload_n hx hb dX10_aboveOf_2 rfl (lv_at hl 1 rfl) ?_
  obtain ⟨z1, hz1, hf⟩ := x_ob hf
  obtain ⟨hqz1, hz1⟩ := xon_of hz1
  refine xr_callV (ci := 10) (As := [.int (1 : Int32), .int x1]) (rest := []) (st1 := [.int z1.1]) S G hl.1 (fun _ => rfl) (mt_X10_isThere l D cid b ex sa sv B0 sh q0 (1 : Int32) x1 d _ _ hz1) hqz1 (by decide) kw_1608 kw_1610 ks_78 kw_17 kw_1611 hd_X10_isThere ⟨Nat.le_of_ble_eq_true rfl, Nat.le_of_ble_eq_true rfl⟩ rfl rfl rfl (Nat.le_of_ble_eq_true rfl) ⟨Nat.le_of_ble_eq_true rfl, Nat.le_of_ble_eq_true rfl⟩ dX10_aboveOf_3 (fun H locs G => ?_)
  refine lv_if_eq (tgt := 18) hx hb dX10_aboveOf_6 (by decide) (fun c => ?_) (fun c => ?_)
  · have hf := x_pos c hf
    exact K18 z1.2 hf _ _ ls (lv_sub hl [] rfl) G
  · have hf := x_neg c hf
    refine lv_aload_n hx hb dX10_aboveOf_9 rfl (lv_at hl 0 rfl) ?_
    refine lv_iconst (v := (1 : Int32)) hx hb dX10_aboveOf_10 (by decide) ?_
    refine lv_iload_n hx hb dX10_aboveOf_11 rfl (lv_at hl 2 rfl) ?_
    obtain ⟨z2, hz2, hf⟩ := x_ob hf
    obtain ⟨hqz2, hz2⟩ := xon_of hz2
    refine xr_callV (ci := 10) (As := [.int (1 : Int32), .int x2]) (rest := []) (st1 := [.int z2.1]) S G hl.1 (fun _ => rfl) (mt_X10_isThere l D cid b ex sa sv B0 sh q0 (1 : Int32) x2 z1.2 _ _ hz2) hqz2 (by decide) kw_1608 kw_1610 ks_78 kw_17 kw_1611 hd_X10_isThere ⟨Nat.le_of_ble_eq_true rfl, Nat.le_of_ble_eq_true rfl⟩ rfl rfl rfl (Nat.le_of_ble_eq_true rfl) ⟨Nat.le_of_ble_eq_true rfl, Nat.le_of_ble_eq_true rfl⟩ dX10_aboveOf_12 (fun H locs G => ?_)
    refine lv_if_ne (tgt := 20) hx hb dX10_aboveOf_15 (by decide) (fun c => ?_) (fun c => ?_)
    · have hf := x_neg c hf
      refine lv_aload_n hx hb dX10_aboveOf_20 rfl (lv_at hl 0 rfl) ?_
      obtain ⟨v3, hv3, hf⟩ := x_ob hf
      refine xr_getR (ci := 10) (k := 41) S G hv3 rfl kw_1209 dX10_aboveOf_21 ?_
      refine lv_bipush (v := (6 : Int32)) hx hb dX10_aboveOf_24 (by decide) ?_
      refine lv_iload_n hx hb dX10_aboveOf_26 rfl (lv_at hl 1 rfl) ?_
      refine lv_iadd hx hb dX10_aboveOf_27 ?_
      obtain ⟨v4, hv4, hf⟩ := x_ob hf
      refine xr_iald S G hv4 dX10_aboveOf_28 ?_
      refine lv_aload_n hx hb dX10_aboveOf_29 rfl (lv_at hl 0 rfl) ?_
      obtain ⟨v5, hv5, hf⟩ := x_ob hf
      refine xr_getR (ci := 10) (k := 41) S G hv5 rfl kw_1209 dX10_aboveOf_30 ?_
      refine lv_bipush (v := (6 : Int32)) hx hb dX10_aboveOf_33 (by decide) ?_
      refine lv_iload_n hx hb dX10_aboveOf_35 rfl (lv_at hl 2 rfl) ?_
      refine lv_iadd hx hb dX10_aboveOf_36 ?_
      obtain ⟨v6, hv6, hf⟩ := x_ob hf
      refine xr_iald S G hv6 dX10_aboveOf_37 ?_
      refine lv_isub hx hb dX10_aboveOf_38 ?_
      cases hf
      exact xr_iret S G (fun _ => rfl) hr dX10_aboveOf_39
    · have hf := x_pos c hf
      exact K18 z2.2 hf _ _ ls (lv_sub hl [] rfl) G
-- HalfLandingsModel.pass(II)I
theorem dX10_pass_0 : decode cX10_pass 0 = .ok (.aload_n 0, 1) := by decide +kernel
theorem dX10_pass_1 : decode cX10_pass 1 = .ok (.iconst 0, 1) := by decide +kernel
theorem dX10_pass_2 : decode cX10_pass 2 = .ok (.putfield 145, 3) := by decide +kernel
theorem dX10_pass_5 : decode cX10_pass 5 = .ok (.aload_n 0, 1) := by decide +kernel
theorem dX10_pass_6 : decode cX10_pass 6 = .ok (.iload_n 1, 1) := by decide +kernel
theorem dX10_pass_7 : decode cX10_pass 7 = .ok (.iload_n 2, 1) := by decide +kernel
theorem dX10_pass_8 : decode cX10_pass 8 = .ok (.invokevirtual 448, 3) := by decide +kernel
theorem dX10_pass_11 : decode cX10_pass 11 = .ok (.ifCond .ne 5, 3) := by decide +kernel
theorem dX10_pass_14 : decode cX10_pass 14 = .ok (.iconst (-1), 1) := by decide +kernel
theorem dX10_pass_15 : decode cX10_pass 15 = .ok (.ireturn, 1) := by decide +kernel
theorem dX10_pass_16 : decode cX10_pass 16 = .ok (.aload_n 0, 1) := by decide +kernel
theorem dX10_pass_17 : decode cX10_pass 17 = .ok (.iconst 1, 1) := by decide +kernel
theorem dX10_pass_18 : decode cX10_pass 18 = .ok (.iconst 0, 1) := by decide +kernel
theorem dX10_pass_19 : decode cX10_pass 19 = .ok (.invokevirtual 413, 3) := by decide +kernel
theorem dX10_pass_22 : decode cX10_pass 22 = .ok (.iconst 1, 1) := by decide +kernel
theorem dX10_pass_23 : decode cX10_pass 23 = .ok (.istore_n 3, 1) := by decide +kernel
theorem dX10_pass_24 : decode cX10_pass 24 = .ok (.iload_n 3, 1) := by decide +kernel
theorem dX10_pass_25 : decode cX10_pass 25 = .ok (.sipush 199, 3) := by decide +kernel
theorem dX10_pass_28 : decode cX10_pass 28 = .ok (.if_icmp .gt 37, 3) := by decide +kernel
theorem dX10_pass_31 : decode cX10_pass 31 = .ok (.aload_n 0, 1) := by decide +kernel
theorem dX10_pass_32 : decode cX10_pass 32 = .ok (.iload_n 1, 1) := by decide +kernel
theorem dX10_pass_33 : decode cX10_pass 33 = .ok (.iload_n 2, 1) := by decide +kernel
theorem dX10_pass_34 : decode cX10_pass 34 = .ok (.invokevirtual 451, 3) := by decide +kernel
theorem dX10_pass_37 : decode cX10_pass 37 = .ok (.istore 4, 2) := by decide +kernel
theorem dX10_pass_39 : decode cX10_pass 39 = .ok (.aload_n 0, 1) := by decide +kernel
theorem dX10_pass_40 : decode cX10_pass 40 = .ok (.iconst 1, 1) := by decide +kernel
theorem dX10_pass_41 : decode cX10_pass 41 = .ok (.iconst 0, 1) := by decide +kernel
theorem dX10_pass_42 : decode cX10_pass 42 = .ok (.invokevirtual 409, 3) := by decide +kernel
theorem dX10_pass_45 : decode cX10_pass 45 = .ok (.iload 4, 2) := by decide +kernel
theorem dX10_pass_47 : decode cX10_pass 47 = .ok (.aload_n 0, 1) := by decide +kernel
theorem dX10_pass_48 : decode cX10_pass 48 = .ok (.iload_n 1, 1) := by decide +kernel
theorem dX10_pass_49 : decode cX10_pass 49 = .ok (.iload_n 2, 1) := by decide +kernel
theorem dX10_pass_50 : decode cX10_pass 50 = .ok (.invokevirtual 451, 3) := by decide +kernel
theorem dX10_pass_53 : decode cX10_pass 53 = .ok (.imul, 1) := by decide +kernel
theorem dX10_pass_54 : decode cX10_pass 54 = .ok (.ifCond .ge 5, 3) := by decide +kernel
theorem dX10_pass_57 : decode cX10_pass 57 = .ok (.iload_n 3, 1) := by decide +kernel
theorem dX10_pass_58 : decode cX10_pass 58 = .ok (.ireturn, 1) := by decide +kernel
theorem dX10_pass_59 : decode cX10_pass 59 = .ok (.iinc 3 1, 3) := by decide +kernel
theorem dX10_pass_62 : decode cX10_pass 62 = .ok (.goto (-38), 3) := by decide +kernel
theorem dX10_pass_65 : decode cX10_pass 65 = .ok (.bipush (-2), 2) := by decide +kernel
theorem dX10_pass_67 : decode cX10_pass 67 = .ok (.ireturn, 1) := by decide +kernel
theorem hd_X10_pass : yX10_pass.cls = xCn 10 ∧ yX10_pass.cls ≠ "java/lang/invoke/MethodHandle" ∧ yX10_pass.cls ≠ "java/lang/invoke/VarHandle" ∧ (parseMethodDescriptor yX10_pass.desc).map (fun d => d.parameters.length) = some 2 := by decide +kernel
def k_X10_pass_65 (sh : List xSh) (d : xD) : Option (Int32 × xD) :=
  some ((-2 : Int32), d)
def k_X10_pass_57 (sh : List xSh) (x3 : Int32) (d : xD) : Option (Int32 × xD) :=
  some (x3, d)
def b_X10_pass_24 (sh : List xSh) (rec24 : Nat → Int32 → Int32 → Int32 → xD → Option (Int32 × xD)) (q0 : Nat) (x1 : Int32) (x2 : Int32) (x3 : Int32) (d : xD) : Option (Int32 × xD) :=
  if (199 : Int32) < x3 then (k_X10_pass_65 sh d) else ((xon 10 sh q0 (f_X10_aboveOf sh q0 x1 x2 d)).bind fun z1 => (xon 10 sh q0 (f_X10_passes sh q0 (1 : Int32) (0 : Int32) z1.2)).bind fun d2 => (xon 10 sh q0 (f_X10_aboveOf sh q0 x1 x2 d2)).bind fun z3 => if 0 ≤ (z1.1 * z3.1) then (rec24 q0 x1 x2 (x3 + 1) z3.2) else (k_X10_pass_57 sh x3 z3.2))
def f_X10_pass (sh : List xSh) (q0 : Nat) (x1 : Int32) (x2 : Int32) (d : xD) : Option (Int32 × xD) :=
  (xpI 10 sh d q0 0 (0 : Int32)).bind fun d4 => (xon 10 sh q0 (f_X10_areTwo sh q0 x1 x2 d4)).bind fun z5 => if z5.1 = 0 then (some ((-1 : Int32), z5.2)) else ((xon 10 sh q0 (f_X10_copies sh q0 (1 : Int32) (0 : Int32) z5.2)).bind fun d6 => xloop (fun _ _ _ _ _ => none) (b_X10_pass_24 sh) xF q0 x1 x2 (1 : Int32) d6)
set_option maxHeartbeats 4000000 in
set_option maxRecDepth 100000 in
theorem mt_X10_pass (l : Launch) (D : va_G) (cid : FieldType → ClassId) (b : Nat) (ex : Bool) (sa sv B0 : Nat) (sh : List xSh) (q0 : Nat) (x1 : Int32) (x2 : Int32) (d : xD) (r : Int32) (dz : xD) (hf : f_X10_pass sh q0 x1 x2 d = some (r, dz)) : xMet l yX10_pass cX10_pass 5 (some .int) 6 0 0 D cid b ex sa sv B0 [.ref (b + q0), .int x1, .int x2] sh d (some (.int r)) sh dz := by
  refine xMet.of (by decide) (Nat.le_of_ble_eq_true rfl) ?_
  intro p e s m below meth c ls A S hr hin G hl
  have hl : lv_has ls 5 [(0, .ref (b + q0)), (1, .int x1), (2, .int x2)] := hl
  generalize ([.ref (b + q0), .int x1, .int x2] : List Value).toArray = av at S ⊢
  have hx := S.1
  have hb := S.2.1
  have hml := S.2.2.1
  have hown := S.2.2.2.1
  have hts := S.2.2.2.2.1
  have K65 : ∀ (d : xD), k_X10_pass_65 sh d = some (r, dz) → ∀ (H : Heap) (locs : List Loc) (ls : Array Slot), lv_has ls 5 [] → xG D cid b A sh d s H locs → W p l e (xRm 6 0 0) s m av below meth c H locs 0 0 (MQ below (xQ D cid b ex A (some (.int r)) sh dz) av s 0 0 A) (F0 m 65 ls []) := by
    intro d hf H locs ls hl G
    unfold k_X10_pass_65 at hf
    refine lv_bipush (v := (-2 : Int32)) hx hb dX10_pass_65 (by decide) ?_
    cases hf
    exact xr_iret S G (fun _ => rfl) hr dX10_pass_67
  have K57 : ∀ (x3 : Int32) (d : xD), k_X10_pass_57 sh x3 d = some (r, dz) → ∀ (H : Heap) (locs : List Loc) (ls : Array Slot), lv_has ls 5 [(3, .int x3)] → xG D cid b A sh d s H locs → W p l e (xRm 6 0 0) s m av below meth c H locs 0 0 (MQ below (xQ D cid b ex A (some (.int r)) sh dz) av s 0 0 A) (F0 m 57 ls []) := by
    intro x3 d hf H locs ls hl G
    unfold k_X10_pass_57 at hf
    refine lv_iload_n hx hb dX10_pass_57 rfl (lv_at hl 0 rfl) ?_
    cases hf
    exact xr_iret S G (fun _ => rfl) hr dX10_pass_58
  have K24 : ∀ (n : Nat) (q0 : Nat) (x1 : Int32) (x2 : Int32) (x3 : Int32) (d : xD), xloop (fun _ _ _ _ _ => none) (b_X10_pass_24 sh) n q0 x1 x2 x3 d = some (r, dz) → ∀ (H : Heap) (locs : List Loc) (ls : Array Slot), lv_has ls 5 [(0, .ref (b + q0)), (1, .int x1), (2, .int x2), (3, .int x3)] → xG D cid b A sh d s H locs → W p l e (xRm 6 0 0) s m av below meth c H locs 0 0 (MQ below (xQ D cid b ex A (some (.int r)) sh dz) av s 0 0 A) (F0 m 24 ls []) := by
    intro n
    induction n with
    | zero =>
      intro q0 x1 x2 x3 d hf
      have hf : (none : Option (Int32 × xD)) = some (r, dz) := hf
      cases hf
    | succ n hrec24 =>
      intro q0 x1 x2 x3 d hf H locs ls hl G
      have hf : b_X10_pass_24 sh (xloop (fun _ _ _ _ _ => none) (b_X10_pass_24 sh) n) q0 x1 x2 x3 d = some (r, dz) := hf
      unfold b_X10_pass_24 at hf
      refine lv_iload_n hx hb dX10_pass_24 rfl (lv_at hl 3 rfl) ?_
      refine lv_sipush (v := (199 : Int32)) hx hb dX10_pass_25 (by decide) ?_
      refine lv_icmp_gt (tgt := 65) hx hb dX10_pass_28 (by decide) (fun c => ?_) (fun c => ?_)
      · have hf := x_pos c hf
        exact K65 d hf _ _ ls (lv_sub hl [] rfl) G
      · have hf := x_neg c hf
        refine lv_aload_n hx hb dX10_pass_31 rfl (lv_at hl 0 rfl) ?_
        refine lv_iload_n hx hb dX10_pass_32 rfl (lv_at hl 1 rfl) ?_
        refine lv_iload_n hx hb dX10_pass_33 rfl (lv_at hl 2 rfl) ?_
        obtain ⟨z1, hz1, hf⟩ := x_ob hf
        obtain ⟨hqz1, hz1⟩ := xon_of hz1
        refine xr_callV (ci := 10) (As := [.int x1, .int x2]) (rest := []) (st1 := [.int z1.1]) S G hl.1 (fun _ => rfl) (mt_X10_aboveOf l D cid b ex sa sv B0 sh q0 x1 x2 d _ _ hz1) hqz1 (by decide) kw_1681 kw_1683 ks_91 kw_17 kw_1684 hd_X10_aboveOf ⟨Nat.le_of_ble_eq_true rfl, Nat.le_of_ble_eq_true rfl⟩ rfl rfl rfl (Nat.le_of_ble_eq_true rfl) ⟨Nat.le_of_ble_eq_true rfl, Nat.le_of_ble_eq_true rfl⟩ dX10_pass_34 (fun H locs G => ?_)
        refine lv_istore (lv' := [(4, .int z1.1), (0, .ref (b + q0)), (1, .int x1), (2, .int x2), (3, .int x3)]) hx hb dX10_pass_37 hl (by decide) rfl (fun ls hl => ?_)
        refine lv_aload_n hx hb dX10_pass_39 rfl (lv_at hl 1 rfl) ?_
        refine lv_iconst (v := (1 : Int32)) hx hb dX10_pass_40 (by decide) ?_
        refine lv_iconst (v := (0 : Int32)) hx hb dX10_pass_41 (by decide) ?_
        obtain ⟨d2, hd2, hf⟩ := x_ob hf
        obtain ⟨hqd2, hd2⟩ := xon_of hd2
        refine xr_callV (ci := 10) (As := [.int (1 : Int32), .int (0 : Int32)]) (rest := []) (st1 := []) S G hl.1 (fun _ => rfl) (mt_X10_passes l D cid b ex sa sv B0 sh q0 (1 : Int32) (0 : Int32) z1.2 _ hd2) hqd2 (by decide) kw_1616 kw_1618 ks_79 kw_17 kw_1619 hd_X10_passes ⟨Nat.le_of_ble_eq_true rfl, Nat.le_of_ble_eq_true rfl⟩ rfl rfl rfl (Nat.le_of_ble_eq_true rfl) ⟨Nat.le_of_ble_eq_true rfl, Nat.le_of_ble_eq_true rfl⟩ dX10_pass_42 (fun H locs G => ?_)
        refine lv_iload hx hb dX10_pass_45 (lv_at hl 0 rfl) ?_
        refine lv_aload_n hx hb dX10_pass_47 rfl (lv_at hl 1 rfl) ?_
        refine lv_iload_n hx hb dX10_pass_48 rfl (lv_at hl 2 rfl) ?_
        refine lv_iload_n hx hb dX10_pass_49 rfl (lv_at hl 3 rfl) ?_
        obtain ⟨z3, hz3, hf⟩ := x_ob hf
        obtain ⟨hqz3, hz3⟩ := xon_of hz3
        refine xr_callV (ci := 10) (As := [.int x1, .int x2]) (rest := [.int z1.1]) (st1 := [.int z3.1, .int z1.1]) S G hl.1 (fun _ => rfl) (mt_X10_aboveOf l D cid b ex sa sv B0 sh q0 x1 x2 d2 _ _ hz3) hqz3 (by decide) kw_1681 kw_1683 ks_91 kw_17 kw_1684 hd_X10_aboveOf ⟨Nat.le_of_ble_eq_true rfl, Nat.le_of_ble_eq_true rfl⟩ rfl rfl rfl (Nat.le_of_ble_eq_true rfl) ⟨Nat.le_of_ble_eq_true rfl, Nat.le_of_ble_eq_true rfl⟩ dX10_pass_50 (fun H locs G => ?_)
        refine lv_imul hx hb dX10_pass_53 ?_
        refine lv_if_ge (tgt := 59) hx hb dX10_pass_54 (by decide) (fun c => ?_) (fun c => ?_)
        · have hf := x_pos c hf
          refine lv_iinc (v := (x3 + 1)) (lv' := [(3, .int (x3 + 1)), (4, .int z1.1), (0, .ref (b + q0)), (1, .int x1), (2, .int x2)]) hx hb dX10_pass_59 hl (k := 4) rfl rfl (by decide) rfl (fun ls hl => ?_)
          refine lv_goto (tgt := 24) hx hb dX10_pass_62 (by decide) ?_
          exact hrec24 q0 x1 x2 (x3 + 1) z3.2 hf _ _ ls (lv_sub hl [2, 3, 4, 0] rfl) G
        · have hf := x_neg c hf
          exact K57 x3 z3.2 hf _ _ ls (lv_sub hl [4] rfl) G
  unfold f_X10_pass at hf
  refine lv_aload_n hx hb dX10_pass_0 rfl (lv_at hl 0 rfl) ?_
  refine lv_iconst (v := (0 : Int32)) hx hb dX10_pass_1 (by decide) ?_
  obtain ⟨d4, hd4, hf⟩ := x_ob hf
  refine xr_putI (ci := 10) (k := 0) S G hd4 rfl kw_1168 dX10_pass_2 (fun H locs G => ?_)
  refine lv_aload_n hx hb dX10_pass_5 rfl (lv_at hl 0 rfl) ?_
  refine lv_iload_n hx hb dX10_pass_6 rfl (lv_at hl 1 rfl) ?_
  refine lv_iload_n hx hb dX10_pass_7 rfl (lv_at hl 2 rfl) ?_
  obtain ⟨z5, hz5, hf⟩ := x_ob hf
  obtain ⟨hqz5, hz5⟩ := xon_of hz5
  refine xr_callV (ci := 10) (As := [.int x1, .int x2]) (rest := []) (st1 := [.int z5.1]) S G hl.1 (fun _ => rfl) (mt_X10_areTwo l D cid b ex sa sv B0 sh q0 x1 x2 d4 _ _ hz5) hqz5 (by decide) kw_1673 kw_1675 ks_90 kw_17 kw_1676 hd_X10_areTwo ⟨Nat.le_of_ble_eq_true rfl, Nat.le_of_ble_eq_true rfl⟩ rfl rfl rfl (Nat.le_of_ble_eq_true rfl) ⟨Nat.le_of_ble_eq_true rfl, Nat.le_of_ble_eq_true rfl⟩ dX10_pass_8 (fun H locs G => ?_)
  refine lv_if_ne (tgt := 16) hx hb dX10_pass_11 (by decide) (fun c => ?_) (fun c => ?_)
  · have hf := x_neg c hf
    refine lv_aload_n hx hb dX10_pass_16 rfl (lv_at hl 0 rfl) ?_
    refine lv_iconst (v := (1 : Int32)) hx hb dX10_pass_17 (by decide) ?_
    refine lv_iconst (v := (0 : Int32)) hx hb dX10_pass_18 (by decide) ?_
    obtain ⟨d6, hd6, hf⟩ := x_ob hf
    obtain ⟨hqd6, hd6⟩ := xon_of hd6
    refine xr_callV (ci := 10) (As := [.int (1 : Int32), .int (0 : Int32)]) (rest := []) (st1 := []) S G hl.1 (fun _ => rfl) (mt_X10_copies l D cid b ex sa sv B0 sh q0 (1 : Int32) (0 : Int32) z5.2 _ hd6) hqd6 (by decide) kw_1580 kw_1582 ks_73 kw_17 kw_1583 hd_X10_copies ⟨Nat.le_of_ble_eq_true rfl, Nat.le_of_ble_eq_true rfl⟩ rfl rfl rfl (Nat.le_of_ble_eq_true rfl) ⟨Nat.le_of_ble_eq_true rfl, Nat.le_of_ble_eq_true rfl⟩ dX10_pass_19 (fun H locs G => ?_)
    refine lv_iconst (v := (1 : Int32)) hx hb dX10_pass_22 (by decide) ?_
    refine lv_istore_n (lv' := [(3, .int (1 : Int32)), (0, .ref (b + q0)), (1, .int x1), (2, .int x2)]) hx hb dX10_pass_23 rfl hl (by decide) rfl (fun ls hl => ?_)
    exact K24 xF q0 x1 x2 (1 : Int32) d6 hf _ _ ls (lv_sub hl [1, 2, 3, 0] rfl) G
  · have hf := x_pos c hf
    refine lv_iconst (v := (-1 : Int32)) hx hb dX10_pass_14 (by decide) ?_
    cases hf
    exact xr_iret S G (fun _ => rfl) hr dX10_pass_15
-- HalfLandingsModel.out(I)I
theorem dX10_out_0 : decode cX10_out 0 = .ok (.aload_n 0, 1) := by decide +kernel
theorem dX10_out_1 : decode cX10_out 1 = .ok (.iconst 0, 1) := by decide +kernel
theorem dX10_out_2 : decode cX10_out 2 = .ok (.putfield 145, 3) := by decide +kernel
theorem dX10_out_5 : decode cX10_out 5 = .ok (.aload_n 0, 1) := by decide +kernel
theorem dX10_out_6 : decode cX10_out 6 = .ok (.iload_n 1, 1) := by decide +kernel
theorem dX10_out_7 : decode cX10_out 7 = .ok (.invokevirtual 419, 3) := by decide +kernel
theorem dX10_out_10 : decode cX10_out 10 = .ok (.ifCond .ne 5, 3) := by decide +kernel
theorem dX10_out_13 : decode cX10_out 13 = .ok (.iconst (-1), 1) := by decide +kernel
theorem dX10_out_14 : decode cX10_out 14 = .ok (.ireturn, 1) := by decide +kernel
theorem dX10_out_15 : decode cX10_out 15 = .ok (.aload_n 0, 1) := by decide +kernel
theorem dX10_out_16 : decode cX10_out 16 = .ok (.iconst 1, 1) := by decide +kernel
theorem dX10_out_17 : decode cX10_out 17 = .ok (.iconst 0, 1) := by decide +kernel
theorem dX10_out_18 : decode cX10_out 18 = .ok (.invokevirtual 413, 3) := by decide +kernel
theorem dX10_out_21 : decode cX10_out 21 = .ok (.iconst 0, 1) := by decide +kernel
theorem dX10_out_22 : decode cX10_out 22 = .ok (.istore_n 2, 1) := by decide +kernel
theorem dX10_out_23 : decode cX10_out 23 = .ok (.iload_n 2, 1) := by decide +kernel
theorem dX10_out_24 : decode cX10_out 24 = .ok (.sipush 199, 3) := by decide +kernel
theorem dX10_out_27 : decode cX10_out 27 = .ok (.if_icmp .gt 30, 3) := by decide +kernel
theorem dX10_out_30 : decode cX10_out 30 = .ok (.aload_n 0, 1) := by decide +kernel
theorem dX10_out_31 : decode cX10_out 31 = .ok (.getfield 87, 3) := by decide +kernel
theorem dX10_out_34 : decode cX10_out 34 = .ok (.bipush 6, 2) := by decide +kernel
theorem dX10_out_36 : decode cX10_out 36 = .ok (.iload_n 1, 1) := by decide +kernel
theorem dX10_out_37 : decode cX10_out 37 = .ok (.iadd, 1) := by decide +kernel
theorem dX10_out_38 : decode cX10_out 38 = .ok (.iaload, 1) := by decide +kernel
theorem dX10_out_39 : decode cX10_out 39 = .ok (.iconst 3, 1) := by decide +kernel
theorem dX10_out_40 : decode cX10_out 40 = .ok (.if_icmp .ne 5, 3) := by decide +kernel
theorem dX10_out_43 : decode cX10_out 43 = .ok (.iload_n 2, 1) := by decide +kernel
theorem dX10_out_44 : decode cX10_out 44 = .ok (.ireturn, 1) := by decide +kernel
theorem dX10_out_45 : decode cX10_out 45 = .ok (.aload_n 0, 1) := by decide +kernel
theorem dX10_out_46 : decode cX10_out 46 = .ok (.iconst 1, 1) := by decide +kernel
theorem dX10_out_47 : decode cX10_out 47 = .ok (.iconst 0, 1) := by decide +kernel
theorem dX10_out_48 : decode cX10_out 48 = .ok (.invokevirtual 409, 3) := by decide +kernel
theorem dX10_out_51 : decode cX10_out 51 = .ok (.iinc 2 1, 3) := by decide +kernel
theorem dX10_out_54 : decode cX10_out 54 = .ok (.goto (-31), 3) := by decide +kernel
theorem dX10_out_57 : decode cX10_out 57 = .ok (.bipush (-2), 2) := by decide +kernel
theorem dX10_out_59 : decode cX10_out 59 = .ok (.ireturn, 1) := by decide +kernel
theorem hd_X10_out : yX10_out.cls = xCn 10 ∧ yX10_out.cls ≠ "java/lang/invoke/MethodHandle" ∧ yX10_out.cls ≠ "java/lang/invoke/VarHandle" ∧ (parseMethodDescriptor yX10_out.desc).map (fun d => d.parameters.length) = some 1 := by decide +kernel
def k_X10_out_57 (sh : List xSh) (d : xD) : Option (Int32 × xD) :=
  some ((-2 : Int32), d)
def k_X10_out_43 (sh : List xSh) (x2 : Int32) (d : xD) : Option (Int32 × xD) :=
  some (x2, d)
def b_X10_out_23 (sh : List xSh) (rec23 : Nat → Int32 → Int32 → xD → Option (Int32 × xD)) (q0 : Nat) (x1 : Int32) (x2 : Int32) (d : xD) : Option (Int32 × xD) :=
  if (199 : Int32) < x2 then (k_X10_out_57 sh d) else ((xgR 10 sh d q0 40).bind fun v1 => (xaI .int sh d v1 ((6 : Int32) + x1)).bind fun v2 => if v2 = (3 : Int32) then (k_X10_out_43 sh x2 d) else ((xon 10 sh q0 (f_X10_passes sh q0 (1 : Int32) (0 : Int32) d)).bind fun d3 => rec23 q0 x1 (x2 + 1) d3))
def f_X10_out (sh : List xSh) (q0 : Nat) (x1 : Int32) (d : xD) : Option (Int32 × xD) :=
  (xpI 10 sh d q0 0 (0 : Int32)).bind fun d4 => (xon 10 sh q0 (f_X10_isWalker sh q0 x1 d4)).bind fun z5 => if z5.1 = 0 then (some ((-1 : Int32), z5.2)) else ((xon 10 sh q0 (f_X10_copies sh q0 (1 : Int32) (0 : Int32) z5.2)).bind fun d6 => xloop (fun _ _ _ _ => none) (b_X10_out_23 sh) xF q0 x1 (0 : Int32) d6)
set_option maxHeartbeats 4000000 in
set_option maxRecDepth 100000 in
theorem mt_X10_out (l : Launch) (D : va_G) (cid : FieldType → ClassId) (b : Nat) (ex : Bool) (sa sv B0 : Nat) (sh : List xSh) (q0 : Nat) (x1 : Int32) (d : xD) (r : Int32) (dz : xD) (hf : f_X10_out sh q0 x1 d = some (r, dz)) : xMet l yX10_out cX10_out 3 (some .int) 6 0 0 D cid b ex sa sv B0 [.ref (b + q0), .int x1] sh d (some (.int r)) sh dz := by
  refine xMet.of (by decide) (Nat.le_of_ble_eq_true rfl) ?_
  intro p e s m below meth c ls A S hr hin G hl
  have hl : lv_has ls 3 [(0, .ref (b + q0)), (1, .int x1)] := hl
  generalize ([.ref (b + q0), .int x1] : List Value).toArray = av at S ⊢
  have hx := S.1
  have hb := S.2.1
  have hml := S.2.2.1
  have hown := S.2.2.2.1
  have hts := S.2.2.2.2.1
  have K57 : ∀ (d : xD), k_X10_out_57 sh d = some (r, dz) → ∀ (H : Heap) (locs : List Loc) (ls : Array Slot), lv_has ls 3 [] → xG D cid b A sh d s H locs → W p l e (xRm 6 0 0) s m av below meth c H locs 0 0 (MQ below (xQ D cid b ex A (some (.int r)) sh dz) av s 0 0 A) (F0 m 57 ls []) := by
    intro d hf H locs ls hl G
    unfold k_X10_out_57 at hf
    refine lv_bipush (v := (-2 : Int32)) hx hb dX10_out_57 (by decide) ?_
    cases hf
    exact xr_iret S G (fun _ => rfl) hr dX10_out_59
  have K43 : ∀ (x2 : Int32) (d : xD), k_X10_out_43 sh x2 d = some (r, dz) → ∀ (H : Heap) (locs : List Loc) (ls : Array Slot), lv_has ls 3 [(2, .int x2)] → xG D cid b A sh d s H locs → W p l e (xRm 6 0 0) s m av below meth c H locs 0 0 (MQ below (xQ D cid b ex A (some (.int r)) sh dz) av s 0 0 A) (F0 m 43 ls []) := by
    intro x2 d hf H locs ls hl G
    unfold k_X10_out_43 at hf
    refine lv_iload_n hx hb dX10_out_43 rfl (lv_at hl 0 rfl) ?_
    cases hf
    exact xr_iret S G (fun _ => rfl) hr dX10_out_44
  have K23 : ∀ (n : Nat) (q0 : Nat) (x1 : Int32) (x2 : Int32) (d : xD), xloop (fun _ _ _ _ => none) (b_X10_out_23 sh) n q0 x1 x2 d = some (r, dz) → ∀ (H : Heap) (locs : List Loc) (ls : Array Slot), lv_has ls 3 [(0, .ref (b + q0)), (1, .int x1), (2, .int x2)] → xG D cid b A sh d s H locs → W p l e (xRm 6 0 0) s m av below meth c H locs 0 0 (MQ below (xQ D cid b ex A (some (.int r)) sh dz) av s 0 0 A) (F0 m 23 ls []) := by
    intro n
    induction n with
    | zero =>
      intro q0 x1 x2 d hf
      have hf : (none : Option (Int32 × xD)) = some (r, dz) := hf
      cases hf
    | succ n hrec23 =>
      intro q0 x1 x2 d hf H locs ls hl G
      have hf : b_X10_out_23 sh (xloop (fun _ _ _ _ => none) (b_X10_out_23 sh) n) q0 x1 x2 d = some (r, dz) := hf
      unfold b_X10_out_23 at hf
      refine lv_iload_n hx hb dX10_out_23 rfl (lv_at hl 2 rfl) ?_
      refine lv_sipush (v := (199 : Int32)) hx hb dX10_out_24 (by decide) ?_
      refine lv_icmp_gt (tgt := 57) hx hb dX10_out_27 (by decide) (fun c => ?_) (fun c => ?_)
      · have hf := x_pos c hf
        exact K57 d hf _ _ ls (lv_sub hl [] rfl) G
      · have hf := x_neg c hf
        refine lv_aload_n hx hb dX10_out_30 rfl (lv_at hl 0 rfl) ?_
        obtain ⟨v1, hv1, hf⟩ := x_ob hf
        refine xr_getR (ci := 10) (k := 40) S G hv1 rfl kw_1208 dX10_out_31 ?_
        refine lv_bipush (v := (6 : Int32)) hx hb dX10_out_34 (by decide) ?_
        refine lv_iload_n hx hb dX10_out_36 rfl (lv_at hl 1 rfl) ?_
        refine lv_iadd hx hb dX10_out_37 ?_
        obtain ⟨v2, hv2, hf⟩ := x_ob hf
        refine xr_iald S G hv2 dX10_out_38 ?_
        refine lv_iconst (v := (3 : Int32)) hx hb dX10_out_39 (by decide) ?_
        refine lv_icmp_ne (tgt := 45) hx hb dX10_out_40 (by decide) (fun c => ?_) (fun c => ?_)
        · have hf := x_neg c hf
          refine lv_aload_n hx hb dX10_out_45 rfl (lv_at hl 0 rfl) ?_
          refine lv_iconst (v := (1 : Int32)) hx hb dX10_out_46 (by decide) ?_
          refine lv_iconst (v := (0 : Int32)) hx hb dX10_out_47 (by decide) ?_
          obtain ⟨d3, hd3, hf⟩ := x_ob hf
          obtain ⟨hqd3, hd3⟩ := xon_of hd3
          refine xr_callV (ci := 10) (As := [.int (1 : Int32), .int (0 : Int32)]) (rest := []) (st1 := []) S G hl.1 (fun _ => rfl) (mt_X10_passes l D cid b ex sa sv B0 sh q0 (1 : Int32) (0 : Int32) d _ hd3) hqd3 (by decide) kw_1616 kw_1618 ks_79 kw_17 kw_1619 hd_X10_passes ⟨Nat.le_of_ble_eq_true rfl, Nat.le_of_ble_eq_true rfl⟩ rfl rfl rfl (Nat.le_of_ble_eq_true rfl) ⟨Nat.le_of_ble_eq_true rfl, Nat.le_of_ble_eq_true rfl⟩ dX10_out_48 (fun H locs G => ?_)
          refine lv_iinc (v := (x2 + 1)) (lv' := [(2, .int (x2 + 1)), (0, .ref (b + q0)), (1, .int x1)]) hx hb dX10_out_51 hl (k := 2) rfl rfl (by decide) rfl (fun ls hl => ?_)
          refine lv_goto (tgt := 23) hx hb dX10_out_54 (by decide) ?_
          exact hrec23 q0 x1 (x2 + 1) d3 hf _ _ ls (lv_sub hl [1, 2, 0] rfl) G
        · have hf := x_pos c hf
          exact K43 x2 d hf _ _ ls (lv_sub hl [2] rfl) G
  unfold f_X10_out at hf
  refine lv_aload_n hx hb dX10_out_0 rfl (lv_at hl 0 rfl) ?_
  refine lv_iconst (v := (0 : Int32)) hx hb dX10_out_1 (by decide) ?_
  obtain ⟨d4, hd4, hf⟩ := x_ob hf
  refine xr_putI (ci := 10) (k := 0) S G hd4 rfl kw_1168 dX10_out_2 (fun H locs G => ?_)
  refine lv_aload_n hx hb dX10_out_5 rfl (lv_at hl 0 rfl) ?_
  refine lv_iload_n hx hb dX10_out_6 rfl (lv_at hl 1 rfl) ?_
  obtain ⟨z5, hz5, hf⟩ := x_ob hf
  obtain ⟨hqz5, hz5⟩ := xon_of hz5
  refine xr_callV (ci := 10) (As := [.int x1]) (rest := []) (st1 := [.int z5.1]) S G hl.1 (fun _ => rfl) (mt_X10_isWalker l D cid b ex sa sv B0 sh q0 x1 d4 _ _ hz5) hqz5 (by decide) kw_1504 kw_1506 ks_62 kw_17 kw_1507 hd_X10_isWalker ⟨Nat.le_of_ble_eq_true rfl, Nat.le_of_ble_eq_true rfl⟩ rfl rfl rfl (Nat.le_of_ble_eq_true rfl) ⟨Nat.le_of_ble_eq_true rfl, Nat.le_of_ble_eq_true rfl⟩ dX10_out_7 (fun H locs G => ?_)
  refine lv_if_ne (tgt := 15) hx hb dX10_out_10 (by decide) (fun c => ?_) (fun c => ?_)
  · have hf := x_neg c hf
    refine lv_aload_n hx hb dX10_out_15 rfl (lv_at hl 0 rfl) ?_
    refine lv_iconst (v := (1 : Int32)) hx hb dX10_out_16 (by decide) ?_
    refine lv_iconst (v := (0 : Int32)) hx hb dX10_out_17 (by decide) ?_
    obtain ⟨d6, hd6, hf⟩ := x_ob hf
    obtain ⟨hqd6, hd6⟩ := xon_of hd6
    refine xr_callV (ci := 10) (As := [.int (1 : Int32), .int (0 : Int32)]) (rest := []) (st1 := []) S G hl.1 (fun _ => rfl) (mt_X10_copies l D cid b ex sa sv B0 sh q0 (1 : Int32) (0 : Int32) z5.2 _ hd6) hqd6 (by decide) kw_1580 kw_1582 ks_73 kw_17 kw_1583 hd_X10_copies ⟨Nat.le_of_ble_eq_true rfl, Nat.le_of_ble_eq_true rfl⟩ rfl rfl rfl (Nat.le_of_ble_eq_true rfl) ⟨Nat.le_of_ble_eq_true rfl, Nat.le_of_ble_eq_true rfl⟩ dX10_out_18 (fun H locs G => ?_)
    refine lv_iconst (v := (0 : Int32)) hx hb dX10_out_21 (by decide) ?_
    refine lv_istore_n (lv' := [(2, .int (0 : Int32)), (0, .ref (b + q0)), (1, .int x1)]) hx hb dX10_out_22 rfl hl (by decide) rfl (fun ls hl => ?_)
    exact K23 xF q0 x1 (0 : Int32) d6 hf _ _ ls (lv_sub hl [1, 2, 0] rfl) G
  · have hf := x_pos c hf
    refine lv_iconst (v := (-1 : Int32)) hx hb dX10_out_13 (by decide) ?_
    cases hf
    exact xr_iret S G (fun _ => rfl) hr dX10_out_14
-- HalfLandingsModel.best(III)I
theorem dX10_best_0 : decode cX10_best 0 = .ok (.aload_n 0, 1) := by decide +kernel
theorem dX10_best_1 : decode cX10_best 1 = .ok (.iconst 0, 1) := by decide +kernel
theorem dX10_best_2 : decode cX10_best 2 = .ok (.putfield 145, 3) := by decide +kernel
theorem dX10_best_5 : decode cX10_best 5 = .ok (.aload_n 0, 1) := by decide +kernel
theorem dX10_best_6 : decode cX10_best 6 = .ok (.iload_n 1, 1) := by decide +kernel
theorem dX10_best_7 : decode cX10_best 7 = .ok (.invokevirtual 419, 3) := by decide +kernel
theorem dX10_best_10 : decode cX10_best 10 = .ok (.ifCond .eq 20, 3) := by decide +kernel
theorem dX10_best_13 : decode cX10_best 13 = .ok (.aload_n 0, 1) := by decide +kernel
theorem dX10_best_14 : decode cX10_best 14 = .ok (.iload_n 2, 1) := by decide +kernel
theorem dX10_best_15 : decode cX10_best 15 = .ok (.invokevirtual 422, 3) := by decide +kernel
theorem dX10_best_18 : decode cX10_best 18 = .ok (.ifCond .eq 12, 3) := by decide +kernel
theorem dX10_best_21 : decode cX10_best 21 = .ok (.iload_n 3, 1) := by decide +kernel
theorem dX10_best_22 : decode cX10_best 22 = .ok (.ifCond .lt 8, 3) := by decide +kernel
theorem dX10_best_25 : decode cX10_best 25 = .ok (.iload_n 3, 1) := by decide +kernel
theorem dX10_best_26 : decode cX10_best 26 = .ok (.iconst 1, 1) := by decide +kernel
theorem dX10_best_27 : decode cX10_best 27 = .ok (.if_icmp .le 5, 3) := by decide +kernel
theorem dX10_best_30 : decode cX10_best 30 = .ok (.iconst (-1), 1) := by decide +kernel
theorem dX10_best_31 : decode cX10_best 31 = .ok (.ireturn, 1) := by decide +kernel
theorem dX10_best_32 : decode cX10_best 32 = .ok (.iconst (-1), 1) := by decide +kernel
theorem dX10_best_33 : decode cX10_best 33 = .ok (.istore 4, 2) := by decide +kernel
theorem dX10_best_35 : decode cX10_best 35 = .ok (.iconst (-1), 1) := by decide +kernel
theorem dX10_best_36 : decode cX10_best 36 = .ok (.istore 5, 2) := by decide +kernel
theorem dX10_best_38 : decode cX10_best 38 = .ok (.iconst 0, 1) := by decide +kernel
theorem dX10_best_39 : decode cX10_best 39 = .ok (.istore 6, 2) := by decide +kernel
theorem dX10_best_41 : decode cX10_best 41 = .ok (.iload 6, 2) := by decide +kernel
theorem dX10_best_43 : decode cX10_best 43 = .ok (.bipush 30, 2) := by decide +kernel
theorem dX10_best_45 : decode cX10_best 45 = .ok (.if_icmp .gt 73, 3) := by decide +kernel
theorem dX10_best_48 : decode cX10_best 48 = .ok (.aload_n 0, 1) := by decide +kernel
theorem dX10_best_49 : decode cX10_best 49 = .ok (.iload 6, 2) := by decide +kernel
theorem dX10_best_51 : decode cX10_best 51 = .ok (.ifCond .ne 7, 3) := by decide +kernel
theorem dX10_best_54 : decode cX10_best 54 = .ok (.iconst (-1), 1) := by decide +kernel
theorem dX10_best_55 : decode cX10_best 55 = .ok (.goto 4, 3) := by decide +kernel
theorem dX10_best_58 : decode cX10_best 58 = .ok (.iload_n 1, 1) := by decide +kernel
theorem dX10_best_59 : decode cX10_best 59 = .ok (.putfield 114, 3) := by decide +kernel
theorem dX10_best_62 : decode cX10_best 62 = .ok (.aload_n 0, 1) := by decide +kernel
theorem dX10_best_63 : decode cX10_best 63 = .ok (.iload_n 2, 1) := by decide +kernel
theorem dX10_best_64 : decode cX10_best 64 = .ok (.putfield 369, 3) := by decide +kernel
theorem dX10_best_67 : decode cX10_best 67 = .ok (.aload_n 0, 1) := by decide +kernel
theorem dX10_best_68 : decode cX10_best 68 = .ok (.iload 6, 2) := by decide +kernel
theorem dX10_best_70 : decode cX10_best 70 = .ok (.putfield 372, 3) := by decide +kernel
theorem dX10_best_73 : decode cX10_best 73 = .ok (.aload_n 0, 1) := by decide +kernel
theorem dX10_best_74 : decode cX10_best 74 = .ok (.bipush 60, 2) := by decide +kernel
theorem dX10_best_76 : decode cX10_best 76 = .ok (.invokevirtual 442, 3) := by decide +kernel
theorem dX10_best_79 : decode cX10_best 79 = .ok (.aload_n 0, 1) := by decide +kernel
theorem dX10_best_80 : decode cX10_best 80 = .ok (.getfield 78, 3) := by decide +kernel
theorem dX10_best_83 : decode cX10_best 83 = .ok (.iconst 1, 1) := by decide +kernel
theorem dX10_best_84 : decode cX10_best 84 = .ok (.iaload, 1) := by decide +kernel
theorem dX10_best_85 : decode cX10_best 85 = .ok (.aload_n 0, 1) := by decide +kernel
theorem dX10_best_86 : decode cX10_best 86 = .ok (.getfield 78, 3) := by decide +kernel
theorem dX10_best_89 : decode cX10_best 89 = .ok (.iconst 0, 1) := by decide +kernel
theorem dX10_best_90 : decode cX10_best 90 = .ok (.iaload, 1) := by decide +kernel
theorem dX10_best_91 : decode cX10_best 91 = .ok (.isub, 1) := by decide +kernel
theorem dX10_best_92 : decode cX10_best 92 = .ok (.istore 7, 2) := by decide +kernel
theorem dX10_best_94 : decode cX10_best 94 = .ok (.iload 7, 2) := by decide +kernel
theorem dX10_best_96 : decode cX10_best 96 = .ok (.iload 5, 2) := by decide +kernel
theorem dX10_best_98 : decode cX10_best 98 = .ok (.if_icmp .gt 6, 3) := by decide +kernel
theorem dX10_best_101 : decode cX10_best 101 = .ok (.goto 11, 3) := by decide +kernel
theorem dX10_best_104 : decode cX10_best 104 = .ok (.iload 6, 2) := by decide +kernel
theorem dX10_best_106 : decode cX10_best 106 = .ok (.istore 4, 2) := by decide +kernel
theorem dX10_best_108 : decode cX10_best 108 = .ok (.iload 7, 2) := by decide +kernel
theorem dX10_best_110 : decode cX10_best 110 = .ok (.istore 5, 2) := by decide +kernel
theorem dX10_best_112 : decode cX10_best 112 = .ok (.iinc 6 1, 3) := by decide +kernel
theorem dX10_best_115 : decode cX10_best 115 = .ok (.goto (-74), 3) := by decide +kernel
theorem dX10_best_118 : decode cX10_best 118 = .ok (.aload_n 0, 1) := by decide +kernel
theorem dX10_best_119 : decode cX10_best 119 = .ok (.iconst (-1), 1) := by decide +kernel
theorem dX10_best_120 : decode cX10_best 120 = .ok (.putfield 114, 3) := by decide +kernel
theorem dX10_best_123 : decode cX10_best 123 = .ok (.iload_n 3, 1) := by decide +kernel
theorem dX10_best_124 : decode cX10_best 124 = .ok (.ifCond .ne 8, 3) := by decide +kernel
theorem dX10_best_127 : decode cX10_best 127 = .ok (.iload 4, 2) := by decide +kernel
theorem dX10_best_129 : decode cX10_best 129 = .ok (.goto 5, 3) := by decide +kernel
theorem dX10_best_132 : decode cX10_best 132 = .ok (.iload 5, 2) := by decide +kernel
theorem dX10_best_134 : decode cX10_best 134 = .ok (.ireturn, 1) := by decide +kernel
theorem hd_X10_best : yX10_best.cls = xCn 10 ∧ yX10_best.cls ≠ "java/lang/invoke/MethodHandle" ∧ yX10_best.cls ≠ "java/lang/invoke/VarHandle" ∧ (parseMethodDescriptor yX10_best.desc).map (fun d => d.parameters.length) = some 3 := by decide +kernel
def k_X10_best_30 (sh : List xSh) (d : xD) : Option (Int32 × xD) :=
  some ((-1 : Int32), d)
def k_X10_best_134 (sh : List xSh) (y0 : Int32) (d : xD) : Option (Int32 × xD) :=
  some (y0, d)
def k_X10_best_118 (sh : List xSh) (q0 : Nat) (x3 : Int32) (x4 : Int32) (x5 : Int32) (d : xD) : Option (Int32 × xD) :=
  (xpI 10 sh d q0 53 (-1 : Int32)).bind fun d1 => if x3 = 0 then (k_X10_best_134 sh x4 d1) else (k_X10_best_134 sh x5 d1)
def k_X10_best_112 (sh : List xSh) (rec41 : Nat → Int32 → Int32 → Int32 → Int32 → Int32 → Int32 → xD → Option (Int32 × xD)) (q0 : Nat) (x1 : Int32) (x2 : Int32) (x3 : Int32) (x4 : Int32) (x5 : Int32) (x6 : Int32) (d : xD) : Option (Int32 × xD) :=
  rec41 q0 x1 x2 x3 x4 x5 (x6 + 1) d
def k_X10_best_59 (sh : List xSh) (rec41 : Nat → Int32 → Int32 → Int32 → Int32 → Int32 → Int32 → xD → Option (Int32 × xD)) (q0 : Nat) (x1 : Int32) (x2 : Int32) (x3 : Int32) (x4 : Int32) (x5 : Int32) (x6 : Int32) (p0 : Nat) (y1 : Int32) (d : xD) : Option (Int32 × xD) :=
  (xpI 10 sh d p0 53 y1).bind fun d2 => (xpI 10 sh d2 q0 54 x2).bind fun d3 => (xpI 10 sh d3 q0 55 x6).bind fun d4 => (xon 10 sh q0 (f_X10_runs sh q0 (60 : Int32) d4)).bind fun d5 => (xgR 10 sh d5 q0 37).bind fun v6 => (xaI .int sh d5 v6 (1 : Int32)).bind fun v7 => (xgR 10 sh d5 q0 37).bind fun v8 => (xaI .int sh d5 v8 (0 : Int32)).bind fun v9 => if x5 < (v7 - v9) then (k_X10_best_112 sh rec41 q0 x1 x2 x3 x6 (v7 - v9) x6 d5) else (k_X10_best_112 sh rec41 q0 x1 x2 x3 x4 x5 x6 d5)
def b_X10_best_41 (sh : List xSh) (rec41 : Nat → Int32 → Int32 → Int32 → Int32 → Int32 → Int32 → xD → Option (Int32 × xD)) (q0 : Nat) (x1 : Int32) (x2 : Int32) (x3 : Int32) (x4 : Int32) (x5 : Int32) (x6 : Int32) (d : xD) : Option (Int32 × xD) :=
  if (30 : Int32) < x6 then (k_X10_best_118 sh q0 x3 x4 x5 d) else (if x6 = 0 then (k_X10_best_59 sh rec41 q0 x1 x2 x3 x4 x5 x6 q0 (-1 : Int32) d) else (k_X10_best_59 sh rec41 q0 x1 x2 x3 x4 x5 x6 q0 x1 d))
def f_X10_best (sh : List xSh) (q0 : Nat) (x1 : Int32) (x2 : Int32) (x3 : Int32) (d : xD) : Option (Int32 × xD) :=
  (xpI 10 sh d q0 0 (0 : Int32)).bind fun d10 => (xon 10 sh q0 (f_X10_isWalker sh q0 x1 d10)).bind fun z11 => if z11.1 = 0 then (k_X10_best_30 sh z11.2) else ((xon 10 sh q0 (f_X10_isBench sh q0 x2 z11.2)).bind fun z12 => if z12.1 = 0 then (k_X10_best_30 sh z12.2) else (if x3 < 0 then (k_X10_best_30 sh z12.2) else (if x3 ≤ (1 : Int32) then (xloop (fun _ _ _ _ _ _ _ _ => none) (b_X10_best_41 sh) xF q0 x1 x2 x3 (-1 : Int32) (-1 : Int32) (0 : Int32) z12.2) else (k_X10_best_30 sh z12.2))))
set_option maxHeartbeats 4000000 in
set_option maxRecDepth 100000 in
theorem mt_X10_best (l : Launch) (D : va_G) (cid : FieldType → ClassId) (b : Nat) (ex : Bool) (sa sv B0 : Nat) (sh : List xSh) (q0 : Nat) (x1 : Int32) (x2 : Int32) (x3 : Int32) (d : xD) (r : Int32) (dz : xD) (hf : f_X10_best sh q0 x1 x2 x3 d = some (r, dz)) : xMet l yX10_best cX10_best 8 (some .int) 8 0 0 D cid b ex sa sv B0 [.ref (b + q0), .int x1, .int x2, .int x3] sh d (some (.int r)) sh dz := by
  refine xMet.of (by decide) (Nat.le_of_ble_eq_true rfl) ?_
  intro p e s m below meth c ls A S hr hin G hl
  have hl : lv_has ls 8 [(0, .ref (b + q0)), (1, .int x1), (2, .int x2), (3, .int x3)] := hl
  generalize ([.ref (b + q0), .int x1, .int x2, .int x3] : List Value).toArray = av at S ⊢
  have hx := S.1
  have hb := S.2.1
  have hml := S.2.2.1
  have hown := S.2.2.2.1
  have hts := S.2.2.2.2.1
  have K30 : ∀ (d : xD), k_X10_best_30 sh d = some (r, dz) → ∀ (H : Heap) (locs : List Loc) (ls : Array Slot), lv_has ls 8 [] → xG D cid b A sh d s H locs → W p l e (xRm 8 0 0) s m av below meth c H locs 0 0 (MQ below (xQ D cid b ex A (some (.int r)) sh dz) av s 0 0 A) (F0 m 30 ls []) := by
    intro d hf H locs ls hl G
    unfold k_X10_best_30 at hf
    refine lv_iconst (v := (-1 : Int32)) hx hb dX10_best_30 (by decide) ?_
    cases hf
    exact xr_iret S G (fun _ => rfl) hr dX10_best_31
  have K134 : ∀ (y0 : Int32) (d : xD), k_X10_best_134 sh y0 d = some (r, dz) → ∀ (H : Heap) (locs : List Loc) (ls : Array Slot), lv_has ls 8 [] → xG D cid b A sh d s H locs → W p l e (xRm 8 0 0) s m av below meth c H locs 0 0 (MQ below (xQ D cid b ex A (some (.int r)) sh dz) av s 0 0 A) (F0 m 134 ls [.int y0]) := by
    intro y0 d hf H locs ls hl G
    unfold k_X10_best_134 at hf
    cases hf
    exact xr_iret S G (fun _ => rfl) hr dX10_best_134
  have K118 : ∀ (q0 : Nat) (x3 : Int32) (x4 : Int32) (x5 : Int32) (d : xD), k_X10_best_118 sh q0 x3 x4 x5 d = some (r, dz) → ∀ (H : Heap) (locs : List Loc) (ls : Array Slot), lv_has ls 8 [(0, .ref (b + q0)), (3, .int x3), (4, .int x4), (5, .int x5)] → xG D cid b A sh d s H locs → W p l e (xRm 8 0 0) s m av below meth c H locs 0 0 (MQ below (xQ D cid b ex A (some (.int r)) sh dz) av s 0 0 A) (F0 m 118 ls []) := by
    intro q0 x3 x4 x5 d hf H locs ls hl G
    unfold k_X10_best_118 at hf
    refine lv_aload_n hx hb dX10_best_118 rfl (lv_at hl 0 rfl) ?_
    refine lv_iconst (v := (-1 : Int32)) hx hb dX10_best_119 (by decide) ?_
    obtain ⟨d1, hd1, hf⟩ := x_ob hf
    refine xr_putI (ci := 10) (k := 53) S G hd1 rfl kw_1221 dX10_best_120 (fun H locs G => ?_)
    refine lv_iload_n hx hb dX10_best_123 rfl (lv_at hl 1 rfl) ?_
    refine lv_if_ne (tgt := 132) hx hb dX10_best_124 (by decide) (fun c => ?_) (fun c => ?_)
    · have hf := x_neg c hf
      refine lv_iload hx hb dX10_best_132 (lv_at hl 3 rfl) ?_
      exact K134 x5 d1 hf _ _ ls (lv_sub hl [] rfl) G
    · have hf := x_pos c hf
      refine lv_iload hx hb dX10_best_127 (lv_at hl 2 rfl) ?_
      refine lv_goto (tgt := 134) hx hb dX10_best_129 (by decide) ?_
      exact K134 x4 d1 hf _ _ ls (lv_sub hl [] rfl) G
  have K112 : ∀ (rec41 : Nat → Int32 → Int32 → Int32 → Int32 → Int32 → Int32 → xD → Option (Int32 × xD)) (hrec41 : ∀ (q0 : Nat) (x1 : Int32) (x2 : Int32) (x3 : Int32) (x4 : Int32) (x5 : Int32) (x6 : Int32) (d : xD), rec41 q0 x1 x2 x3 x4 x5 x6 d = some (r, dz) → ∀ (H : Heap) (locs : List Loc) (ls : Array Slot), lv_has ls 8 [(0, .ref (b + q0)), (1, .int x1), (2, .int x2), (3, .int x3), (4, .int x4), (5, .int x5), (6, .int x6)] → xG D cid b A sh d s H locs → W p l e (xRm 8 0 0) s m av below meth c H locs 0 0 (MQ below (xQ D cid b ex A (some (.int r)) sh dz) av s 0 0 A) (F0 m 41 ls [])) (q0 : Nat) (x1 : Int32) (x2 : Int32) (x3 : Int32) (x4 : Int32) (x5 : Int32) (x6 : Int32) (d : xD), k_X10_best_112 sh rec41 q0 x1 x2 x3 x4 x5 x6 d = some (r, dz) → ∀ (H : Heap) (locs : List Loc) (ls : Array Slot), lv_has ls 8 [(0, .ref (b + q0)), (1, .int x1), (2, .int x2), (3, .int x3), (4, .int x4), (5, .int x5), (6, .int x6)] → xG D cid b A sh d s H locs → W p l e (xRm 8 0 0) s m av below meth c H locs 0 0 (MQ below (xQ D cid b ex A (some (.int r)) sh dz) av s 0 0 A) (F0 m 112 ls []) := by
    intro rec41 hrec41 q0 x1 x2 x3 x4 x5 x6 d hf H locs ls hl G
    unfold k_X10_best_112 at hf
    refine lv_iinc (v := (x6 + 1)) (lv' := [(6, .int (x6 + 1)), (0, .ref (b + q0)), (1, .int x1), (2, .int x2), (3, .int x3), (4, .int x4), (5, .int x5)]) hx hb dX10_best_112 hl (k := 6) rfl rfl (by decide) rfl (fun ls hl => ?_)
    refine lv_goto (tgt := 41) hx hb dX10_best_115 (by decide) ?_
    exact hrec41 q0 x1 x2 x3 x4 x5 (x6 + 1) d hf _ _ ls (lv_sub hl [1, 2, 3, 4, 5, 6, 0] rfl) G
  have K59 : ∀ (rec41 : Nat → Int32 → Int32 → Int32 → Int32 → Int32 → Int32 → xD → Option (Int32 × xD)) (hrec41 : ∀ (q0 : Nat) (x1 : Int32) (x2 : Int32) (x3 : Int32) (x4 : Int32) (x5 : Int32) (x6 : Int32) (d : xD), rec41 q0 x1 x2 x3 x4 x5 x6 d = some (r, dz) → ∀ (H : Heap) (locs : List Loc) (ls : Array Slot), lv_has ls 8 [(0, .ref (b + q0)), (1, .int x1), (2, .int x2), (3, .int x3), (4, .int x4), (5, .int x5), (6, .int x6)] → xG D cid b A sh d s H locs → W p l e (xRm 8 0 0) s m av below meth c H locs 0 0 (MQ below (xQ D cid b ex A (some (.int r)) sh dz) av s 0 0 A) (F0 m 41 ls [])) (q0 : Nat) (x1 : Int32) (x2 : Int32) (x3 : Int32) (x4 : Int32) (x5 : Int32) (x6 : Int32) (p0 : Nat) (y1 : Int32) (d : xD), k_X10_best_59 sh rec41 q0 x1 x2 x3 x4 x5 x6 p0 y1 d = some (r, dz) → ∀ (H : Heap) (locs : List Loc) (ls : Array Slot), lv_has ls 8 [(0, .ref (b + q0)), (1, .int x1), (2, .int x2), (3, .int x3), (4, .int x4), (5, .int x5), (6, .int x6)] → xG D cid b A sh d s H locs → W p l e (xRm 8 0 0) s m av below meth c H locs 0 0 (MQ below (xQ D cid b ex A (some (.int r)) sh dz) av s 0 0 A) (F0 m 59 ls [.int y1, .ref (b + p0)]) := by
    intro rec41 hrec41 q0 x1 x2 x3 x4 x5 x6 p0 y1 d hf H locs ls hl G
    unfold k_X10_best_59 at hf
    obtain ⟨d2, hd2, hf⟩ := x_ob hf
    refine xr_putI (ci := 10) (k := 53) S G hd2 rfl kw_1221 dX10_best_59 (fun H locs G => ?_)
    refine lv_aload_n hx hb dX10_best_62 rfl (lv_at hl 0 rfl) ?_
    refine lv_iload_n hx hb dX10_best_63 rfl (lv_at hl 2 rfl) ?_
    obtain ⟨d3, hd3, hf⟩ := x_ob hf
    refine xr_putI (ci := 10) (k := 54) S G hd3 rfl kw_1222 dX10_best_64 (fun H locs G => ?_)
    refine lv_aload_n hx hb dX10_best_67 rfl (lv_at hl 0 rfl) ?_
    refine lv_iload hx hb dX10_best_68 (lv_at hl 6 rfl) ?_
    obtain ⟨d4, hd4, hf⟩ := x_ob hf
    refine xr_putI (ci := 10) (k := 55) S G hd4 rfl kw_1223 dX10_best_70 (fun H locs G => ?_)
    refine lv_aload_n hx hb dX10_best_73 rfl (lv_at hl 0 rfl) ?_
    refine lv_bipush (v := (60 : Int32)) hx hb dX10_best_74 (by decide) ?_
    obtain ⟨d5, hd5, hf⟩ := x_ob hf
    obtain ⟨hqd5, hd5⟩ := xon_of hd5
    refine xr_callV (ci := 10) (As := [.int (60 : Int32)]) (rest := []) (st1 := []) S G hl.1 (fun _ => rfl) (mt_X10_runs l D cid b ex sa sv B0 sh q0 (60 : Int32) d4 _ hd5) hqd5 (by decide) kw_1657 kw_1659 ks_87 kw_17 kw_1660 hd_X10_runs ⟨Nat.le_of_ble_eq_true rfl, Nat.le_of_ble_eq_true rfl⟩ rfl rfl rfl (Nat.le_of_ble_eq_true rfl) ⟨Nat.le_of_ble_eq_true rfl, Nat.le_of_ble_eq_true rfl⟩ dX10_best_76 (fun H locs G => ?_)
    refine lv_aload_n hx hb dX10_best_79 rfl (lv_at hl 0 rfl) ?_
    obtain ⟨v6, hv6, hf⟩ := x_ob hf
    refine xr_getR (ci := 10) (k := 37) S G hv6 rfl kw_1205 dX10_best_80 ?_
    refine lv_iconst (v := (1 : Int32)) hx hb dX10_best_83 (by decide) ?_
    obtain ⟨v7, hv7, hf⟩ := x_ob hf
    refine xr_iald S G hv7 dX10_best_84 ?_
    refine lv_aload_n hx hb dX10_best_85 rfl (lv_at hl 0 rfl) ?_
    obtain ⟨v8, hv8, hf⟩ := x_ob hf
    refine xr_getR (ci := 10) (k := 37) S G hv8 rfl kw_1205 dX10_best_86 ?_
    refine lv_iconst (v := (0 : Int32)) hx hb dX10_best_89 (by decide) ?_
    obtain ⟨v9, hv9, hf⟩ := x_ob hf
    refine xr_iald S G hv9 dX10_best_90 ?_
    refine lv_isub hx hb dX10_best_91 ?_
    refine lv_istore (lv' := [(7, .int (v7 - v9)), (0, .ref (b + q0)), (1, .int x1), (2, .int x2), (3, .int x3), (4, .int x4), (5, .int x5), (6, .int x6)]) hx hb dX10_best_92 hl (by decide) rfl (fun ls hl => ?_)
    refine lv_iload hx hb dX10_best_94 (lv_at hl 0 rfl) ?_
    refine lv_iload hx hb dX10_best_96 (lv_at hl 6 rfl) ?_
    refine lv_icmp_gt (tgt := 104) hx hb dX10_best_98 (by decide) (fun c => ?_) (fun c => ?_)
    · have hf := x_pos c hf
      refine lv_iload hx hb dX10_best_104 (lv_at hl 7 rfl) ?_
      refine lv_istore (lv' := [(4, .int x6), (7, .int (v7 - v9)), (0, .ref (b + q0)), (1, .int x1), (2, .int x2), (3, .int x3), (5, .int x5), (6, .int x6)]) hx hb dX10_best_106 hl (by decide) rfl (fun ls hl => ?_)
      refine lv_iload hx hb dX10_best_108 (lv_at hl 1 rfl) ?_
      refine lv_istore (lv' := [(5, .int (v7 - v9)), (4, .int x6), (7, .int (v7 - v9)), (0, .ref (b + q0)), (1, .int x1), (2, .int x2), (3, .int x3), (6, .int x6)]) hx hb dX10_best_110 hl (by decide) rfl (fun ls hl => ?_)
      exact K112 _ hrec41 q0 x1 x2 x3 x6 (v7 - v9) x6 d5 hf _ _ ls (lv_sub hl [3, 4, 5, 6, 1, 0, 7] rfl) G
    · have hf := x_neg c hf
      refine lv_goto (tgt := 112) hx hb dX10_best_101 (by decide) ?_
      exact K112 _ hrec41 q0 x1 x2 x3 x4 x5 x6 d5 hf _ _ ls (lv_sub hl [1, 2, 3, 4, 5, 6, 7] rfl) G
  have K41 : ∀ (n : Nat) (q0 : Nat) (x1 : Int32) (x2 : Int32) (x3 : Int32) (x4 : Int32) (x5 : Int32) (x6 : Int32) (d : xD), xloop (fun _ _ _ _ _ _ _ _ => none) (b_X10_best_41 sh) n q0 x1 x2 x3 x4 x5 x6 d = some (r, dz) → ∀ (H : Heap) (locs : List Loc) (ls : Array Slot), lv_has ls 8 [(0, .ref (b + q0)), (1, .int x1), (2, .int x2), (3, .int x3), (4, .int x4), (5, .int x5), (6, .int x6)] → xG D cid b A sh d s H locs → W p l e (xRm 8 0 0) s m av below meth c H locs 0 0 (MQ below (xQ D cid b ex A (some (.int r)) sh dz) av s 0 0 A) (F0 m 41 ls []) := by
    intro n
    induction n with
    | zero =>
      intro q0 x1 x2 x3 x4 x5 x6 d hf
      have hf : (none : Option (Int32 × xD)) = some (r, dz) := hf
      cases hf
    | succ n hrec41 =>
      intro q0 x1 x2 x3 x4 x5 x6 d hf H locs ls hl G
      have hf : b_X10_best_41 sh (xloop (fun _ _ _ _ _ _ _ _ => none) (b_X10_best_41 sh) n) q0 x1 x2 x3 x4 x5 x6 d = some (r, dz) := hf
      unfold b_X10_best_41 at hf
      refine lv_iload hx hb dX10_best_41 (lv_at hl 6 rfl) ?_
      refine lv_bipush (v := (30 : Int32)) hx hb dX10_best_43 (by decide) ?_
      refine lv_icmp_gt (tgt := 118) hx hb dX10_best_45 (by decide) (fun c => ?_) (fun c => ?_)
      · have hf := x_pos c hf
        exact K118 q0 x3 x4 x5 d hf _ _ ls (lv_sub hl [0, 3, 4, 5] rfl) G
      · have hf := x_neg c hf
        refine lv_aload_n hx hb dX10_best_48 rfl (lv_at hl 0 rfl) ?_
        refine lv_iload hx hb dX10_best_49 (lv_at hl 6 rfl) ?_
        refine lv_if_ne (tgt := 58) hx hb dX10_best_51 (by decide) (fun c => ?_) (fun c => ?_)
        · have hf := x_neg c hf
          refine lv_iload_n hx hb dX10_best_58 rfl (lv_at hl 1 rfl) ?_
          exact K59 _ hrec41 q0 x1 x2 x3 x4 x5 x6 q0 x1 d hf _ _ ls (lv_sub hl [0, 1, 2, 3, 4, 5, 6] rfl) G
        · have hf := x_pos c hf
          refine lv_iconst (v := (-1 : Int32)) hx hb dX10_best_54 (by decide) ?_
          refine lv_goto (tgt := 59) hx hb dX10_best_55 (by decide) ?_
          exact K59 _ hrec41 q0 x1 x2 x3 x4 x5 x6 q0 (-1 : Int32) d hf _ _ ls (lv_sub hl [0, 1, 2, 3, 4, 5, 6] rfl) G
  unfold f_X10_best at hf
  refine lv_aload_n hx hb dX10_best_0 rfl (lv_at hl 0 rfl) ?_
  refine lv_iconst (v := (0 : Int32)) hx hb dX10_best_1 (by decide) ?_
  obtain ⟨d10, hd10, hf⟩ := x_ob hf
  refine xr_putI (ci := 10) (k := 0) S G hd10 rfl kw_1168 dX10_best_2 (fun H locs G => ?_)
  refine lv_aload_n hx hb dX10_best_5 rfl (lv_at hl 0 rfl) ?_
  refine lv_iload_n hx hb dX10_best_6 rfl (lv_at hl 1 rfl) ?_
  obtain ⟨z11, hz11, hf⟩ := x_ob hf
  obtain ⟨hqz11, hz11⟩ := xon_of hz11
  refine xr_callV (ci := 10) (As := [.int x1]) (rest := []) (st1 := [.int z11.1]) S G hl.1 (fun _ => rfl) (mt_X10_isWalker l D cid b ex sa sv B0 sh q0 x1 d10 _ _ hz11) hqz11 (by decide) kw_1504 kw_1506 ks_62 kw_17 kw_1507 hd_X10_isWalker ⟨Nat.le_of_ble_eq_true rfl, Nat.le_of_ble_eq_true rfl⟩ rfl rfl rfl (Nat.le_of_ble_eq_true rfl) ⟨Nat.le_of_ble_eq_true rfl, Nat.le_of_ble_eq_true rfl⟩ dX10_best_7 (fun H locs G => ?_)
  refine lv_if_eq (tgt := 30) hx hb dX10_best_10 (by decide) (fun c => ?_) (fun c => ?_)
  · have hf := x_pos c hf
    exact K30 z11.2 hf _ _ ls (lv_sub hl [] rfl) G
  · have hf := x_neg c hf
    refine lv_aload_n hx hb dX10_best_13 rfl (lv_at hl 0 rfl) ?_
    refine lv_iload_n hx hb dX10_best_14 rfl (lv_at hl 2 rfl) ?_
    obtain ⟨z12, hz12, hf⟩ := x_ob hf
    obtain ⟨hqz12, hz12⟩ := xon_of hz12
    refine xr_callV (ci := 10) (As := [.int x2]) (rest := []) (st1 := [.int z12.1]) S G hl.1 (fun _ => rfl) (mt_X10_isBench l D cid b ex sa sv B0 sh q0 x2 z11.2 _ _ hz12) hqz12 (by decide) kw_1512 kw_1514 ks_63 kw_17 kw_1515 hd_X10_isBench ⟨Nat.le_of_ble_eq_true rfl, Nat.le_of_ble_eq_true rfl⟩ rfl rfl rfl (Nat.le_of_ble_eq_true rfl) ⟨Nat.le_of_ble_eq_true rfl, Nat.le_of_ble_eq_true rfl⟩ dX10_best_15 (fun H locs G => ?_)
    refine lv_if_eq (tgt := 30) hx hb dX10_best_18 (by decide) (fun c => ?_) (fun c => ?_)
    · have hf := x_pos c hf
      exact K30 z12.2 hf _ _ ls (lv_sub hl [] rfl) G
    · have hf := x_neg c hf
      refine lv_iload_n hx hb dX10_best_21 rfl (lv_at hl 3 rfl) ?_
      refine lv_if_lt (tgt := 30) hx hb dX10_best_22 (by decide) (fun c => ?_) (fun c => ?_)
      · have hf := x_pos c hf
        exact K30 z12.2 hf _ _ ls (lv_sub hl [] rfl) G
      · have hf := x_neg c hf
        refine lv_iload_n hx hb dX10_best_25 rfl (lv_at hl 3 rfl) ?_
        refine lv_iconst (v := (1 : Int32)) hx hb dX10_best_26 (by decide) ?_
        refine lv_icmp_le (tgt := 32) hx hb dX10_best_27 (by decide) (fun c => ?_) (fun c => ?_)
        · have hf := x_pos c hf
          refine lv_iconst (v := (-1 : Int32)) hx hb dX10_best_32 (by decide) ?_
          refine lv_istore (lv' := [(4, .int (-1 : Int32)), (0, .ref (b + q0)), (1, .int x1), (2, .int x2), (3, .int x3)]) hx hb dX10_best_33 hl (by decide) rfl (fun ls hl => ?_)
          refine lv_iconst (v := (-1 : Int32)) hx hb dX10_best_35 (by decide) ?_
          refine lv_istore (lv' := [(5, .int (-1 : Int32)), (4, .int (-1 : Int32)), (0, .ref (b + q0)), (1, .int x1), (2, .int x2), (3, .int x3)]) hx hb dX10_best_36 hl (by decide) rfl (fun ls hl => ?_)
          refine lv_iconst (v := (0 : Int32)) hx hb dX10_best_38 (by decide) ?_
          refine lv_istore (lv' := [(6, .int (0 : Int32)), (5, .int (-1 : Int32)), (4, .int (-1 : Int32)), (0, .ref (b + q0)), (1, .int x1), (2, .int x2), (3, .int x3)]) hx hb dX10_best_39 hl (by decide) rfl (fun ls hl => ?_)
          exact K41 xF q0 x1 x2 x3 (-1 : Int32) (-1 : Int32) (0 : Int32) z12.2 hf _ _ ls (lv_sub hl [3, 4, 5, 6, 2, 1, 0] rfl) G
        · have hf := x_neg c hf
          exact K30 z12.2 hf _ _ ls (lv_sub hl [] rfl) G
-- HalfLandingsModel.doCover(II)Z
theorem dX10_doCover_0 : decode cX10_doCover 0 = .ok (.iconst 0, 1) := by decide +kernel
theorem dX10_doCover_1 : decode cX10_doCover 1 = .ok (.istore_n 3, 1) := by decide +kernel
theorem dX10_doCover_2 : decode cX10_doCover 2 = .ok (.iconst 1, 1) := by decide +kernel
theorem dX10_doCover_3 : decode cX10_doCover 3 = .ok (.istore 4, 2) := by decide +kernel
theorem dX10_doCover_5 : decode cX10_doCover 5 = .ok (.iload 4, 2) := by decide +kernel
theorem dX10_doCover_7 : decode cX10_doCover 7 = .ok (.aload_n 0, 1) := by decide +kernel
theorem dX10_doCover_8 : decode cX10_doCover 8 = .ok (.getfield 13, 3) := by decide +kernel
theorem dX10_doCover_11 : decode cX10_doCover 11 = .ok (.iconst 0, 1) := by decide +kernel
theorem dX10_doCover_12 : decode cX10_doCover 12 = .ok (.iaload, 1) := by decide +kernel
theorem dX10_doCover_13 : decode cX10_doCover 13 = .ok (.if_icmp .gt 59, 3) := by decide +kernel
theorem dX10_doCover_16 : decode cX10_doCover 16 = .ok (.aload_n 0, 1) := by decide +kernel
theorem dX10_doCover_17 : decode cX10_doCover 17 = .ok (.iload 4, 2) := by decide +kernel
theorem dX10_doCover_19 : decode cX10_doCover 19 = .ok (.invokevirtual 359, 3) := by decide +kernel
theorem dX10_doCover_22 : decode cX10_doCover 22 = .ok (.istore 5, 2) := by decide +kernel
theorem dX10_doCover_24 : decode cX10_doCover 24 = .ok (.iload 4, 2) := by decide +kernel
theorem dX10_doCover_26 : decode cX10_doCover 26 = .ok (.aload_n 0, 1) := by decide +kernel
theorem dX10_doCover_27 : decode cX10_doCover 27 = .ok (.getfield 13, 3) := by decide +kernel
theorem dX10_doCover_30 : decode cX10_doCover 30 = .ok (.iconst 0, 1) := by decide +kernel
theorem dX10_doCover_31 : decode cX10_doCover 31 = .ok (.iaload, 1) := by decide +kernel
theorem dX10_doCover_32 : decode cX10_doCover 32 = .ok (.if_icmp .eq 21, 3) := by decide +kernel
theorem dX10_doCover_35 : decode cX10_doCover 35 = .ok (.iload 5, 2) := by decide +kernel
theorem dX10_doCover_37 : decode cX10_doCover 37 = .ok (.iconst (-1), 1) := by decide +kernel
theorem dX10_doCover_38 : decode cX10_doCover 38 = .ok (.if_icmp .eq 28, 3) := by decide +kernel
theorem dX10_doCover_41 : decode cX10_doCover 41 = .ok (.iload_n 1, 1) := by decide +kernel
theorem dX10_doCover_42 : decode cX10_doCover 42 = .ok (.iload 5, 2) := by decide +kernel
theorem dX10_doCover_44 : decode cX10_doCover 44 = .ok (.ishr, 1) := by decide +kernel
theorem dX10_doCover_45 : decode cX10_doCover 45 = .ok (.iconst 1, 1) := by decide +kernel
theorem dX10_doCover_46 : decode cX10_doCover 46 = .ok (.iand, 1) := by decide +kernel
theorem dX10_doCover_47 : decode cX10_doCover 47 = .ok (.ifCond .ne 6, 3) := by decide +kernel
theorem dX10_doCover_50 : decode cX10_doCover 50 = .ok (.goto 16, 3) := by decide +kernel
theorem dX10_doCover_53 : decode cX10_doCover 53 = .ok (.iload 4, 2) := by decide +kernel
theorem dX10_doCover_55 : decode cX10_doCover 55 = .ok (.iload_n 3, 1) := by decide +kernel
theorem dX10_doCover_56 : decode cX10_doCover 56 = .ok (.isub, 1) := by decide +kernel
theorem dX10_doCover_57 : decode cX10_doCover 57 = .ok (.iload_n 2, 1) := by decide +kernel
theorem dX10_doCover_58 : decode cX10_doCover 58 = .ok (.if_icmp .le 5, 3) := by decide +kernel
theorem dX10_doCover_61 : decode cX10_doCover 61 = .ok (.iconst 0, 1) := by decide +kernel
theorem dX10_doCover_62 : decode cX10_doCover 62 = .ok (.ireturn, 1) := by decide +kernel
theorem dX10_doCover_63 : decode cX10_doCover 63 = .ok (.iload 4, 2) := by decide +kernel
theorem dX10_doCover_65 : decode cX10_doCover 65 = .ok (.istore_n 3, 1) := by decide +kernel
theorem dX10_doCover_66 : decode cX10_doCover 66 = .ok (.iinc 4 1, 3) := by decide +kernel
theorem dX10_doCover_69 : decode cX10_doCover 69 = .ok (.goto (-64), 3) := by decide +kernel
theorem dX10_doCover_72 : decode cX10_doCover 72 = .ok (.iconst 1, 1) := by decide +kernel
theorem dX10_doCover_73 : decode cX10_doCover 73 = .ok (.ireturn, 1) := by decide +kernel
theorem hd_X10_doCover : yX10_doCover.cls = xCn 10 ∧ yX10_doCover.cls ≠ "java/lang/invoke/MethodHandle" ∧ yX10_doCover.cls ≠ "java/lang/invoke/VarHandle" ∧ (parseMethodDescriptor yX10_doCover.desc).map (fun d => d.parameters.length) = some 2 := by decide +kernel
def k_X10_doCover_72 (sh : List xSh) (d : xD) : Option (Int32 × xD) :=
  some ((1 : Int32), d)
def k_X10_doCover_66 (sh : List xSh) (rec5 : Nat → Int32 → Int32 → Int32 → Int32 → xD → Option (Int32 × xD)) (q0 : Nat) (x1 : Int32) (x2 : Int32) (x3 : Int32) (x4 : Int32) (d : xD) : Option (Int32 × xD) :=
  rec5 q0 x1 x2 x3 (x4 + 1) d
def k_X10_doCover_61 (sh : List xSh) (d : xD) : Option (Int32 × xD) :=
  some ((0 : Int32), d)
def k_X10_doCover_53 (sh : List xSh) (rec5 : Nat → Int32 → Int32 → Int32 → Int32 → xD → Option (Int32 × xD)) (q0 : Nat) (x1 : Int32) (x2 : Int32) (x3 : Int32) (x4 : Int32) (d : xD) : Option (Int32 × xD) :=
  if (x4 - x3) ≤ x2 then (k_X10_doCover_66 sh rec5 q0 x1 x2 x4 x4 d) else (k_X10_doCover_61 sh d)
def b_X10_doCover_5 (sh : List xSh) (rec5 : Nat → Int32 → Int32 → Int32 → Int32 → xD → Option (Int32 × xD)) (q0 : Nat) (x1 : Int32) (x2 : Int32) (x3 : Int32) (x4 : Int32) (d : xD) : Option (Int32 × xD) :=
  (xgR 10 sh d q0 3).bind fun v1 => (xaI .int sh d v1 (0 : Int32)).bind fun v2 => if v2 < x4 then (k_X10_doCover_72 sh d) else ((xon 10 sh q0 (f_X10_benchAt sh q0 x4 d)).bind fun z3 => (xgR 10 sh z3.2 q0 3).bind fun v4 => (xaI .int sh z3.2 v4 (0 : Int32)).bind fun v5 => if x4 = v5 then (k_X10_doCover_53 sh rec5 q0 x1 x2 x3 x4 z3.2) else (if z3.1 = (-1 : Int32) then (k_X10_doCover_66 sh rec5 q0 x1 x2 x3 x4 z3.2) else (if ((x1 >>> (z3.1 &&& 31)) &&& (1 : Int32)) = 0 then (k_X10_doCover_66 sh rec5 q0 x1 x2 x3 x4 z3.2) else (k_X10_doCover_53 sh rec5 q0 x1 x2 x3 x4 z3.2))))
def f_X10_doCover (sh : List xSh) (q0 : Nat) (x1 : Int32) (x2 : Int32) (d : xD) : Option (Int32 × xD) :=
  xloop (fun _ _ _ _ _ _ => none) (b_X10_doCover_5 sh) xF q0 x1 x2 (0 : Int32) (1 : Int32) d
set_option maxHeartbeats 4000000 in
set_option maxRecDepth 100000 in
theorem mt_X10_doCover (l : Launch) (D : va_G) (cid : FieldType → ClassId) (b : Nat) (ex : Bool) (sa sv B0 : Nat) (sh : List xSh) (q0 : Nat) (x1 : Int32) (x2 : Int32) (d : xD) (r : Int32) (dz : xD) (hf : f_X10_doCover sh q0 x1 x2 d = some (r, dz)) : xMet l yX10_doCover cX10_doCover 6 (some .boolean) 2 0 0 D cid b ex sa sv B0 [.ref (b + q0), .int x1, .int x2] sh d (some (.int r)) sh dz := by
  refine xMet.of (by decide) (Nat.le_of_ble_eq_true rfl) ?_
  intro p e s m below meth c ls A S hr hin G hl
  have hl : lv_has ls 6 [(0, .ref (b + q0)), (1, .int x1), (2, .int x2)] := hl
  generalize ([.ref (b + q0), .int x1, .int x2] : List Value).toArray = av at S ⊢
  have hx := S.1
  have hb := S.2.1
  have hml := S.2.2.1
  have hown := S.2.2.2.1
  have hts := S.2.2.2.2.1
  have K72 : ∀ (d : xD), k_X10_doCover_72 sh d = some (r, dz) → ∀ (H : Heap) (locs : List Loc) (ls : Array Slot), lv_has ls 6 [] → xG D cid b A sh d s H locs → W p l e (xRm 2 0 0) s m av below meth c H locs 0 0 (MQ below (xQ D cid b ex A (some (.int r)) sh dz) av s 0 0 A) (F0 m 72 ls []) := by
    intro d hf H locs ls hl G
    unfold k_X10_doCover_72 at hf
    refine lv_iconst (v := (1 : Int32)) hx hb dX10_doCover_72 (by decide) ?_
    cases hf
    exact xr_zret S G (fun _ => rfl) hr (by decide) dX10_doCover_73
  have K66 : ∀ (rec5 : Nat → Int32 → Int32 → Int32 → Int32 → xD → Option (Int32 × xD)) (hrec5 : ∀ (q0 : Nat) (x1 : Int32) (x2 : Int32) (x3 : Int32) (x4 : Int32) (d : xD), rec5 q0 x1 x2 x3 x4 d = some (r, dz) → ∀ (H : Heap) (locs : List Loc) (ls : Array Slot), lv_has ls 6 [(0, .ref (b + q0)), (1, .int x1), (2, .int x2), (3, .int x3), (4, .int x4)] → xG D cid b A sh d s H locs → W p l e (xRm 2 0 0) s m av below meth c H locs 0 0 (MQ below (xQ D cid b ex A (some (.int r)) sh dz) av s 0 0 A) (F0 m 5 ls [])) (q0 : Nat) (x1 : Int32) (x2 : Int32) (x3 : Int32) (x4 : Int32) (d : xD), k_X10_doCover_66 sh rec5 q0 x1 x2 x3 x4 d = some (r, dz) → ∀ (H : Heap) (locs : List Loc) (ls : Array Slot), lv_has ls 6 [(0, .ref (b + q0)), (1, .int x1), (2, .int x2), (3, .int x3), (4, .int x4)] → xG D cid b A sh d s H locs → W p l e (xRm 2 0 0) s m av below meth c H locs 0 0 (MQ below (xQ D cid b ex A (some (.int r)) sh dz) av s 0 0 A) (F0 m 66 ls []) := by
    intro rec5 hrec5 q0 x1 x2 x3 x4 d hf H locs ls hl G
    unfold k_X10_doCover_66 at hf
    refine lv_iinc (v := (x4 + 1)) (lv' := [(4, .int (x4 + 1)), (0, .ref (b + q0)), (1, .int x1), (2, .int x2), (3, .int x3)]) hx hb dX10_doCover_66 hl (k := 4) rfl rfl (by decide) rfl (fun ls hl => ?_)
    refine lv_goto (tgt := 5) hx hb dX10_doCover_69 (by decide) ?_
    exact hrec5 q0 x1 x2 x3 (x4 + 1) d hf _ _ ls (lv_sub hl [1, 2, 3, 4, 0] rfl) G
  have K61 : ∀ (d : xD), k_X10_doCover_61 sh d = some (r, dz) → ∀ (H : Heap) (locs : List Loc) (ls : Array Slot), lv_has ls 6 [] → xG D cid b A sh d s H locs → W p l e (xRm 2 0 0) s m av below meth c H locs 0 0 (MQ below (xQ D cid b ex A (some (.int r)) sh dz) av s 0 0 A) (F0 m 61 ls []) := by
    intro d hf H locs ls hl G
    unfold k_X10_doCover_61 at hf
    refine lv_iconst (v := (0 : Int32)) hx hb dX10_doCover_61 (by decide) ?_
    cases hf
    exact xr_zret S G (fun _ => rfl) hr (by decide) dX10_doCover_62
  have K53 : ∀ (rec5 : Nat → Int32 → Int32 → Int32 → Int32 → xD → Option (Int32 × xD)) (hrec5 : ∀ (q0 : Nat) (x1 : Int32) (x2 : Int32) (x3 : Int32) (x4 : Int32) (d : xD), rec5 q0 x1 x2 x3 x4 d = some (r, dz) → ∀ (H : Heap) (locs : List Loc) (ls : Array Slot), lv_has ls 6 [(0, .ref (b + q0)), (1, .int x1), (2, .int x2), (3, .int x3), (4, .int x4)] → xG D cid b A sh d s H locs → W p l e (xRm 2 0 0) s m av below meth c H locs 0 0 (MQ below (xQ D cid b ex A (some (.int r)) sh dz) av s 0 0 A) (F0 m 5 ls [])) (q0 : Nat) (x1 : Int32) (x2 : Int32) (x3 : Int32) (x4 : Int32) (d : xD), k_X10_doCover_53 sh rec5 q0 x1 x2 x3 x4 d = some (r, dz) → ∀ (H : Heap) (locs : List Loc) (ls : Array Slot), lv_has ls 6 [(0, .ref (b + q0)), (1, .int x1), (2, .int x2), (3, .int x3), (4, .int x4)] → xG D cid b A sh d s H locs → W p l e (xRm 2 0 0) s m av below meth c H locs 0 0 (MQ below (xQ D cid b ex A (some (.int r)) sh dz) av s 0 0 A) (F0 m 53 ls []) := by
    intro rec5 hrec5 q0 x1 x2 x3 x4 d hf H locs ls hl G
    unfold k_X10_doCover_53 at hf
    refine lv_iload hx hb dX10_doCover_53 (lv_at hl 4 rfl) ?_
    refine lv_iload_n hx hb dX10_doCover_55 rfl (lv_at hl 3 rfl) ?_
    refine lv_isub hx hb dX10_doCover_56 ?_
    refine lv_iload_n hx hb dX10_doCover_57 rfl (lv_at hl 2 rfl) ?_
    refine lv_icmp_le (tgt := 63) hx hb dX10_doCover_58 (by decide) (fun c => ?_) (fun c => ?_)
    · have hf := x_pos c hf
      refine lv_iload hx hb dX10_doCover_63 (lv_at hl 4 rfl) ?_
      refine lv_istore_n (lv' := [(3, .int x4), (0, .ref (b + q0)), (1, .int x1), (2, .int x2), (4, .int x4)]) hx hb dX10_doCover_65 rfl hl (by decide) rfl (fun ls hl => ?_)
      exact K66 _ hrec5 q0 x1 x2 x4 x4 d hf _ _ ls (lv_sub hl [1, 2, 3, 0, 4] rfl) G
    · have hf := x_neg c hf
      exact K61 d hf _ _ ls (lv_sub hl [] rfl) G
  have K5 : ∀ (n : Nat) (q0 : Nat) (x1 : Int32) (x2 : Int32) (x3 : Int32) (x4 : Int32) (d : xD), xloop (fun _ _ _ _ _ _ => none) (b_X10_doCover_5 sh) n q0 x1 x2 x3 x4 d = some (r, dz) → ∀ (H : Heap) (locs : List Loc) (ls : Array Slot), lv_has ls 6 [(0, .ref (b + q0)), (1, .int x1), (2, .int x2), (3, .int x3), (4, .int x4)] → xG D cid b A sh d s H locs → W p l e (xRm 2 0 0) s m av below meth c H locs 0 0 (MQ below (xQ D cid b ex A (some (.int r)) sh dz) av s 0 0 A) (F0 m 5 ls []) := by
    intro n
    induction n with
    | zero =>
      intro q0 x1 x2 x3 x4 d hf
      have hf : (none : Option (Int32 × xD)) = some (r, dz) := hf
      cases hf
    | succ n hrec5 =>
      intro q0 x1 x2 x3 x4 d hf H locs ls hl G
      have hf : b_X10_doCover_5 sh (xloop (fun _ _ _ _ _ _ => none) (b_X10_doCover_5 sh) n) q0 x1 x2 x3 x4 d = some (r, dz) := hf
      unfold b_X10_doCover_5 at hf
      refine lv_iload hx hb dX10_doCover_5 (lv_at hl 4 rfl) ?_
      refine lv_aload_n hx hb dX10_doCover_7 rfl (lv_at hl 0 rfl) ?_
      obtain ⟨v1, hv1, hf⟩ := x_ob hf
      refine xr_getR (ci := 10) (k := 3) S G hv1 rfl kw_1171 dX10_doCover_8 ?_
      refine lv_iconst (v := (0 : Int32)) hx hb dX10_doCover_11 (by decide) ?_
      obtain ⟨v2, hv2, hf⟩ := x_ob hf
      refine xr_iald S G hv2 dX10_doCover_12 ?_
      refine lv_icmp_gt (tgt := 72) hx hb dX10_doCover_13 (by decide) (fun c => ?_) (fun c => ?_)
      · have hf := x_pos c hf
        exact K72 d hf _ _ ls (lv_sub hl [] rfl) G
      · have hf := x_neg c hf
        refine lv_aload_n hx hb dX10_doCover_16 rfl (lv_at hl 0 rfl) ?_
        refine lv_iload hx hb dX10_doCover_17 (lv_at hl 4 rfl) ?_
        obtain ⟨z3, hz3, hf⟩ := x_ob hf
        obtain ⟨hqz3, hz3⟩ := xon_of hz3
        refine xr_callV (ci := 10) (As := [.int x4]) (rest := []) (st1 := [.int z3.1]) S G hl.1 (fun _ => rfl) (mt_X10_benchAt l D cid b ex sa sv B0 sh q0 x4 d _ _ hz3) hqz3 (by decide) kw_1572 kw_1574 ks_71 kw_17 kw_1575 hd_X10_benchAt ⟨Nat.le_of_ble_eq_true rfl, Nat.le_of_ble_eq_true rfl⟩ rfl rfl rfl (Nat.le_of_ble_eq_true rfl) ⟨Nat.le_of_ble_eq_true rfl, Nat.le_of_ble_eq_true rfl⟩ dX10_doCover_19 (fun H locs G => ?_)
        refine lv_istore (lv' := [(5, .int z3.1), (0, .ref (b + q0)), (1, .int x1), (2, .int x2), (3, .int x3), (4, .int x4)]) hx hb dX10_doCover_22 hl (by decide) rfl (fun ls hl => ?_)
        refine lv_iload hx hb dX10_doCover_24 (lv_at hl 5 rfl) ?_
        refine lv_aload_n hx hb dX10_doCover_26 rfl (lv_at hl 1 rfl) ?_
        obtain ⟨v4, hv4, hf⟩ := x_ob hf
        refine xr_getR (ci := 10) (k := 3) S G hv4 rfl kw_1171 dX10_doCover_27 ?_
        refine lv_iconst (v := (0 : Int32)) hx hb dX10_doCover_30 (by decide) ?_
        obtain ⟨v5, hv5, hf⟩ := x_ob hf
        refine xr_iald S G hv5 dX10_doCover_31 ?_
        refine lv_icmp_eq (tgt := 53) hx hb dX10_doCover_32 (by decide) (fun c => ?_) (fun c => ?_)
        · have hf := x_pos c hf
          exact K53 _ hrec5 q0 x1 x2 x3 x4 z3.2 hf _ _ ls (lv_sub hl [1, 2, 3, 4, 5] rfl) G
        · have hf := x_neg c hf
          refine lv_iload hx hb dX10_doCover_35 (lv_at hl 0 rfl) ?_
          refine lv_iconst (v := (-1 : Int32)) hx hb dX10_doCover_37 (by decide) ?_
          refine lv_icmp_eq (tgt := 66) hx hb dX10_doCover_38 (by decide) (fun c => ?_) (fun c => ?_)
          · have hf := x_pos c hf
            exact K66 _ hrec5 q0 x1 x2 x3 x4 z3.2 hf _ _ ls (lv_sub hl [1, 2, 3, 4, 5] rfl) G
          · have hf := x_neg c hf
            refine lv_iload_n hx hb dX10_doCover_41 rfl (lv_at hl 2 rfl) ?_
            refine lv_iload hx hb dX10_doCover_42 (lv_at hl 0 rfl) ?_
            refine lv_ishr hx hb dX10_doCover_44 ?_
            refine lv_iconst (v := (1 : Int32)) hx hb dX10_doCover_45 (by decide) ?_
            refine lv_iand hx hb dX10_doCover_46 ?_
            refine lv_if_ne (tgt := 53) hx hb dX10_doCover_47 (by decide) (fun c => ?_) (fun c => ?_)
            · have hf := x_neg c hf
              exact K53 _ hrec5 q0 x1 x2 x3 x4 z3.2 hf _ _ ls (lv_sub hl [1, 2, 3, 4, 5] rfl) G
            · have hf := x_pos c hf
              refine lv_goto (tgt := 66) hx hb dX10_doCover_50 (by decide) ?_
              exact K66 _ hrec5 q0 x1 x2 x3 x4 z3.2 hf _ _ ls (lv_sub hl [1, 2, 3, 4, 5] rfl) G
  unfold f_X10_doCover at hf
  refine lv_iconst (v := (0 : Int32)) hx hb dX10_doCover_0 (by decide) ?_
  refine lv_istore_n (lv' := [(3, .int (0 : Int32)), (0, .ref (b + q0)), (1, .int x1), (2, .int x2)]) hx hb dX10_doCover_1 rfl hl (by decide) rfl (fun ls hl => ?_)
  refine lv_iconst (v := (1 : Int32)) hx hb dX10_doCover_2 (by decide) ?_
  refine lv_istore (lv' := [(4, .int (1 : Int32)), (3, .int (0 : Int32)), (0, .ref (b + q0)), (1, .int x1), (2, .int x2)]) hx hb dX10_doCover_3 hl (by decide) rfl (fun ls hl => ?_)
  exact K5 xF q0 x1 x2 (0 : Int32) (1 : Int32) d hf _ _ ls (lv_sub hl [2, 3, 4, 1, 0] rfl) G

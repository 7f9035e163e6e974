-- HalfLandings$Plan.hasWalker(I)Z
theorem dX3_hasWalker_0 : decode cX3_hasWalker 0 = .ok (.iload_n 1, 1) := by decide +kernel
theorem dX3_hasWalker_1 : decode cX3_hasWalker 1 = .ok (.ifCond .lt 15, 3) := by decide +kernel
theorem dX3_hasWalker_4 : decode cX3_hasWalker 4 = .ok (.iload_n 1, 1) := by decide +kernel
theorem dX3_hasWalker_5 : decode cX3_hasWalker 5 = .ok (.aload_n 0, 1) := by decide +kernel
theorem dX3_hasWalker_6 : decode cX3_hasWalker 6 = .ok (.getfield 40, 3) := by decide +kernel
theorem dX3_hasWalker_9 : decode cX3_hasWalker 9 = .ok (.if_icmp .ge 7, 3) := by decide +kernel
theorem dX3_hasWalker_12 : decode cX3_hasWalker 12 = .ok (.iconst 1, 1) := by decide +kernel
theorem dX3_hasWalker_13 : decode cX3_hasWalker 13 = .ok (.goto 4, 3) := by decide +kernel
theorem dX3_hasWalker_16 : decode cX3_hasWalker 16 = .ok (.iconst 0, 1) := by decide +kernel
theorem dX3_hasWalker_17 : decode cX3_hasWalker 17 = .ok (.ireturn, 1) := by decide +kernel
theorem hd_X3_hasWalker : yX3_hasWalker.cls = xCn 3 ∧ yX3_hasWalker.cls ≠ "java/lang/invoke/MethodHandle" ∧ yX3_hasWalker.cls ≠ "java/lang/invoke/VarHandle" ∧ (parseMethodDescriptor yX3_hasWalker.desc).map (fun d => d.parameters.length) = some 1 := by decide +kernel
def k_X3_hasWalker_17 (sh : List xSh) (y0 : Int32) (d : xD) : Option (Int32 × xD) :=
  (xz y0).bind fun v1 => some (v1, d)
def k_X3_hasWalker_16 (sh : List xSh) (d : xD) : Option (Int32 × xD) :=
  k_X3_hasWalker_17 sh (0 : Int32) d
def f_X3_hasWalker (sh : List xSh) (q0 : Nat) (x1 : Int32) (d : xD) : Option (Int32 × xD) :=
  if x1 < 0 then (k_X3_hasWalker_16 sh d) else ((xgI 3 sh d q0 9).bind fun v2 => if v2 ≤ x1 then (k_X3_hasWalker_16 sh d) else (k_X3_hasWalker_17 sh (1 : Int32) d))
set_option maxHeartbeats 4000000 in
set_option maxRecDepth 100000 in
theorem mt_X3_hasWalker (l : Launch) (D : va_G) (cid : FieldType → ClassId) (b : Nat) (ex : Bool) (sa sv B0 : Nat) (sh : List xSh) (q0 : Nat) (x1 : Int32) (d : xD) (r : Int32) (dz : xD) (hf : f_X3_hasWalker sh q0 x1 d = some (r, dz)) : xMet l yX3_hasWalker cX3_hasWalker 2 (some .boolean) 0 0 0 D cid b ex sa sv B0 [.ref (b + q0), .int x1] sh d (some (.int r)) sh dz := by
  refine xMet.of (by decide) (Nat.le_of_ble_eq_true rfl) ?_
  intro p e s m below meth c ls A S hr hin G hl
  have hl : lv_has ls 2 [(0, .ref (b + q0)), (1, .int x1)] := hl
  generalize ([.ref (b + q0), .int x1] : List Value).toArray = av at S ⊢
  have hx := S.1
  have hb := S.2.1
  have hml := S.2.2.1
  have hown := S.2.2.2.1
  have hts := S.2.2.2.2.1
  have K17 : ∀ (y0 : Int32) (d : xD), k_X3_hasWalker_17 sh y0 d = some (r, dz) → ∀ (H : Heap) (locs : List Loc) (ls : Array Slot), lv_has ls 2 [] → xG D cid b A sh d s H locs → W p l e (xRm 0 0 0) s m av below meth c H locs 0 0 (MQ below (xQ D cid b ex A (some (.int r)) sh dz) av s 0 0 A) (F0 m 17 ls [.int y0]) := by
    intro y0 d hf H locs ls hl G
    unfold k_X3_hasWalker_17 at hf
    obtain ⟨v1, hv1, hf⟩ := x_ob hf
    cases hf
    exact xr_zret S G (fun _ => rfl) hr hv1 dX3_hasWalker_17
  have K16 : ∀ (d : xD), k_X3_hasWalker_16 sh d = some (r, dz) → ∀ (H : Heap) (locs : List Loc) (ls : Array Slot), lv_has ls 2 [] → xG D cid b A sh d s H locs → W p l e (xRm 0 0 0) s m av below meth c H locs 0 0 (MQ below (xQ D cid b ex A (some (.int r)) sh dz) av s 0 0 A) (F0 m 16 ls []) := by
    intro d hf H locs ls hl G
    unfold k_X3_hasWalker_16 at hf
    refine lv_iconst (v := (0 : Int32)) hx hb dX3_hasWalker_16 (by decide) ?_
    exact K17 (0 : Int32) d hf _ _ ls (lv_sub hl [] rfl) G
  unfold f_X3_hasWalker at hf
  refine lv_iload_n hx hb dX3_hasWalker_0 rfl (lv_at hl 1 rfl) ?_
  refine lv_if_lt (tgt := 16) hx hb dX3_hasWalker_1 (by decide) (fun c => ?_) (fun c => ?_)
  · have hf := x_pos c hf
    exact K16 d hf _ _ ls (lv_sub hl [] rfl) G
  · have hf := x_neg c hf
    refine lv_iload_n hx hb dX3_hasWalker_4 rfl (lv_at hl 1 rfl) ?_
    refine lv_aload_n hx hb dX3_hasWalker_5 rfl (lv_at hl 0 rfl) ?_
    obtain ⟨v2, hv2, hf⟩ := x_ob hf
    refine xr_getI (ci := 3) (k := 9) S G hv2 rfl kw_102 dX3_hasWalker_6 ?_
    refine lv_icmp_ge (tgt := 16) hx hb dX3_hasWalker_9 (by decide) (fun c => ?_) (fun c => ?_)
    · have hf := x_pos c hf
      exact K16 d hf _ _ ls (lv_sub hl [] rfl) G
    · have hf := x_neg c hf
      refine lv_iconst (v := (1 : Int32)) hx hb dX3_hasWalker_12 (by decide) ?_
      refine lv_goto (tgt := 17) hx hb dX3_hasWalker_13 (by decide) ?_
      exact K17 (1 : Int32) d hf _ _ ls (lv_sub hl [] rfl) G
-- HalfLandings$Scene.sittersOn(I)I
theorem dX4_sittersOn_0 : decode cX4_sittersOn 0 = .ok (.iconst 0, 1) := by decide +kernel
theorem dX4_sittersOn_1 : decode cX4_sittersOn 1 = .ok (.istore_n 2, 1) := by decide +kernel
theorem dX4_sittersOn_2 : decode cX4_sittersOn 2 = .ok (.iconst 0, 1) := by decide +kernel
theorem dX4_sittersOn_3 : decode cX4_sittersOn 3 = .ok (.istore_n 3, 1) := by decide +kernel
theorem dX4_sittersOn_4 : decode cX4_sittersOn 4 = .ok (.iload_n 3, 1) := by decide +kernel
theorem dX4_sittersOn_5 : decode cX4_sittersOn 5 = .ok (.aload_n 0, 1) := by decide +kernel
theorem dX4_sittersOn_6 : decode cX4_sittersOn 6 = .ok (.getfield 25, 3) := by decide +kernel
theorem dX4_sittersOn_9 : decode cX4_sittersOn 9 = .ok (.if_icmp .ge 35, 3) := by decide +kernel
theorem dX4_sittersOn_12 : decode cX4_sittersOn 12 = .ok (.aload_n 0, 1) := by decide +kernel
theorem dX4_sittersOn_13 : decode cX4_sittersOn 13 = .ok (.getfield 28, 3) := by decide +kernel
theorem dX4_sittersOn_16 : decode cX4_sittersOn 16 = .ok (.iload_n 3, 1) := by decide +kernel
theorem dX4_sittersOn_17 : decode cX4_sittersOn 17 = .ok (.iaload, 1) := by decide +kernel
theorem dX4_sittersOn_18 : decode cX4_sittersOn 18 = .ok (.iconst 2, 1) := by decide +kernel
theorem dX4_sittersOn_19 : decode cX4_sittersOn 19 = .ok (.if_icmp .ne 19, 3) := by decide +kernel
theorem dX4_sittersOn_22 : decode cX4_sittersOn 22 = .ok (.aload_n 0, 1) := by decide +kernel
theorem dX4_sittersOn_23 : decode cX4_sittersOn 23 = .ok (.getfield 32, 3) := by decide +kernel
theorem dX4_sittersOn_26 : decode cX4_sittersOn 26 = .ok (.iload_n 3, 1) := by decide +kernel
theorem dX4_sittersOn_27 : decode cX4_sittersOn 27 = .ok (.iaload, 1) := by decide +kernel
theorem dX4_sittersOn_28 : decode cX4_sittersOn 28 = .ok (.iload_n 1, 1) := by decide +kernel
theorem dX4_sittersOn_29 : decode cX4_sittersOn 29 = .ok (.if_icmp .ne 9, 3) := by decide +kernel
theorem dX4_sittersOn_32 : decode cX4_sittersOn 32 = .ok (.iload_n 2, 1) := by decide +kernel
theorem dX4_sittersOn_33 : decode cX4_sittersOn 33 = .ok (.iconst 1, 1) := by decide +kernel
theorem dX4_sittersOn_34 : decode cX4_sittersOn 34 = .ok (.iload_n 3, 1) := by decide +kernel
theorem dX4_sittersOn_35 : decode cX4_sittersOn 35 = .ok (.ishl, 1) := by decide +kernel
theorem dX4_sittersOn_36 : decode cX4_sittersOn 36 = .ok (.ior, 1) := by decide +kernel
theorem dX4_sittersOn_37 : decode cX4_sittersOn 37 = .ok (.istore_n 2, 1) := by decide +kernel
theorem dX4_sittersOn_38 : decode cX4_sittersOn 38 = .ok (.iinc 3 1, 3) := by decide +kernel
theorem dX4_sittersOn_41 : decode cX4_sittersOn 41 = .ok (.goto (-37), 3) := by decide +kernel
theorem dX4_sittersOn_44 : decode cX4_sittersOn 44 = .ok (.iload_n 2, 1) := by decide +kernel
theorem dX4_sittersOn_45 : decode cX4_sittersOn 45 = .ok (.ireturn, 1) := by decide +kernel
theorem hd_X4_sittersOn : yX4_sittersOn.cls = xCn 4 ∧ yX4_sittersOn.cls ≠ "java/lang/invoke/MethodHandle" ∧ yX4_sittersOn.cls ≠ "java/lang/invoke/VarHandle" ∧ (parseMethodDescriptor yX4_sittersOn.desc).map (fun d => d.parameters.length) = some 1 := by decide +kernel
def k_X4_sittersOn_44 (sh : List xSh) (x2 : Int32) (d : xD) : Option (Int32 × xD) :=
  some (x2, d)
def k_X4_sittersOn_38 (sh : List xSh) (rec4 : Nat → Int32 → Int32 → Int32 → xD → Option (Int32 × xD)) (q0 : Nat) (x1 : Int32) (x2 : Int32) (x3 : Int32) (d : xD) : Option (Int32 × xD) :=
  rec4 q0 x1 x2 (x3 + 1) d
def b_X4_sittersOn_4 (sh : List xSh) (rec4 : Nat → Int32 → Int32 → Int32 → xD → Option (Int32 × xD)) (q0 : Nat) (x1 : Int32) (x2 : Int32) (x3 : Int32) (d : xD) : Option (Int32 × xD) :=
  (xgI 4 sh d q0 4).bind fun v1 => if v1 ≤ x3 then (k_X4_sittersOn_44 sh x2 d) else ((xgR 4 sh d q0 5).bind fun v2 => (xaI .int sh d v2 x3).bind fun v3 => if v3 = (2 : Int32) then ((xgR 4 sh d q0 6).bind fun v4 => (xaI .int sh d v4 x3).bind fun v5 => if v5 = x1 then (k_X4_sittersOn_38 sh rec4 q0 x1 (x2 ||| ((1 : Int32) <<< (x3 &&& 31))) x3 d) else (k_X4_sittersOn_38 sh rec4 q0 x1 x2 x3 d)) else (k_X4_sittersOn_38 sh rec4 q0 x1 x2 x3 d))
def f_X4_sittersOn (sh : List xSh) (q0 : Nat) (x1 : Int32) (d : xD) : Option (Int32 × xD) :=
  xloop (fun _ _ _ _ _ => none) (b_X4_sittersOn_4 sh) xF q0 x1 (0 : Int32) (0 : Int32) d
set_option maxHeartbeats 4000000 in
set_option maxRecDepth 100000 in
theorem mt_X4_sittersOn (l : Launch) (D : va_G) (cid : FieldType → ClassId) (b : Nat) (ex : Bool) (sa sv B0 : Nat) (sh : List xSh) (q0 : Nat) (x1 : Int32) (d : xD) (r : Int32) (dz : xD) (hf : f_X4_sittersOn sh q0 x1 d = some (r, dz)) : xMet l yX4_sittersOn cX4_sittersOn 4 (some .int) 0 0 0 D cid b ex sa sv B0 [.ref (b + q0), .int x1] sh d (some (.int r)) sh dz := by
  refine xMet.of (by decide) (Nat.le_of_ble_eq_true rfl) ?_
  intro p e s m below meth c ls A S hr hin G hl
  have hl : lv_has ls 4 [(0, .ref (b + q0)), (1, .int x1)] := hl
  generalize ([.ref (b + q0), .int x1] : List Value).toArray = av at S ⊢
  have hx := S.1
  have hb := S.2.1
  have hml := S.2.2.1
  have hown := S.2.2.2.1
  have hts := S.2.2.2.2.1
  have K44 : ∀ (x2 : Int32) (d : xD), k_X4_sittersOn_44 sh x2 d = some (r, dz) → ∀ (H : Heap) (locs : List Loc) (ls : Array Slot), lv_has ls 4 [(2, .int x2)] → xG D cid b A sh d s H locs → W p l e (xRm 0 0 0) s m av below meth c H locs 0 0 (MQ below (xQ D cid b ex A (some (.int r)) sh dz) av s 0 0 A) (F0 m 44 ls []) := by
    intro x2 d hf H locs ls hl G
    unfold k_X4_sittersOn_44 at hf
    refine lv_iload_n hx hb dX4_sittersOn_44 rfl (lv_at hl 0 rfl) ?_
    cases hf
    exact xr_iret S G (fun _ => rfl) hr dX4_sittersOn_45
  have K38 : ∀ (rec4 : Nat → Int32 → Int32 → Int32 → xD → Option (Int32 × xD)) (hrec4 : ∀ (q0 : Nat) (x1 : Int32) (x2 : Int32) (x3 : Int32) (d : xD), rec4 q0 x1 x2 x3 d = some (r, dz) → ∀ (H : Heap) (locs : List Loc) (ls : Array Slot), lv_has ls 4 [(0, .ref (b + q0)), (1, .int x1), (2, .int x2), (3, .int x3)] → xG D cid b A sh d s H locs → W p l e (xRm 0 0 0) s m av below meth c H locs 0 0 (MQ below (xQ D cid b ex A (some (.int r)) sh dz) av s 0 0 A) (F0 m 4 ls [])) (q0 : Nat) (x1 : Int32) (x2 : Int32) (x3 : Int32) (d : xD), k_X4_sittersOn_38 sh rec4 q0 x1 x2 x3 d = some (r, dz) → ∀ (H : Heap) (locs : List Loc) (ls : Array Slot), lv_has ls 4 [(0, .ref (b + q0)), (1, .int x1), (2, .int x2), (3, .int x3)] → xG D cid b A sh d s H locs → W p l e (xRm 0 0 0) s m av below meth c H locs 0 0 (MQ below (xQ D cid b ex A (some (.int r)) sh dz) av s 0 0 A) (F0 m 38 ls []) := by
    intro rec4 hrec4 q0 x1 x2 x3 d hf H locs ls hl G
    unfold k_X4_sittersOn_38 at hf
    refine lv_iinc (v := (x3 + 1)) (lv' := [(3, .int (x3 + 1)), (0, .ref (b + q0)), (1, .int x1), (2, .int x2)]) hx hb dX4_sittersOn_38 hl (k := 3) rfl rfl (by decide) rfl (fun ls hl => ?_)
    refine lv_goto (tgt := 4) hx hb dX4_sittersOn_41 (by decide) ?_
    exact hrec4 q0 x1 x2 (x3 + 1) d hf _ _ ls (lv_sub hl [1, 2, 3, 0] rfl) G
  have K4 : ∀ (n : Nat) (q0 : Nat) (x1 : Int32) (x2 : Int32) (x3 : Int32) (d : xD), xloop (fun _ _ _ _ _ => none) (b_X4_sittersOn_4 sh) n q0 x1 x2 x3 d = some (r, dz) → ∀ (H : Heap) (locs : List Loc) (ls : Array Slot), lv_has ls 4 [(0, .ref (b + q0)), (1, .int x1), (2, .int x2), (3, .int x3)] → xG D cid b A sh d s H locs → W p l e (xRm 0 0 0) s m av below meth c H locs 0 0 (MQ below (xQ D cid b ex A (some (.int r)) sh dz) av s 0 0 A) (F0 m 4 ls []) := by
    intro n
    induction n with
    | zero =>
      intro q0 x1 x2 x3 d hf
      have hf : (none : Option (Int32 × xD)) = some (r, dz) := hf
      cases hf
    | succ n hrec4 =>
      intro q0 x1 x2 x3 d hf H locs ls hl G
      have hf : b_X4_sittersOn_4 sh (xloop (fun _ _ _ _ _ => none) (b_X4_sittersOn_4 sh) n) q0 x1 x2 x3 d = some (r, dz) := hf
      unfold b_X4_sittersOn_4 at hf
      refine lv_iload_n hx hb dX4_sittersOn_4 rfl (lv_at hl 3 rfl) ?_
      refine lv_aload_n hx hb dX4_sittersOn_5 rfl (lv_at hl 0 rfl) ?_
      obtain ⟨v1, hv1, hf⟩ := x_ob hf
      refine xr_getI (ci := 4) (k := 4) S G hv1 rfl kw_326 dX4_sittersOn_6 ?_
      refine lv_icmp_ge (tgt := 44) hx hb dX4_sittersOn_9 (by decide) (fun c => ?_) (fun c => ?_)
      · have hf := x_pos c hf
        exact K44 x2 d hf _ _ ls (lv_sub hl [2] rfl) G
      · have hf := x_neg c hf
        refine lv_aload_n hx hb dX4_sittersOn_12 rfl (lv_at hl 0 rfl) ?_
        obtain ⟨v2, hv2, hf⟩ := x_ob hf
        refine xr_getR (ci := 4) (k := 5) S G hv2 rfl kw_327 dX4_sittersOn_13 ?_
        refine lv_iload_n hx hb dX4_sittersOn_16 rfl (lv_at hl 3 rfl) ?_
        obtain ⟨v3, hv3, hf⟩ := x_ob hf
        refine xr_iald S G hv3 dX4_sittersOn_17 ?_
        refine lv_iconst (v := (2 : Int32)) hx hb dX4_sittersOn_18 (by decide) ?_
        refine lv_icmp_ne (tgt := 38) hx hb dX4_sittersOn_19 (by decide) (fun c => ?_) (fun c => ?_)
        · have hf := x_neg c hf
          exact K38 _ hrec4 q0 x1 x2 x3 d hf _ _ ls (lv_sub hl [0, 1, 2, 3] rfl) G
        · have hf := x_pos c hf
          refine lv_aload_n hx hb dX4_sittersOn_22 rfl (lv_at hl 0 rfl) ?_
          obtain ⟨v4, hv4, hf⟩ := x_ob hf
          refine xr_getR (ci := 4) (k := 6) S G hv4 rfl kw_330 dX4_sittersOn_23 ?_
          refine lv_iload_n hx hb dX4_sittersOn_26 rfl (lv_at hl 3 rfl) ?_
          obtain ⟨v5, hv5, hf⟩ := x_ob hf
          refine xr_iald S G hv5 dX4_sittersOn_27 ?_
          refine lv_iload_n hx hb dX4_sittersOn_28 rfl (lv_at hl 1 rfl) ?_
          refine lv_icmp_ne (tgt := 38) hx hb dX4_sittersOn_29 (by decide) (fun c => ?_) (fun c => ?_)
          · have hf := x_neg c hf
            exact K38 _ hrec4 q0 x1 x2 x3 d hf _ _ ls (lv_sub hl [0, 1, 2, 3] rfl) G
          · have hf := x_pos c hf
            refine lv_iload_n hx hb dX4_sittersOn_32 rfl (lv_at hl 2 rfl) ?_
            refine lv_iconst (v := (1 : Int32)) hx hb dX4_sittersOn_33 (by decide) ?_
            refine lv_iload_n hx hb dX4_sittersOn_34 rfl (lv_at hl 3 rfl) ?_
            refine lv_ishl hx hb dX4_sittersOn_35 ?_
            refine lv_ior hx hb dX4_sittersOn_36 ?_
            refine lv_istore_n (lv' := [(2, .int (x2 ||| ((1 : Int32) <<< (x3 &&& 31)))), (0, .ref (b + q0)), (1, .int x1), (3, .int x3)]) hx hb dX4_sittersOn_37 rfl hl (by decide) rfl (fun ls hl => ?_)
            exact K38 _ hrec4 q0 x1 (x2 ||| ((1 : Int32) <<< (x3 &&& 31))) x3 d hf _ _ ls (lv_sub hl [1, 2, 0, 3] rfl) G
  unfold f_X4_sittersOn at hf
  refine lv_iconst (v := (0 : Int32)) hx hb dX4_sittersOn_0 (by decide) ?_
  refine lv_istore_n (lv' := [(2, .int (0 : Int32)), (0, .ref (b + q0)), (1, .int x1)]) hx hb dX4_sittersOn_1 rfl hl (by decide) rfl (fun ls hl => ?_)
  refine lv_iconst (v := (0 : Int32)) hx hb dX4_sittersOn_2 (by decide) ?_
  refine lv_istore_n (lv' := [(3, .int (0 : Int32)), (2, .int (0 : Int32)), (0, .ref (b + q0)), (1, .int x1)]) hx hb dX4_sittersOn_3 rfl hl (by decide) rfl (fun ls hl => ?_)
  exact K4 xF q0 x1 (0 : Int32) (0 : Int32) d hf _ _ ls (lv_sub hl [2, 3, 1, 0] rfl) G


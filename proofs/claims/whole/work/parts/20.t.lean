-- HalfLandings$Tokens.bitsOfLetter(II)I
theorem dX7_bitsOfLetter_0 : decode cX7_bitsOfLetter 0 = .ok (.iload_n 1, 1) := by decide +kernel
theorem dX7_bitsOfLetter_1 : decode cX7_bitsOfLetter 1 = .ok (.bipush 6, 2) := by decide +kernel
theorem dX7_bitsOfLetter_3 : decode cX7_bitsOfLetter 3 = .ok (.if_icmp .ge 19, 3) := by decide +kernel
theorem dX7_bitsOfLetter_6 : decode cX7_bitsOfLetter 6 = .ok (.iload_n 0, 1) := by decide +kernel
theorem dX7_bitsOfLetter_7 : decode cX7_bitsOfLetter 7 = .ok (.bipush 97, 2) := by decide +kernel
theorem dX7_bitsOfLetter_9 : decode cX7_bitsOfLetter 9 = .ok (.isub, 1) := by decide +kernel
theorem dX7_bitsOfLetter_10 : decode cX7_bitsOfLetter 10 = .ok (.iconst 1, 1) := by decide +kernel
theorem dX7_bitsOfLetter_11 : decode cX7_bitsOfLetter 11 = .ok (.iadd, 1) := by decide +kernel
theorem dX7_bitsOfLetter_12 : decode cX7_bitsOfLetter 12 = .ok (.bipush 25, 2) := by decide +kernel
theorem dX7_bitsOfLetter_14 : decode cX7_bitsOfLetter 14 = .ok (.iconst 5, 1) := by decide +kernel
theorem dX7_bitsOfLetter_15 : decode cX7_bitsOfLetter 15 = .ok (.iload_n 1, 1) := by decide +kernel
theorem dX7_bitsOfLetter_16 : decode cX7_bitsOfLetter 16 = .ok (.imul, 1) := by decide +kernel
theorem dX7_bitsOfLetter_17 : decode cX7_bitsOfLetter 17 = .ok (.isub, 1) := by decide +kernel
theorem dX7_bitsOfLetter_18 : decode cX7_bitsOfLetter 18 = .ok (.ishl, 1) := by decide +kernel
theorem dX7_bitsOfLetter_19 : decode cX7_bitsOfLetter 19 = .ok (.goto 4, 3) := by decide +kernel
theorem dX7_bitsOfLetter_22 : decode cX7_bitsOfLetter 22 = .ok (.iconst 0, 1) := by decide +kernel
theorem dX7_bitsOfLetter_23 : decode cX7_bitsOfLetter 23 = .ok (.ireturn, 1) := by decide +kernel
theorem hd_X7_bitsOfLetter : yX7_bitsOfLetter.cls ≠ "java/lang/invoke/MethodHandle" ∧ yX7_bitsOfLetter.cls ≠ "java/lang/invoke/VarHandle" ∧ (parseMethodDescriptor yX7_bitsOfLetter.desc).map (fun d => d.parameters.length) = some 2 := by decide +kernel
def k_X7_bitsOfLetter_23 (sh : List xSh) (y0 : Int32) (d : xD) : Option (Int32 × xD) :=
  some (y0, d)
def f_X7_bitsOfLetter (sh : List xSh) (x0 : Int32) (x1 : Int32) (d : xD) : Option (Int32 × xD) :=
  if (6 : Int32) ≤ x1 then (k_X7_bitsOfLetter_23 sh (0 : Int32) d) else (k_X7_bitsOfLetter_23 sh (((x0 - (97 : Int32)) + (1 : Int32)) <<< (((25 : Int32) - ((5 : Int32) * x1)) &&& 31)) d)
set_option maxHeartbeats 4000000 in
set_option maxRecDepth 100000 in
theorem mt_X7_bitsOfLetter (l : Launch) (D : va_G) (cid : FieldType → ClassId) (b : Nat) (ex : Bool) (sa sv B0 : Nat) (sh : List xSh) (x0 : Int32) (x1 : Int32) (d : xD) (r : Int32) (dz : xD) (hf : f_X7_bitsOfLetter sh x0 x1 d = some (r, dz)) : xMet l yX7_bitsOfLetter cX7_bitsOfLetter 2 (some .int) 0 0 0 D cid b ex sa sv B0 [.int x0, .int x1] sh d (some (.int r)) sh dz := by
  refine xMet.of (by decide) (Nat.le_of_ble_eq_true rfl) ?_
  intro p e s m below meth c ls A S hr hin G hl
  have hl : lv_has ls 2 [(0, .int x0), (1, .int x1)] := hl
  generalize ([.int x0, .int x1] : List Value).toArray = av at S ⊢
  have hx := S.1
  have hb := S.2.1
  have hml := S.2.2.1
  have hown := S.2.2.2.1
  have hts := S.2.2.2.2.1
  have K23 : ∀ (y0 : Int32) (d : xD), k_X7_bitsOfLetter_23 sh y0 d = some (r, dz) → ∀ (H : Heap) (locs : List Loc) (ls : Array Slot), lv_has ls 2 [] → xG D cid b A sh d s H locs → W p l e (xRm 0 0 0) s m av below meth c H locs 0 0 (MQ below (xQ D cid b ex A (some (.int r)) sh dz) av s 0 0 A) (F0 m 23 ls [.int y0]) := by
    intro y0 d hf H locs ls hl G
    unfold k_X7_bitsOfLetter_23 at hf
    cases hf
    exact xr_iret S G (fun _ => rfl) hr dX7_bitsOfLetter_23
  unfold f_X7_bitsOfLetter at hf
  refine lv_iload_n hx hb dX7_bitsOfLetter_0 rfl (lv_at hl 1 rfl) ?_
  refine lv_bipush (v := (6 : Int32)) hx hb dX7_bitsOfLetter_1 (by decide) ?_
  refine lv_icmp_ge (tgt := 22) hx hb dX7_bitsOfLetter_3 (by decide) (fun c => ?_) (fun c => ?_)
  · have hf := x_pos c hf
    refine lv_iconst (v := (0 : Int32)) hx hb dX7_bitsOfLetter_22 (by decide) ?_
    exact K23 (0 : Int32) d hf _ _ ls (lv_sub hl [] rfl) G
  · have hf := x_neg c hf
    refine lv_iload_n hx hb dX7_bitsOfLetter_6 rfl (lv_at hl 0 rfl) ?_
    refine lv_bipush (v := (97 : Int32)) hx hb dX7_bitsOfLetter_7 (by decide) ?_
    refine lv_isub hx hb dX7_bitsOfLetter_9 ?_
    refine lv_iconst (v := (1 : Int32)) hx hb dX7_bitsOfLetter_10 (by decide) ?_
    refine lv_iadd hx hb dX7_bitsOfLetter_11 ?_
    refine lv_bipush (v := (25 : Int32)) hx hb dX7_bitsOfLetter_12 (by decide) ?_
    refine lv_iconst (v := (5 : Int32)) hx hb dX7_bitsOfLetter_14 (by decide) ?_
    refine lv_iload_n hx hb dX7_bitsOfLetter_15 rfl (lv_at hl 1 rfl) ?_
    refine lv_imul hx hb dX7_bitsOfLetter_16 ?_
    refine lv_isub hx hb dX7_bitsOfLetter_17 ?_
    refine lv_ishl hx hb dX7_bitsOfLetter_18 ?_
    refine lv_goto (tgt := 23) hx hb dX7_bitsOfLetter_19 (by decide) ?_
    exact K23 (((x0 - (97 : Int32)) + (1 : Int32)) <<< (((25 : Int32) - ((5 : Int32) * x1)) &&& 31)) d hf _ _ ls (lv_sub hl [] rfl) G
-- java/util/Arrays.fill([II)V
theorem dJ7_fill_53178_0 : decode cJ7_fill_53178 0 = .ok (.iconst 0, 1) := by decide +kernel
theorem dJ7_fill_53178_1 : decode cJ7_fill_53178 1 = .ok (.istore_n 2, 1) := by decide +kernel
theorem dJ7_fill_53178_2 : decode cJ7_fill_53178 2 = .ok (.aload_n 0, 1) := by decide +kernel
theorem dJ7_fill_53178_3 : decode cJ7_fill_53178 3 = .ok (.arraylength, 1) := by decide +kernel
theorem dJ7_fill_53178_4 : decode cJ7_fill_53178 4 = .ok (.istore_n 3, 1) := by decide +kernel
theorem dJ7_fill_53178_5 : decode cJ7_fill_53178 5 = .ok (.iload_n 2, 1) := by decide +kernel
theorem dJ7_fill_53178_6 : decode cJ7_fill_53178 6 = .ok (.iload_n 3, 1) := by decide +kernel
theorem dJ7_fill_53178_7 : decode cJ7_fill_53178 7 = .ok (.if_icmp .ge 13, 3) := by decide +kernel
theorem dJ7_fill_53178_10 : decode cJ7_fill_53178 10 = .ok (.aload_n 0, 1) := by decide +kernel
theorem dJ7_fill_53178_11 : decode cJ7_fill_53178 11 = .ok (.iload_n 2, 1) := by decide +kernel
theorem dJ7_fill_53178_12 : decode cJ7_fill_53178 12 = .ok (.iload_n 1, 1) := by decide +kernel
theorem dJ7_fill_53178_13 : decode cJ7_fill_53178 13 = .ok (.iastore, 1) := by decide +kernel
theorem dJ7_fill_53178_14 : decode cJ7_fill_53178 14 = .ok (.iinc 2 1, 3) := by decide +kernel
theorem dJ7_fill_53178_17 : decode cJ7_fill_53178 17 = .ok (.goto (-12), 3) := by decide +kernel
theorem dJ7_fill_53178_20 : decode cJ7_fill_53178 20 = .ok (.return_, 1) := by decide +kernel
theorem hd_J7_fill_53178 : yJ7_fill_53178.cls ≠ "java/lang/invoke/MethodHandle" ∧ yJ7_fill_53178.cls ≠ "java/lang/invoke/VarHandle" ∧ (parseMethodDescriptor yJ7_fill_53178.desc).map (fun d => d.parameters.length) = some 2 := by decide +kernel
def k_J7_fill_53178_20 (sh : List xSh) (d : xD) : Option xD :=
  some d
def b_J7_fill_53178_5 (sh : List xSh) (rec5 : Nat → Int32 → Int32 → Int32 → xD → Option xD) (q0 : Nat) (x1 : Int32) (x2 : Int32) (x3 : Int32) (d : xD) : Option xD :=
  if x3 ≤ x2 then (k_J7_fill_53178_20 sh d) else ((xsI .int sh d q0 x2 x1).bind fun d1 => rec5 q0 x1 (x2 + 1) x3 d1)
def f_J7_fill_53178 (sh : List xSh) (q0 : Nat) (x1 : Int32) (d : xD) : Option xD :=
  (xlen .int sh q0).bind fun v2 => xloop (fun _ _ _ _ _ => none) (b_J7_fill_53178_5 sh) xF q0 x1 (0 : Int32) (nI v2) d
set_option maxHeartbeats 4000000 in
set_option maxRecDepth 100000 in
theorem mt_J7_fill_53178 (l : Launch) (D : va_G) (cid : FieldType → ClassId) (b : Nat) (ex : Bool) (sa sv B0 : Nat) (sh : List xSh) (q0 : Nat) (x1 : Int32) (d : xD) (dz : xD) (hf : f_J7_fill_53178 sh q0 x1 d = some dz) : xMet l yJ7_fill_53178 cJ7_fill_53178 4 none 0 0 0 D cid b ex sa sv B0 [.ref (b + q0), .int x1] sh d none sh dz := by
  refine xMet.of (by decide) (Nat.le_of_ble_eq_true rfl) ?_
  intro p e s m below meth c ls A S hr hin G hl
  have hl : lv_has ls 4 [(0, .ref (b + q0)), (1, .int x1)] := hl
  generalize ([.ref (b + q0), .int x1] : List Value).toArray = av at S ⊢
  have hx := S.1
  have hb := S.2.1
  have hml := S.2.2.1
  have hown := S.2.2.2.1
  have hts := S.2.2.2.2.1
  have K20 : ∀ (d : xD), k_J7_fill_53178_20 sh d = some dz → ∀ (H : Heap) (locs : List Loc) (ls : Array Slot), lv_has ls 4 [] → xG D cid b A sh d s H locs → W p l e (xRm 0 0 0) s m av below meth c H locs 0 0 (MQ below (xQ D cid b ex A none sh dz) av s 0 0 A) (F0 m 20 ls []) := by
    intro d hf H locs ls hl G
    unfold k_J7_fill_53178_20 at hf
    cases hf
    exact xr_vret S G (fun _ => rfl) hr dJ7_fill_53178_20
  have K5 : ∀ (n : Nat) (q0 : Nat) (x1 : Int32) (x2 : Int32) (x3 : Int32) (d : xD), xloop (fun _ _ _ _ _ => none) (b_J7_fill_53178_5 sh) n q0 x1 x2 x3 d = some dz → ∀ (H : Heap) (locs : List Loc) (ls : Array Slot), lv_has ls 4 [(0, .ref (b + q0)), (1, .int x1), (2, .int x2), (3, .int x3)] → xG D cid b A sh d s H locs → W p l e (xRm 0 0 0) s m av below meth c H locs 0 0 (MQ below (xQ D cid b ex A none sh dz) av s 0 0 A) (F0 m 5 ls []) := by
    intro n
    induction n with
    | zero =>
      intro q0 x1 x2 x3 d hf
      have hf : (none : Option xD) = some dz := hf
      cases hf
    | succ n hrec5 =>
      intro q0 x1 x2 x3 d hf H locs ls hl G
      have hf : b_J7_fill_53178_5 sh (xloop (fun _ _ _ _ _ => none) (b_J7_fill_53178_5 sh) n) q0 x1 x2 x3 d = some dz := hf
      unfold b_J7_fill_53178_5 at hf
      refine lv_iload_n hx hb dJ7_fill_53178_5 rfl (lv_at hl 2 rfl) ?_
      refine lv_iload_n hx hb dJ7_fill_53178_6 rfl (lv_at hl 3 rfl) ?_
      refine lv_icmp_ge (tgt := 20) hx hb dJ7_fill_53178_7 (by decide) (fun c => ?_) (fun c => ?_)
      · have hf := x_pos c hf
        exact K20 d hf _ _ ls (lv_sub hl [] rfl) G
      · have hf := x_neg c hf
        refine lv_aload_n hx hb dJ7_fill_53178_10 rfl (lv_at hl 0 rfl) ?_
        refine lv_iload_n hx hb dJ7_fill_53178_11 rfl (lv_at hl 2 rfl) ?_
        refine lv_iload_n hx hb dJ7_fill_53178_12 rfl (lv_at hl 1 rfl) ?_
        obtain ⟨d1, hd1, hf⟩ := x_ob hf
        refine xr_iast S G hd1 dJ7_fill_53178_13 (fun H locs G => ?_)
        refine lv_iinc (v := (x2 + 1)) (lv' := [(2, .int (x2 + 1)), (0, .ref (b + q0)), (1, .int x1), (3, .int x3)]) hx hb dJ7_fill_53178_14 hl (k := 2) rfl rfl (by decide) rfl (fun ls hl => ?_)
        refine lv_goto (tgt := 5) hx hb dJ7_fill_53178_17 (by decide) ?_
        exact hrec5 q0 x1 (x2 + 1) x3 d1 hf _ _ ls (lv_sub hl [1, 2, 0, 3] rfl) G
  unfold f_J7_fill_53178 at hf
  refine lv_iconst (v := (0 : Int32)) hx hb dJ7_fill_53178_0 (by decide) ?_
  refine lv_istore_n (lv' := [(2, .int (0 : Int32)), (0, .ref (b + q0)), (1, .int x1)]) hx hb dJ7_fill_53178_1 rfl hl (by decide) rfl (fun ls hl => ?_)
  refine lv_aload_n hx hb dJ7_fill_53178_2 rfl (lv_at hl 1 rfl) ?_
  obtain ⟨v2, hv2, hf⟩ := x_ob hf
  refine xr_ilen S G hv2 dJ7_fill_53178_3 ?_
  refine lv_istore_n (lv' := [(3, .int (nI v2)), (2, .int (0 : Int32)), (0, .ref (b + q0)), (1, .int x1)]) hx hb dJ7_fill_53178_4 rfl hl (by decide) rfl (fun ls hl => ?_)
  exact K5 xF q0 x1 (0 : Int32) (nI v2) d hf _ _ ls (lv_sub hl [2, 3, 1, 0] rfl) G
-- HalfLandings$Scene.addRest(III)V
theorem dX4_addRest_0 : decode cX4_addRest 0 = .ok (.aload_n 0, 1) := by decide +kernel
theorem dX4_addRest_1 : decode cX4_addRest 1 = .ok (.getfield 56, 3) := by decide +kernel
theorem dX4_addRest_4 : decode cX4_addRest 4 = .ok (.bipush 12, 2) := by decide +kernel
theorem dX4_addRest_6 : decode cX4_addRest 6 = .ok (.if_icmp .le 4, 3) := by decide +kernel
theorem dX4_addRest_9 : decode cX4_addRest 9 = .ok (.return_, 1) := by decide +kernel
theorem dX4_addRest_10 : decode cX4_addRest 10 = .ok (.aload_n 0, 1) := by decide +kernel
theorem dX4_addRest_11 : decode cX4_addRest 11 = .ok (.getfield 59, 3) := by decide +kernel
theorem dX4_addRest_14 : decode cX4_addRest 14 = .ok (.aload_n 0, 1) := by decide +kernel
theorem dX4_addRest_15 : decode cX4_addRest 15 = .ok (.getfield 56, 3) := by decide +kernel
theorem dX4_addRest_18 : decode cX4_addRest 18 = .ok (.iload_n 1, 1) := by decide +kernel
theorem dX4_addRest_19 : decode cX4_addRest 19 = .ok (.iastore, 1) := by decide +kernel
theorem dX4_addRest_20 : decode cX4_addRest 20 = .ok (.aload_n 0, 1) := by decide +kernel
theorem dX4_addRest_21 : decode cX4_addRest 21 = .ok (.getfield 62, 3) := by decide +kernel
theorem dX4_addRest_24 : decode cX4_addRest 24 = .ok (.aload_n 0, 1) := by decide +kernel
theorem dX4_addRest_25 : decode cX4_addRest 25 = .ok (.getfield 56, 3) := by decide +kernel
theorem dX4_addRest_28 : decode cX4_addRest 28 = .ok (.iload_n 2, 1) := by decide +kernel
theorem dX4_addRest_29 : decode cX4_addRest 29 = .ok (.iastore, 1) := by decide +kernel
theorem dX4_addRest_30 : decode cX4_addRest 30 = .ok (.aload_n 0, 1) := by decide +kernel
theorem dX4_addRest_31 : decode cX4_addRest 31 = .ok (.getfield 65, 3) := by decide +kernel
theorem dX4_addRest_34 : decode cX4_addRest 34 = .ok (.aload_n 0, 1) := by decide +kernel
theorem dX4_addRest_35 : decode cX4_addRest 35 = .ok (.getfield 56, 3) := by decide +kernel
theorem dX4_addRest_38 : decode cX4_addRest 38 = .ok (.iload_n 3, 1) := by decide +kernel
theorem dX4_addRest_39 : decode cX4_addRest 39 = .ok (.iastore, 1) := by decide +kernel
theorem dX4_addRest_40 : decode cX4_addRest 40 = .ok (.aload_n 0, 1) := by decide +kernel
theorem dX4_addRest_41 : decode cX4_addRest 41 = .ok (.getfield 68, 3) := by decide +kernel
theorem dX4_addRest_44 : decode cX4_addRest 44 = .ok (.aload_n 0, 1) := by decide +kernel
theorem dX4_addRest_45 : decode cX4_addRest 45 = .ok (.getfield 56, 3) := by decide +kernel
theorem dX4_addRest_48 : decode cX4_addRest 48 = .ok (.iconst 0, 1) := by decide +kernel
theorem dX4_addRest_49 : decode cX4_addRest 49 = .ok (.iastore, 1) := by decide +kernel
theorem dX4_addRest_50 : decode cX4_addRest 50 = .ok (.aload_n 0, 1) := by decide +kernel
theorem dX4_addRest_51 : decode cX4_addRest 51 = .ok (.dup, 1) := by decide +kernel
theorem dX4_addRest_52 : decode cX4_addRest 52 = .ok (.getfield 56, 3) := by decide +kernel
theorem dX4_addRest_55 : decode cX4_addRest 55 = .ok (.iconst 1, 1) := by decide +kernel
theorem dX4_addRest_56 : decode cX4_addRest 56 = .ok (.iadd, 1) := by decide +kernel
theorem dX4_addRest_57 : decode cX4_addRest 57 = .ok (.putfield 56, 3) := by decide +kernel
theorem dX4_addRest_60 : decode cX4_addRest 60 = .ok (.return_, 1) := by decide +kernel
theorem hd_X4_addRest : yX4_addRest.cls = xCn 4 ∧ yX4_addRest.cls ≠ "java/lang/invoke/MethodHandle" ∧ yX4_addRest.cls ≠ "java/lang/invoke/VarHandle" ∧ (parseMethodDescriptor yX4_addRest.desc).map (fun d => d.parameters.length) = some 3 := by decide +kernel
def f_X4_addRest (sh : List xSh) (q0 : Nat) (x1 : Int32) (x2 : Int32) (x3 : Int32) (d : xD) : Option xD :=
  (xgI 4 sh d q0 14).bind fun v1 => if v1 ≤ (12 : Int32) then ((xgR 4 sh d q0 15).bind fun v2 => (xgI 4 sh d q0 14).bind fun v3 => (xsI .int sh d v2 v3 x1).bind fun d4 => (xgR 4 sh d4 q0 16).bind fun v5 => (xgI 4 sh d4 q0 14).bind fun v6 => (xsI .int sh d4 v5 v6 x2).bind fun d7 => (xgR 4 sh d7 q0 17).bind fun v8 => (xgI 4 sh d7 q0 14).bind fun v9 => (xsI .int sh d7 v8 v9 x3).bind fun d10 => (xgR 4 sh d10 q0 18).bind fun v11 => (xgI 4 sh d10 q0 14).bind fun v12 => (xsI .int sh d10 v11 v12 (0 : Int32)).bind fun d13 => (xgI 4 sh d13 q0 14).bind fun v14 => (xpI 4 sh d13 q0 14 (v14 + (1 : Int32))).bind fun d15 => some d15) else (some d)
set_option maxHeartbeats 4000000 in
set_option maxRecDepth 100000 in
theorem mt_X4_addRest (l : Launch) (D : va_G) (cid : FieldType → ClassId) (b : Nat) (ex : Bool) (sa sv B0 : Nat) (sh : List xSh) (q0 : Nat) (x1 : Int32) (x2 : Int32) (x3 : Int32) (d : xD) (dz : xD) (hf : f_X4_addRest sh q0 x1 x2 x3 d = some dz) : xMet l yX4_addRest cX4_addRest 4 none 0 0 0 D cid b ex sa sv B0 [.ref (b + q0), .int x1, .int x2, .int x3] sh d none sh dz := by
  refine xMet.of (by decide) (Nat.le_of_ble_eq_true rfl) ?_
  intro p e s m below meth c ls A S hr hin G hl
  have hl : lv_has ls 4 [(0, .ref (b + q0)), (1, .int x1), (2, .int x2), (3, .int x3)] := hl
  generalize ([.ref (b + q0), .int x1, .int x2, .int x3] : List Value).toArray = av at S ⊢
  have hx := S.1
  have hb := S.2.1
  have hml := S.2.2.1
  have hown := S.2.2.2.1
  have hts := S.2.2.2.2.1
  unfold f_X4_addRest at hf
  refine lv_aload_n hx hb dX4_addRest_0 rfl (lv_at hl 0 rfl) ?_
  obtain ⟨v1, hv1, hf⟩ := x_ob hf
  refine xr_getI (ci := 4) (k := 14) S G hv1 rfl kw_353 dX4_addRest_1 ?_
  refine lv_bipush (v := (12 : Int32)) hx hb dX4_addRest_4 (by decide) ?_
  refine lv_icmp_le (tgt := 10) hx hb dX4_addRest_6 (by decide) (fun c => ?_) (fun c => ?_)
  · have hf := x_pos c hf
    refine lv_aload_n hx hb dX4_addRest_10 rfl (lv_at hl 0 rfl) ?_
    obtain ⟨v2, hv2, hf⟩ := x_ob hf
    refine xr_getR (ci := 4) (k := 15) S G hv2 rfl kw_355 dX4_addRest_11 ?_
    refine lv_aload_n hx hb dX4_addRest_14 rfl (lv_at hl 0 rfl) ?_
    obtain ⟨v3, hv3, hf⟩ := x_ob hf
    refine xr_getI (ci := 4) (k := 14) S G hv3 rfl kw_353 dX4_addRest_15 ?_
    refine lv_iload_n hx hb dX4_addRest_18 rfl (lv_at hl 1 rfl) ?_
    obtain ⟨d4, hd4, hf⟩ := x_ob hf
    refine xr_iast S G hd4 dX4_addRest_19 (fun H locs G => ?_)
    refine lv_aload_n hx hb dX4_addRest_20 rfl (lv_at hl 0 rfl) ?_
    obtain ⟨v5, hv5, hf⟩ := x_ob hf
    refine xr_getR (ci := 4) (k := 16) S G hv5 rfl kw_357 dX4_addRest_21 ?_
    refine lv_aload_n hx hb dX4_addRest_24 rfl (lv_at hl 0 rfl) ?_
    obtain ⟨v6, hv6, hf⟩ := x_ob hf
    refine xr_getI (ci := 4) (k := 14) S G hv6 rfl kw_353 dX4_addRest_25 ?_
    refine lv_iload_n hx hb dX4_addRest_28 rfl (lv_at hl 2 rfl) ?_
    obtain ⟨d7, hd7, hf⟩ := x_ob hf
    refine xr_iast S G hd7 dX4_addRest_29 (fun H locs G => ?_)
    refine lv_aload_n hx hb dX4_addRest_30 rfl (lv_at hl 0 rfl) ?_
    obtain ⟨v8, hv8, hf⟩ := x_ob hf
    refine xr_getR (ci := 4) (k := 17) S G hv8 rfl kw_359 dX4_addRest_31 ?_
    refine lv_aload_n hx hb dX4_addRest_34 rfl (lv_at hl 0 rfl) ?_
    obtain ⟨v9, hv9, hf⟩ := x_ob hf
    refine xr_getI (ci := 4) (k := 14) S G hv9 rfl kw_353 dX4_addRest_35 ?_
    refine lv_iload_n hx hb dX4_addRest_38 rfl (lv_at hl 3 rfl) ?_
    obtain ⟨d10, hd10, hf⟩ := x_ob hf
    refine xr_iast S G hd10 dX4_addRest_39 (fun H locs G => ?_)
    refine lv_aload_n hx hb dX4_addRest_40 rfl (lv_at hl 0 rfl) ?_
    obtain ⟨v11, hv11, hf⟩ := x_ob hf
    refine xr_getR (ci := 4) (k := 18) S G hv11 rfl kw_362 dX4_addRest_41 ?_
    refine lv_aload_n hx hb dX4_addRest_44 rfl (lv_at hl 0 rfl) ?_
    obtain ⟨v12, hv12, hf⟩ := x_ob hf
    refine xr_getI (ci := 4) (k := 14) S G hv12 rfl kw_353 dX4_addRest_45 ?_
    refine lv_iconst (v := (0 : Int32)) hx hb dX4_addRest_48 (by decide) ?_
    obtain ⟨d13, hd13, hf⟩ := x_ob hf
    refine xr_iast S G hd13 dX4_addRest_49 (fun H locs G => ?_)
    refine lv_aload_n hx hb dX4_addRest_50 rfl (lv_at hl 0 rfl) ?_
    refine lv_dup hx hb dX4_addRest_51 rfl ?_
    obtain ⟨v14, hv14, hf⟩ := x_ob hf
    refine xr_getI (ci := 4) (k := 14) S G hv14 rfl kw_353 dX4_addRest_52 ?_
    refine lv_iconst (v := (1 : Int32)) hx hb dX4_addRest_55 (by decide) ?_
    refine lv_iadd hx hb dX4_addRest_56 ?_
    obtain ⟨d15, hd15, hf⟩ := x_ob hf
    refine xr_putI (ci := 4) (k := 14) S G hd15 rfl kw_353 dX4_addRest_57 (fun H locs G => ?_)
    cases hf
    exact xr_vret S G (fun _ => rfl) hr dX4_addRest_60
  · have hf := x_neg c hf
    cases hf
    exact xr_vret S G (fun _ => rfl) hr dX4_addRest_9
-- HalfLandings$Scene.begin(LHalfLandings$Plan;)V
theorem dX4_begin_0 : decode cX4_begin 0 = .ok (.aload_n 0, 1) := by decide +kernel
theorem dX4_begin_1 : decode cX4_begin 1 = .ok (.iconst 0, 1) := by decide +kernel
theorem dX4_begin_2 : decode cX4_begin 2 = .ok (.putfield 9, 3) := by decide +kernel
theorem dX4_begin_5 : decode cX4_begin 5 = .ok (.aload_n 0, 1) := by decide +kernel
theorem dX4_begin_6 : decode cX4_begin 6 = .ok (.iconst 0, 1) := by decide +kernel
theorem dX4_begin_7 : decode cX4_begin 7 = .ok (.putfield 15, 3) := by decide +kernel
theorem dX4_begin_10 : decode cX4_begin 10 = .ok (.aload_n 0, 1) := by decide +kernel
theorem dX4_begin_11 : decode cX4_begin 11 = .ok (.aload_n 1, 1) := by decide +kernel
theorem dX4_begin_12 : decode cX4_begin 12 = .ok (.getfield 71, 3) := by decide +kernel
theorem dX4_begin_15 : decode cX4_begin 15 = .ok (.putfield 18, 3) := by decide +kernel
theorem dX4_begin_18 : decode cX4_begin 18 = .ok (.aload_n 0, 1) := by decide +kernel
theorem dX4_begin_19 : decode cX4_begin 19 = .ok (.aload_n 1, 1) := by decide +kernel
theorem dX4_begin_20 : decode cX4_begin 20 = .ok (.getfield 74, 3) := by decide +kernel
theorem dX4_begin_23 : decode cX4_begin 23 = .ok (.i2l, 1) := by decide +kernel
theorem dX4_begin_24 : decode cX4_begin 24 = .ok (.putfield 21, 3) := by decide +kernel
theorem dX4_begin_27 : decode cX4_begin 27 = .ok (.aload_n 0, 1) := by decide +kernel
theorem dX4_begin_28 : decode cX4_begin 28 = .ok (.aload_n 1, 1) := by decide +kernel
theorem dX4_begin_29 : decode cX4_begin 29 = .ok (.getfield 77, 3) := by decide +kernel
theorem dX4_begin_32 : decode cX4_begin 32 = .ok (.putfield 25, 3) := by decide +kernel
theorem dX4_begin_35 : decode cX4_begin 35 = .ok (.aload_n 0, 1) := by decide +kernel
theorem dX4_begin_36 : decode cX4_begin 36 = .ok (.getfield 28, 3) := by decide +kernel
theorem dX4_begin_39 : decode cX4_begin 39 = .ok (.iconst 0, 1) := by decide +kernel
theorem dX4_begin_40 : decode cX4_begin 40 = .ok (.invokestatic 78, 3) := by decide +kernel
theorem dX4_begin_43 : decode cX4_begin 43 = .ok (.aload_n 1, 1) := by decide +kernel
theorem dX4_begin_44 : decode cX4_begin 44 = .ok (.getfield 84, 3) := by decide +kernel
theorem dX4_begin_47 : decode cX4_begin 47 = .ok (.iconst 0, 1) := by decide +kernel
theorem dX4_begin_48 : decode cX4_begin 48 = .ok (.aload_n 0, 1) := by decide +kernel
theorem dX4_begin_49 : decode cX4_begin 49 = .ok (.getfield 32, 3) := by decide +kernel
theorem dX4_begin_52 : decode cX4_begin 52 = .ok (.iconst 0, 1) := by decide +kernel
theorem dX4_begin_53 : decode cX4_begin 53 = .ok (.bipush 6, 2) := by decide +kernel
theorem dX4_begin_55 : decode cX4_begin 55 = .ok (.invokestatic 87, 3) := by decide +kernel
theorem dX4_begin_58 : decode cX4_begin 58 = .ok (.aload_n 1, 1) := by decide +kernel
theorem dX4_begin_59 : decode cX4_begin 59 = .ok (.getfield 93, 3) := by decide +kernel
theorem dX4_begin_62 : decode cX4_begin 62 = .ok (.iconst 0, 1) := by decide +kernel
theorem dX4_begin_63 : decode cX4_begin 63 = .ok (.aload_n 0, 1) := by decide +kernel
theorem dX4_begin_64 : decode cX4_begin 64 = .ok (.getfield 35, 3) := by decide +kernel
theorem dX4_begin_67 : decode cX4_begin 67 = .ok (.iconst 0, 1) := by decide +kernel
theorem dX4_begin_68 : decode cX4_begin 68 = .ok (.bipush 6, 2) := by decide +kernel
theorem dX4_begin_70 : decode cX4_begin 70 = .ok (.invokestatic 87, 3) := by decide +kernel
theorem dX4_begin_73 : decode cX4_begin 73 = .ok (.aload_n 1, 1) := by decide +kernel
theorem dX4_begin_74 : decode cX4_begin 74 = .ok (.getfield 96, 3) := by decide +kernel
theorem dX4_begin_77 : decode cX4_begin 77 = .ok (.iconst 0, 1) := by decide +kernel
theorem dX4_begin_78 : decode cX4_begin 78 = .ok (.aload_n 0, 1) := by decide +kernel
theorem dX4_begin_79 : decode cX4_begin 79 = .ok (.getfield 38, 3) := by decide +kernel
theorem dX4_begin_82 : decode cX4_begin 82 = .ok (.iconst 0, 1) := by decide +kernel
theorem dX4_begin_83 : decode cX4_begin 83 = .ok (.bipush 6, 2) := by decide +kernel
theorem dX4_begin_85 : decode cX4_begin 85 = .ok (.invokestatic 87, 3) := by decide +kernel
theorem dX4_begin_88 : decode cX4_begin 88 = .ok (.aload_n 0, 1) := by decide +kernel
theorem dX4_begin_89 : decode cX4_begin 89 = .ok (.getfield 41, 3) := by decide +kernel
theorem dX4_begin_92 : decode cX4_begin 92 = .ok (.iconst 0, 1) := by decide +kernel
theorem dX4_begin_93 : decode cX4_begin 93 = .ok (.invokestatic 78, 3) := by decide +kernel
theorem dX4_begin_96 : decode cX4_begin 96 = .ok (.aload_n 0, 1) := by decide +kernel
theorem dX4_begin_97 : decode cX4_begin 97 = .ok (.getfield 44, 3) := by decide +kernel
theorem dX4_begin_100 : decode cX4_begin 100 = .ok (.iconst 0, 1) := by decide +kernel
theorem dX4_begin_101 : decode cX4_begin 101 = .ok (.invokestatic 78, 3) := by decide +kernel
theorem dX4_begin_104 : decode cX4_begin 104 = .ok (.aload_n 0, 1) := by decide +kernel
theorem dX4_begin_105 : decode cX4_begin 105 = .ok (.getfield 47, 3) := by decide +kernel
theorem dX4_begin_108 : decode cX4_begin 108 = .ok (.iconst 0, 1) := by decide +kernel
theorem dX4_begin_109 : decode cX4_begin 109 = .ok (.invokestatic 78, 3) := by decide +kernel
theorem dX4_begin_112 : decode cX4_begin 112 = .ok (.aload_n 1, 1) := by decide +kernel
theorem dX4_begin_113 : decode cX4_begin 113 = .ok (.getfield 99, 3) := by decide +kernel
theorem dX4_begin_116 : decode cX4_begin 116 = .ok (.iconst 0, 1) := by decide +kernel
theorem dX4_begin_117 : decode cX4_begin 117 = .ok (.aload_n 0, 1) := by decide +kernel
theorem dX4_begin_118 : decode cX4_begin 118 = .ok (.getfield 50, 3) := by decide +kernel
theorem dX4_begin_121 : decode cX4_begin 121 = .ok (.iconst 0, 1) := by decide +kernel
theorem dX4_begin_122 : decode cX4_begin 122 = .ok (.bipush 8, 2) := by decide +kernel
theorem dX4_begin_124 : decode cX4_begin 124 = .ok (.invokestatic 87, 3) := by decide +kernel
theorem dX4_begin_127 : decode cX4_begin 127 = .ok (.aload_n 0, 1) := by decide +kernel
theorem dX4_begin_128 : decode cX4_begin 128 = .ok (.getfield 53, 3) := by decide +kernel
theorem dX4_begin_131 : decode cX4_begin 131 = .ok (.iconst 0, 1) := by decide +kernel
theorem dX4_begin_132 : decode cX4_begin 132 = .ok (.invokestatic 78, 3) := by decide +kernel
theorem dX4_begin_135 : decode cX4_begin 135 = .ok (.aload_n 0, 1) := by decide +kernel
theorem dX4_begin_136 : decode cX4_begin 136 = .ok (.iconst 0, 1) := by decide +kernel
theorem dX4_begin_137 : decode cX4_begin 137 = .ok (.putfield 56, 3) := by decide +kernel
theorem dX4_begin_140 : decode cX4_begin 140 = .ok (.iconst 0, 1) := by decide +kernel
theorem dX4_begin_141 : decode cX4_begin 141 = .ok (.istore_n 2, 1) := by decide +kernel
theorem dX4_begin_142 : decode cX4_begin 142 = .ok (.iload_n 2, 1) := by decide +kernel
theorem dX4_begin_143 : decode cX4_begin 143 = .ok (.aload_n 1, 1) := by decide +kernel
theorem dX4_begin_144 : decode cX4_begin 144 = .ok (.getfield 102, 3) := by decide +kernel
theorem dX4_begin_147 : decode cX4_begin 147 = .ok (.if_icmp .ge 37, 3) := by decide +kernel
theorem dX4_begin_150 : decode cX4_begin 150 = .ok (.iload_n 2, 1) := by decide +kernel
theorem dX4_begin_151 : decode cX4_begin 151 = .ok (.bipush 12, 2) := by decide +kernel
theorem dX4_begin_153 : decode cX4_begin 153 = .ok (.if_icmp .ge 31, 3) := by decide +kernel
theorem dX4_begin_156 : decode cX4_begin 156 = .ok (.aload_n 0, 1) := by decide +kernel
theorem dX4_begin_157 : decode cX4_begin 157 = .ok (.aload_n 1, 1) := by decide +kernel
theorem dX4_begin_158 : decode cX4_begin 158 = .ok (.getfield 105, 3) := by decide +kernel
theorem dX4_begin_161 : decode cX4_begin 161 = .ok (.iload_n 2, 1) := by decide +kernel
theorem dX4_begin_162 : decode cX4_begin 162 = .ok (.iaload, 1) := by decide +kernel
theorem dX4_begin_163 : decode cX4_begin 163 = .ok (.aload_n 1, 1) := by decide +kernel
theorem dX4_begin_164 : decode cX4_begin 164 = .ok (.getfield 106, 3) := by decide +kernel
theorem dX4_begin_167 : decode cX4_begin 167 = .ok (.iload_n 2, 1) := by decide +kernel
theorem dX4_begin_168 : decode cX4_begin 168 = .ok (.iaload, 1) := by decide +kernel
theorem dX4_begin_169 : decode cX4_begin 169 = .ok (.aload_n 1, 1) := by decide +kernel
theorem dX4_begin_170 : decode cX4_begin 170 = .ok (.getfield 107, 3) := by decide +kernel
theorem dX4_begin_173 : decode cX4_begin 173 = .ok (.iload_n 2, 1) := by decide +kernel
theorem dX4_begin_174 : decode cX4_begin 174 = .ok (.iaload, 1) := by decide +kernel
theorem dX4_begin_175 : decode cX4_begin 175 = .ok (.invokevirtual 108, 3) := by decide +kernel
theorem dX4_begin_178 : decode cX4_begin 178 = .ok (.iinc 2 1, 3) := by decide +kernel
theorem dX4_begin_181 : decode cX4_begin 181 = .ok (.goto (-39), 3) := by decide +kernel
theorem dX4_begin_184 : decode cX4_begin 184 = .ok (.return_, 1) := by decide +kernel
theorem hd_X4_begin : yX4_begin.cls = xCn 4 ∧ yX4_begin.cls ≠ "java/lang/invoke/MethodHandle" ∧ yX4_begin.cls ≠ "java/lang/invoke/VarHandle" ∧ (parseMethodDescriptor yX4_begin.desc).map (fun d => d.parameters.length) = some 1 := by decide +kernel
def k_X4_begin_184 (sh : List xSh) (d : xD) : Option xD :=
  some d
def b_X4_begin_142 (sh : List xSh) (rec142 : Nat → Nat → Int32 → xD → Option xD) (q0 : Nat) (q1 : Nat) (x2 : Int32) (d : xD) : Option xD :=
  (xgI 3 sh d q1 15).bind fun v1 => if v1 ≤ x2 then (k_X4_begin_184 sh d) else (if (12 : Int32) ≤ x2 then (k_X4_begin_184 sh d) else ((xgR 3 sh d q1 16).bind fun v2 => (xaI .int sh d v2 x2).bind fun v3 => (xgR 3 sh d q1 17).bind fun v4 => (xaI .int sh d v4 x2).bind fun v5 => (xgR 3 sh d q1 18).bind fun v6 => (xaI .int sh d v6 x2).bind fun v7 => (xon 4 sh q0 (f_X4_addRest sh q0 v3 v5 v7 d)).bind fun d8 => rec142 q0 q1 (x2 + 1) d8))
def f_X4_begin (sh : List xSh) (q0 : Nat) (q1 : Nat) (d : xD) : Option xD :=
  (xpI 4 sh d q0 0 (0 : Int32)).bind fun d9 => (xpI 4 sh d9 q0 1 (0 : Int32)).bind fun d10 => (xgI 3 sh d10 q1 1).bind fun v11 => (xpI 4 sh d10 q0 2 v11).bind fun d12 => (xgI 3 sh d12 q1 3).bind fun v13 => (xpL 4 sh d12 q0 3 ((v13).toInt64)).bind fun d14 => (xgI 3 sh d14 q1 9).bind fun v15 => (xpI 4 sh d14 q0 4 v15).bind fun d16 => (xgR 4 sh d16 q0 5).bind fun v17 => (f_J7_fill_53178 sh v17 (0 : Int32) d16).bind fun d18 => (xgR 3 sh d18 q1 11).bind fun v19 => (xgR 4 sh d18 q0 6).bind fun v20 => (xcp sh d18 v19 (0 : Int32) v20 (0 : Int32) (6 : Int32)).bind fun d21 => (xgR 3 sh d21 q1 12).bind fun v22 => (xgR 4 sh d21 q0 7).bind fun v23 => (xcp sh d21 v22 (0 : Int32) v23 (0 : Int32) (6 : Int32)).bind fun d24 => (xgR 3 sh d24 q1 13).bind fun v25 => (xgR 4 sh d24 q0 8).bind fun v26 => (xcp sh d24 v25 (0 : Int32) v26 (0 : Int32) (6 : Int32)).bind fun d27 => (xgR 4 sh d27 q0 9).bind fun v28 => (f_J7_fill_53178 sh v28 (0 : Int32) d27).bind fun d29 => (xgR 4 sh d29 q0 10).bind fun v30 => (f_J7_fill_53178 sh v30 (0 : Int32) d29).bind fun d31 => (xgR 4 sh d31 q0 11).bind fun v32 => (f_J7_fill_53178 sh v32 (0 : Int32) d31).bind fun d33 => (xgR 3 sh d33 q1 7).bind fun v34 => (xgR 4 sh d33 q0 12).bind fun v35 => (xcp sh d33 v34 (0 : Int32) v35 (0 : Int32) (8 : Int32)).bind fun d36 => (xgR 4 sh d36 q0 13).bind fun v37 => (f_J7_fill_53178 sh v37 (0 : Int32) d36).bind fun d38 => (xpI 4 sh d38 q0 14 (0 : Int32)).bind fun d39 => xloop (fun _ _ _ _ => none) (b_X4_begin_142 sh) xF q0 q1 (0 : Int32) d39
set_option maxHeartbeats 4000000 in
set_option maxRecDepth 100000 in
theorem mt_X4_begin (l : Launch) (D : va_G) (cid : FieldType → ClassId) (b : Nat) (ex : Bool) (sa sv B0 : Nat) (sh : List xSh) (q0 : Nat) (q1 : Nat) (d : xD) (dz : xD) (hf : f_X4_begin sh q0 q1 d = some dz) : xMet l yX4_begin cX4_begin 3 none 1 0 0 D cid b ex sa sv B0 [.ref (b + q0), .ref (b + q1)] sh d none sh dz := by
  refine xMet.of (by decide) (Nat.le_of_ble_eq_true rfl) ?_
  intro p e s m below meth c ls A S hr hin G hl
  have hl : lv_has ls 3 [(0, .ref (b + q0)), (1, .ref (b + q1))] := hl
  generalize ([.ref (b + q0), .ref (b + q1)] : List Value).toArray = av at S ⊢
  have hx := S.1
  have hb := S.2.1
  have hml := S.2.2.1
  have hown := S.2.2.2.1
  have hts := S.2.2.2.2.1
  have K184 : ∀ (d : xD), k_X4_begin_184 sh d = some dz → ∀ (H : Heap) (locs : List Loc) (ls : Array Slot), lv_has ls 3 [] → xG D cid b A sh d s H locs → W p l e (xRm 1 0 0) s m av below meth c H locs 0 0 (MQ below (xQ D cid b ex A none sh dz) av s 0 0 A) (F0 m 184 ls []) := by
    intro d hf H locs ls hl G
    unfold k_X4_begin_184 at hf
    cases hf
    exact xr_vret S G (fun _ => rfl) hr dX4_begin_184
  have K142 : ∀ (n : Nat) (q0 : Nat) (q1 : Nat) (x2 : Int32) (d : xD), xloop (fun _ _ _ _ => none) (b_X4_begin_142 sh) n q0 q1 x2 d = some dz → ∀ (H : Heap) (locs : List Loc) (ls : Array Slot), lv_has ls 3 [(0, .ref (b + q0)), (1, .ref (b + q1)), (2, .int x2)] → xG D cid b A sh d s H locs → W p l e (xRm 1 0 0) s m av below meth c H locs 0 0 (MQ below (xQ D cid b ex A none sh dz) av s 0 0 A) (F0 m 142 ls []) := by
    intro n
    induction n with
    | zero =>
      intro q0 q1 x2 d hf
      have hf : (none : Option xD) = some dz := hf
      cases hf
    | succ n hrec142 =>
      intro q0 q1 x2 d hf H locs ls hl G
      have hf : b_X4_begin_142 sh (xloop (fun _ _ _ _ => none) (b_X4_begin_142 sh) n) q0 q1 x2 d = some dz := hf
      unfold b_X4_begin_142 at hf
      refine lv_iload_n hx hb dX4_begin_142 rfl (lv_at hl 2 rfl) ?_
      refine lv_aload_n hx hb dX4_begin_143 rfl (lv_at hl 1 rfl) ?_
      obtain ⟨v1, hv1, hf⟩ := x_ob hf
      refine xr_getI (ci := 3) (k := 15) S G hv1 rfl kw_117 dX4_begin_144 ?_
      refine lv_icmp_ge (tgt := 184) hx hb dX4_begin_147 (by decide) (fun c => ?_) (fun c => ?_)
      · have hf := x_pos c hf
        exact K184 d hf _ _ ls (lv_sub hl [] rfl) G
      · have hf := x_neg c hf
        refine lv_iload_n hx hb dX4_begin_150 rfl (lv_at hl 2 rfl) ?_
        refine lv_bipush (v := (12 : Int32)) hx hb dX4_begin_151 (by decide) ?_
        refine lv_icmp_ge (tgt := 184) hx hb dX4_begin_153 (by decide) (fun c => ?_) (fun c => ?_)
        · have hf := x_pos c hf
          exact K184 d hf _ _ ls (lv_sub hl [] rfl) G
        · have hf := x_neg c hf
          refine lv_aload_n hx hb dX4_begin_156 rfl (lv_at hl 0 rfl) ?_
          refine lv_aload_n hx hb dX4_begin_157 rfl (lv_at hl 1 rfl) ?_
          obtain ⟨v2, hv2, hf⟩ := x_ob hf
          refine xr_getR (ci := 3) (k := 16) S G hv2 rfl kw_121 dX4_begin_158 ?_
          refine lv_iload_n hx hb dX4_begin_161 rfl (lv_at hl 2 rfl) ?_
          obtain ⟨v3, hv3, hf⟩ := x_ob hf
          refine xr_iald S G hv3 dX4_begin_162 ?_
          refine lv_aload_n hx hb dX4_begin_163 rfl (lv_at hl 1 rfl) ?_
          obtain ⟨v4, hv4, hf⟩ := x_ob hf
          refine xr_getR (ci := 3) (k := 17) S G hv4 rfl kw_123 dX4_begin_164 ?_
          refine lv_iload_n hx hb dX4_begin_167 rfl (lv_at hl 2 rfl) ?_
          obtain ⟨v5, hv5, hf⟩ := x_ob hf
          refine xr_iald S G hv5 dX4_begin_168 ?_
          refine lv_aload_n hx hb dX4_begin_169 rfl (lv_at hl 1 rfl) ?_
          obtain ⟨v6, hv6, hf⟩ := x_ob hf
          refine xr_getR (ci := 3) (k := 18) S G hv6 rfl kw_125 dX4_begin_170 ?_
          refine lv_iload_n hx hb dX4_begin_173 rfl (lv_at hl 2 rfl) ?_
          obtain ⟨v7, hv7, hf⟩ := x_ob hf
          refine xr_iald S G hv7 dX4_begin_174 ?_
          obtain ⟨d8, hd8, hf⟩ := x_ob hf
          obtain ⟨hqd8, hd8⟩ := xon_of hd8
          refine xr_callV (ci := 4) (As := [.int v3, .int v5, .int v7]) (rest := []) (st1 := []) S G hl.1 (fun _ => rfl) (mt_X4_addRest l D cid b ex sa sv B0 sh q0 v3 v5 v7 d _ hd8) hqd8 (by decide) kw_477 kw_478 kw_479 kw_12 kw_480 hd_X4_addRest ⟨Nat.le_of_ble_eq_true rfl, Nat.le_of_ble_eq_true rfl⟩ rfl rfl rfl (Nat.le_of_ble_eq_true rfl) ⟨Nat.le_of_ble_eq_true rfl, Nat.le_of_ble_eq_true rfl⟩ dX4_begin_175 (fun H locs G => ?_)
          refine lv_iinc (v := (x2 + 1)) (lv' := [(2, .int (x2 + 1)), (0, .ref (b + q0)), (1, .ref (b + q1))]) hx hb dX4_begin_178 hl (k := 2) rfl rfl (by decide) rfl (fun ls hl => ?_)
          refine lv_goto (tgt := 142) hx hb dX4_begin_181 (by decide) ?_
          exact hrec142 q0 q1 (x2 + 1) d8 hf _ _ ls (lv_sub hl [1, 2, 0] rfl) G
  unfold f_X4_begin at hf
  refine lv_aload_n hx hb dX4_begin_0 rfl (lv_at hl 0 rfl) ?_
  refine lv_iconst (v := (0 : Int32)) hx hb dX4_begin_1 (by decide) ?_
  obtain ⟨d9, hd9, hf⟩ := x_ob hf
  refine xr_putI (ci := 4) (k := 0) S G hd9 rfl kw_313 dX4_begin_2 (fun H locs G => ?_)
  refine lv_aload_n hx hb dX4_begin_5 rfl (lv_at hl 0 rfl) ?_
  refine lv_iconst (v := (0 : Int32)) hx hb dX4_begin_6 (by decide) ?_
  obtain ⟨d10, hd10, hf⟩ := x_ob hf
  refine xr_putI (ci := 4) (k := 1) S G hd10 rfl kw_316 dX4_begin_7 (fun H locs G => ?_)
  refine lv_aload_n hx hb dX4_begin_10 rfl (lv_at hl 0 rfl) ?_
  refine lv_aload_n hx hb dX4_begin_11 rfl (lv_at hl 1 rfl) ?_
  obtain ⟨v11, hv11, hf⟩ := x_ob hf
  refine xr_getI (ci := 3) (k := 1) S G hv11 rfl kw_83 dX4_begin_12 ?_
  obtain ⟨d12, hd12, hf⟩ := x_ob hf
  refine xr_putI (ci := 4) (k := 2) S G hd12 rfl kw_319 dX4_begin_15 (fun H locs G => ?_)
  refine lv_aload_n hx hb dX4_begin_18 rfl (lv_at hl 0 rfl) ?_
  refine lv_aload_n hx hb dX4_begin_19 rfl (lv_at hl 1 rfl) ?_
  obtain ⟨v13, hv13, hf⟩ := x_ob hf
  refine xr_getI (ci := 3) (k := 3) S G hv13 rfl kw_90 dX4_begin_20 ?_
  refine lv_i2l (v := (v13).toInt64) hx hb dX4_begin_23 rfl ?_
  obtain ⟨d14, hd14, hf⟩ := x_ob hf
  refine xr_putL (ci := 4) (k := 3) S G hd14 rfl kw_323 dX4_begin_24 (fun H locs G => ?_)
  refine lv_aload_n hx hb dX4_begin_27 rfl (lv_at hl 0 rfl) ?_
  refine lv_aload_n hx hb dX4_begin_28 rfl (lv_at hl 1 rfl) ?_
  obtain ⟨v15, hv15, hf⟩ := x_ob hf
  refine xr_getI (ci := 3) (k := 9) S G hv15 rfl kw_103 dX4_begin_29 ?_
  obtain ⟨d16, hd16, hf⟩ := x_ob hf
  refine xr_putI (ci := 4) (k := 4) S G hd16 rfl kw_326 dX4_begin_32 (fun H locs G => ?_)
  refine lv_aload_n hx hb dX4_begin_35 rfl (lv_at hl 0 rfl) ?_
  obtain ⟨v17, hv17, hf⟩ := x_ob hf
  refine xr_getR (ci := 4) (k := 5) S G hv17 rfl kw_327 dX4_begin_36 ?_
  refine lv_iconst (v := (0 : Int32)) hx hb dX4_begin_39 (by decide) ?_
  obtain ⟨d18, hd18, hf⟩ := x_ob hf
  refine xr_callS (As := [.ref (b + v17), .int (0 : Int32)]) (rest := []) (st1 := []) S G hl.1 (fun _ => rfl) (mt_J7_fill_53178 l D cid b ex sa sv B0 sh v17 (0 : Int32) d16 _ hd18) kw_473 kw_76 kw_4 kw_77 hd_J7_fill_53178 ⟨Nat.le_of_ble_eq_true rfl, Nat.le_of_ble_eq_true rfl⟩ rfl rfl rfl (Nat.le_of_ble_eq_true rfl) ⟨Nat.le_of_ble_eq_true rfl, Nat.le_of_ble_eq_true rfl⟩ dX4_begin_40 (fun H locs G => ?_)
  refine lv_aload_n hx hb dX4_begin_43 rfl (lv_at hl 1 rfl) ?_
  obtain ⟨v19, hv19, hf⟩ := x_ob hf
  refine xr_getR (ci := 3) (k := 11) S G hv19 rfl kw_109 dX4_begin_44 ?_
  refine lv_iconst (v := (0 : Int32)) hx hb dX4_begin_47 (by decide) ?_
  refine lv_aload_n hx hb dX4_begin_48 rfl (lv_at hl 0 rfl) ?_
  obtain ⟨v20, hv20, hf⟩ := x_ob hf
  refine xr_getR (ci := 4) (k := 6) S G hv20 rfl kw_330 dX4_begin_49 ?_
  refine lv_iconst (v := (0 : Int32)) hx hb dX4_begin_52 (by decide) ?_
  refine lv_bipush (v := (6 : Int32)) hx hb dX4_begin_53 (by decide) ?_
  obtain ⟨d21, hd21, hf⟩ := x_ob hf
  refine xr_copy S G hl.1 hd21 kw_474 (Nat.le_of_ble_eq_true rfl) (Nat.le_of_ble_eq_true rfl) dX4_begin_55 (fun H locs G => ?_)
  refine lv_aload_n hx hb dX4_begin_58 rfl (lv_at hl 1 rfl) ?_
  obtain ⟨v22, hv22, hf⟩ := x_ob hf
  refine xr_getR (ci := 3) (k := 12) S G hv22 rfl kw_111 dX4_begin_59 ?_
  refine lv_iconst (v := (0 : Int32)) hx hb dX4_begin_62 (by decide) ?_
  refine lv_aload_n hx hb dX4_begin_63 rfl (lv_at hl 0 rfl) ?_
  obtain ⟨v23, hv23, hf⟩ := x_ob hf
  refine xr_getR (ci := 4) (k := 7) S G hv23 rfl kw_333 dX4_begin_64 ?_
  refine lv_iconst (v := (0 : Int32)) hx hb dX4_begin_67 (by decide) ?_
  refine lv_bipush (v := (6 : Int32)) hx hb dX4_begin_68 (by decide) ?_
  obtain ⟨d24, hd24, hf⟩ := x_ob hf
  refine xr_copy S G hl.1 hd24 kw_474 (Nat.le_of_ble_eq_true rfl) (Nat.le_of_ble_eq_true rfl) dX4_begin_70 (fun H locs G => ?_)
  refine lv_aload_n hx hb dX4_begin_73 rfl (lv_at hl 1 rfl) ?_
  obtain ⟨v25, hv25, hf⟩ := x_ob hf
  refine xr_getR (ci := 3) (k := 13) S G hv25 rfl kw_113 dX4_begin_74 ?_
  refine lv_iconst (v := (0 : Int32)) hx hb dX4_begin_77 (by decide) ?_
  refine lv_aload_n hx hb dX4_begin_78 rfl (lv_at hl 0 rfl) ?_
  obtain ⟨v26, hv26, hf⟩ := x_ob hf
  refine xr_getR (ci := 4) (k := 8) S G hv26 rfl kw_336 dX4_begin_79 ?_
  refine lv_iconst (v := (0 : Int32)) hx hb dX4_begin_82 (by decide) ?_
  refine lv_bipush (v := (6 : Int32)) hx hb dX4_begin_83 (by decide) ?_
  obtain ⟨d27, hd27, hf⟩ := x_ob hf
  refine xr_copy S G hl.1 hd27 kw_474 (Nat.le_of_ble_eq_true rfl) (Nat.le_of_ble_eq_true rfl) dX4_begin_85 (fun H locs G => ?_)
  refine lv_aload_n hx hb dX4_begin_88 rfl (lv_at hl 0 rfl) ?_
  obtain ⟨v28, hv28, hf⟩ := x_ob hf
  refine xr_getR (ci := 4) (k := 9) S G hv28 rfl kw_339 dX4_begin_89 ?_
  refine lv_iconst (v := (0 : Int32)) hx hb dX4_begin_92 (by decide) ?_
  obtain ⟨d29, hd29, hf⟩ := x_ob hf
  refine xr_callS (As := [.ref (b + v28), .int (0 : Int32)]) (rest := []) (st1 := []) S G hl.1 (fun _ => rfl) (mt_J7_fill_53178 l D cid b ex sa sv B0 sh v28 (0 : Int32) d27 _ hd29) kw_473 kw_76 kw_4 kw_77 hd_J7_fill_53178 ⟨Nat.le_of_ble_eq_true rfl, Nat.le_of_ble_eq_true rfl⟩ rfl rfl rfl (Nat.le_of_ble_eq_true rfl) ⟨Nat.le_of_ble_eq_true rfl, Nat.le_of_ble_eq_true rfl⟩ dX4_begin_93 (fun H locs G => ?_)
  refine lv_aload_n hx hb dX4_begin_96 rfl (lv_at hl 0 rfl) ?_
  obtain ⟨v30, hv30, hf⟩ := x_ob hf
  refine xr_getR (ci := 4) (k := 10) S G hv30 rfl kw_342 dX4_begin_97 ?_
  refine lv_iconst (v := (0 : Int32)) hx hb dX4_begin_100 (by decide) ?_
  obtain ⟨d31, hd31, hf⟩ := x_ob hf
  refine xr_callS (As := [.ref (b + v30), .int (0 : Int32)]) (rest := []) (st1 := []) S G hl.1 (fun _ => rfl) (mt_J7_fill_53178 l D cid b ex sa sv B0 sh v30 (0 : Int32) d29 _ hd31) kw_473 kw_76 kw_4 kw_77 hd_J7_fill_53178 ⟨Nat.le_of_ble_eq_true rfl, Nat.le_of_ble_eq_true rfl⟩ rfl rfl rfl (Nat.le_of_ble_eq_true rfl) ⟨Nat.le_of_ble_eq_true rfl, Nat.le_of_ble_eq_true rfl⟩ dX4_begin_101 (fun H locs G => ?_)
  refine lv_aload_n hx hb dX4_begin_104 rfl (lv_at hl 0 rfl) ?_
  obtain ⟨v32, hv32, hf⟩ := x_ob hf
  refine xr_getR (ci := 4) (k := 11) S G hv32 rfl kw_345 dX4_begin_105 ?_
  refine lv_iconst (v := (0 : Int32)) hx hb dX4_begin_108 (by decide) ?_
  obtain ⟨d33, hd33, hf⟩ := x_ob hf
  refine xr_callS (As := [.ref (b + v32), .int (0 : Int32)]) (rest := []) (st1 := []) S G hl.1 (fun _ => rfl) (mt_J7_fill_53178 l D cid b ex sa sv B0 sh v32 (0 : Int32) d31 _ hd33) kw_473 kw_76 kw_4 kw_77 hd_J7_fill_53178 ⟨Nat.le_of_ble_eq_true rfl, Nat.le_of_ble_eq_true rfl⟩ rfl rfl rfl (Nat.le_of_ble_eq_true rfl) ⟨Nat.le_of_ble_eq_true rfl, Nat.le_of_ble_eq_true rfl⟩ dX4_begin_109 (fun H locs G => ?_)
  refine lv_aload_n hx hb dX4_begin_112 rfl (lv_at hl 1 rfl) ?_
  obtain ⟨v34, hv34, hf⟩ := x_ob hf
  refine xr_getR (ci := 3) (k := 7) S G hv34 rfl kw_100 dX4_begin_113 ?_
  refine lv_iconst (v := (0 : Int32)) hx hb dX4_begin_116 (by decide) ?_
  refine lv_aload_n hx hb dX4_begin_117 rfl (lv_at hl 0 rfl) ?_
  obtain ⟨v35, hv35, hf⟩ := x_ob hf
  refine xr_getR (ci := 4) (k := 12) S G hv35 rfl kw_348 dX4_begin_118 ?_
  refine lv_iconst (v := (0 : Int32)) hx hb dX4_begin_121 (by decide) ?_
  refine lv_bipush (v := (8 : Int32)) hx hb dX4_begin_122 (by decide) ?_
  obtain ⟨d36, hd36, hf⟩ := x_ob hf
  refine xr_copy S G hl.1 hd36 kw_474 (Nat.le_of_ble_eq_true rfl) (Nat.le_of_ble_eq_true rfl) dX4_begin_124 (fun H locs G => ?_)
  refine lv_aload_n hx hb dX4_begin_127 rfl (lv_at hl 0 rfl) ?_
  obtain ⟨v37, hv37, hf⟩ := x_ob hf
  refine xr_getR (ci := 4) (k := 13) S G hv37 rfl kw_350 dX4_begin_128 ?_
  refine lv_iconst (v := (0 : Int32)) hx hb dX4_begin_131 (by decide) ?_
  obtain ⟨d38, hd38, hf⟩ := x_ob hf
  refine xr_callS (As := [.ref (b + v37), .int (0 : Int32)]) (rest := []) (st1 := []) S G hl.1 (fun _ => rfl) (mt_J7_fill_53178 l D cid b ex sa sv B0 sh v37 (0 : Int32) d36 _ hd38) kw_473 kw_76 kw_4 kw_77 hd_J7_fill_53178 ⟨Nat.le_of_ble_eq_true rfl, Nat.le_of_ble_eq_true rfl⟩ rfl rfl rfl (Nat.le_of_ble_eq_true rfl) ⟨Nat.le_of_ble_eq_true rfl, Nat.le_of_ble_eq_true rfl⟩ dX4_begin_132 (fun H locs G => ?_)
  refine lv_aload_n hx hb dX4_begin_135 rfl (lv_at hl 0 rfl) ?_
  refine lv_iconst (v := (0 : Int32)) hx hb dX4_begin_136 (by decide) ?_
  obtain ⟨d39, hd39, hf⟩ := x_ob hf
  refine xr_putI (ci := 4) (k := 14) S G hd39 rfl kw_353 dX4_begin_137 (fun H locs G => ?_)
  refine lv_iconst (v := (0 : Int32)) hx hb dX4_begin_140 (by decide) ?_
  refine lv_istore_n (lv' := [(2, .int (0 : Int32)), (0, .ref (b + q0)), (1, .ref (b + q1))]) hx hb dX4_begin_141 rfl hl (by decide) rfl (fun ls hl => ?_)
  exact K142 xF q0 q1 (0 : Int32) d39 hf _ _ ls (lv_sub hl [1, 2, 0] rfl) G
-- HalfLandingsModel.starts(I)V
theorem dX10_starts_0 : decode cX10_starts 0 = .ok (.aload_n 0, 1) := by decide +kernel
theorem dX10_starts_1 : decode cX10_starts 1 = .ok (.getfield 72, 3) := by decide +kernel
theorem dX10_starts_4 : decode cX10_starts 4 = .ok (.iload_n 1, 1) := by decide +kernel
theorem dX10_starts_5 : decode cX10_starts 5 = .ok (.iconst 0, 1) := by decide +kernel
theorem dX10_starts_6 : decode cX10_starts 6 = .ok (.iastore, 1) := by decide +kernel
theorem dX10_starts_7 : decode cX10_starts 7 = .ok (.aload_n 0, 1) := by decide +kernel
theorem dX10_starts_8 : decode cX10_starts 8 = .ok (.getfield 75, 3) := by decide +kernel
theorem dX10_starts_11 : decode cX10_starts 11 = .ok (.iload_n 1, 1) := by decide +kernel
theorem dX10_starts_12 : decode cX10_starts 12 = .ok (.aload_n 0, 1) := by decide +kernel
theorem dX10_starts_13 : decode cX10_starts 13 = .ok (.getfield 13, 3) := by decide +kernel
theorem dX10_starts_16 : decode cX10_starts 16 = .ok (.bipush 6, 2) := by decide +kernel
theorem dX10_starts_18 : decode cX10_starts 18 = .ok (.iaload, 1) := by decide +kernel
theorem dX10_starts_19 : decode cX10_starts 19 = .ok (.iastore, 1) := by decide +kernel
theorem dX10_starts_20 : decode cX10_starts 20 = .ok (.aload_n 0, 1) := by decide +kernel
theorem dX10_starts_21 : decode cX10_starts 21 = .ok (.getfield 78, 3) := by decide +kernel
theorem dX10_starts_24 : decode cX10_starts 24 = .ok (.iload_n 1, 1) := by decide +kernel
theorem dX10_starts_25 : decode cX10_starts 25 = .ok (.iconst 0, 1) := by decide +kernel
theorem dX10_starts_26 : decode cX10_starts 26 = .ok (.iastore, 1) := by decide +kernel
theorem dX10_starts_27 : decode cX10_starts 27 = .ok (.aload_n 0, 1) := by decide +kernel
theorem dX10_starts_28 : decode cX10_starts 28 = .ok (.getfield 81, 3) := by decide +kernel
theorem dX10_starts_31 : decode cX10_starts 31 = .ok (.iload_n 1, 1) := by decide +kernel
theorem dX10_starts_32 : decode cX10_starts 32 = .ok (.aload_n 0, 1) := by decide +kernel
theorem dX10_starts_33 : decode cX10_starts 33 = .ok (.getfield 13, 3) := by decide +kernel
theorem dX10_starts_36 : decode cX10_starts 36 = .ok (.iconst 4, 1) := by decide +kernel
theorem dX10_starts_37 : decode cX10_starts 37 = .ok (.iaload, 1) := by decide +kernel
theorem dX10_starts_38 : decode cX10_starts 38 = .ok (.iastore, 1) := by decide +kernel
theorem dX10_starts_39 : decode cX10_starts 39 = .ok (.aload_n 0, 1) := by decide +kernel
theorem dX10_starts_40 : decode cX10_starts 40 = .ok (.getfield 84, 3) := by decide +kernel
theorem dX10_starts_43 : decode cX10_starts 43 = .ok (.iload_n 1, 1) := by decide +kernel
theorem dX10_starts_44 : decode cX10_starts 44 = .ok (.iconst 0, 1) := by decide +kernel
theorem dX10_starts_45 : decode cX10_starts 45 = .ok (.iastore, 1) := by decide +kernel
theorem dX10_starts_46 : decode cX10_starts 46 = .ok (.iconst 0, 1) := by decide +kernel
theorem dX10_starts_47 : decode cX10_starts 47 = .ok (.istore_n 2, 1) := by decide +kernel
theorem dX10_starts_48 : decode cX10_starts 48 = .ok (.iload_n 2, 1) := by decide +kernel
theorem dX10_starts_49 : decode cX10_starts 49 = .ok (.bipush 6, 2) := by decide +kernel
theorem dX10_starts_51 : decode cX10_starts 51 = .ok (.if_icmp .ge 110, 3) := by decide +kernel
theorem dX10_starts_54 : decode cX10_starts 54 = .ok (.bipush 6, 2) := by decide +kernel
theorem dX10_starts_56 : decode cX10_starts 56 = .ok (.iload_n 1, 1) := by decide +kernel
theorem dX10_starts_57 : decode cX10_starts 57 = .ok (.imul, 1) := by decide +kernel
theorem dX10_starts_58 : decode cX10_starts 58 = .ok (.iload_n 2, 1) := by decide +kernel
theorem dX10_starts_59 : decode cX10_starts 59 = .ok (.iadd, 1) := by decide +kernel
theorem dX10_starts_60 : decode cX10_starts 60 = .ok (.istore_n 3, 1) := by decide +kernel
theorem dX10_starts_61 : decode cX10_starts 61 = .ok (.iload_n 2, 1) := by decide +kernel
theorem dX10_starts_62 : decode cX10_starts 62 = .ok (.aload_n 0, 1) := by decide +kernel
theorem dX10_starts_63 : decode cX10_starts 63 = .ok (.getfield 13, 3) := by decide +kernel
theorem dX10_starts_66 : decode cX10_starts 66 = .ok (.iconst 2, 1) := by decide +kernel
theorem dX10_starts_67 : decode cX10_starts 67 = .ok (.iaload, 1) := by decide +kernel
theorem dX10_starts_68 : decode cX10_starts 68 = .ok (.if_icmp .ge 7, 3) := by decide +kernel
theorem dX10_starts_71 : decode cX10_starts 71 = .ok (.iconst 1, 1) := by decide +kernel
theorem dX10_starts_72 : decode cX10_starts 72 = .ok (.goto 4, 3) := by decide +kernel
theorem dX10_starts_75 : decode cX10_starts 75 = .ok (.iconst 0, 1) := by decide +kernel
theorem dX10_starts_76 : decode cX10_starts 76 = .ok (.istore 4, 2) := by decide +kernel
theorem dX10_starts_78 : decode cX10_starts 78 = .ok (.aload_n 0, 1) := by decide +kernel
theorem dX10_starts_79 : decode cX10_starts 79 = .ok (.getfield 87, 3) := by decide +kernel
theorem dX10_starts_82 : decode cX10_starts 82 = .ok (.iload_n 3, 1) := by decide +kernel
theorem dX10_starts_83 : decode cX10_starts 83 = .ok (.iconst 0, 1) := by decide +kernel
theorem dX10_starts_84 : decode cX10_starts 84 = .ok (.iastore, 1) := by decide +kernel
theorem dX10_starts_85 : decode cX10_starts 85 = .ok (.aload_n 0, 1) := by decide +kernel
theorem dX10_starts_86 : decode cX10_starts 86 = .ok (.getfield 90, 3) := by decide +kernel
theorem dX10_starts_89 : decode cX10_starts 89 = .ok (.iload_n 3, 1) := by decide +kernel
theorem dX10_starts_90 : decode cX10_starts 90 = .ok (.iload 4, 2) := by decide +kernel
theorem dX10_starts_92 : decode cX10_starts 92 = .ok (.ifCond .eq 12, 3) := by decide +kernel
theorem dX10_starts_95 : decode cX10_starts 95 = .ok (.aload_n 0, 1) := by decide +kernel
theorem dX10_starts_96 : decode cX10_starts 96 = .ok (.getfield 28, 3) := by decide +kernel
theorem dX10_starts_99 : decode cX10_starts 99 = .ok (.iload_n 2, 1) := by decide +kernel
theorem dX10_starts_100 : decode cX10_starts 100 = .ok (.iaload, 1) := by decide +kernel
theorem dX10_starts_101 : decode cX10_starts 101 = .ok (.goto 4, 3) := by decide +kernel
theorem dX10_starts_104 : decode cX10_starts 104 = .ok (.iconst 0, 1) := by decide +kernel
theorem dX10_starts_105 : decode cX10_starts 105 = .ok (.iastore, 1) := by decide +kernel
theorem dX10_starts_106 : decode cX10_starts 106 = .ok (.aload_n 0, 1) := by decide +kernel
theorem dX10_starts_107 : decode cX10_starts 107 = .ok (.getfield 93, 3) := by decide +kernel
theorem dX10_starts_110 : decode cX10_starts 110 = .ok (.iload_n 3, 1) := by decide +kernel
theorem dX10_starts_111 : decode cX10_starts 111 = .ok (.iload 4, 2) := by decide +kernel
theorem dX10_starts_113 : decode cX10_starts 113 = .ok (.ifCond .eq 12, 3) := by decide +kernel
theorem dX10_starts_116 : decode cX10_starts 116 = .ok (.aload_n 0, 1) := by decide +kernel
theorem dX10_starts_117 : decode cX10_starts 117 = .ok (.getfield 31, 3) := by decide +kernel
theorem dX10_starts_120 : decode cX10_starts 120 = .ok (.iload_n 2, 1) := by decide +kernel
theorem dX10_starts_121 : decode cX10_starts 121 = .ok (.iaload, 1) := by decide +kernel
theorem dX10_starts_122 : decode cX10_starts 122 = .ok (.goto 4, 3) := by decide +kernel
theorem dX10_starts_125 : decode cX10_starts 125 = .ok (.iconst 0, 1) := by decide +kernel
theorem dX10_starts_126 : decode cX10_starts 126 = .ok (.iastore, 1) := by decide +kernel
theorem dX10_starts_127 : decode cX10_starts 127 = .ok (.aload_n 0, 1) := by decide +kernel
theorem dX10_starts_128 : decode cX10_starts 128 = .ok (.getfield 96, 3) := by decide +kernel
theorem dX10_starts_131 : decode cX10_starts 131 = .ok (.iload_n 3, 1) := by decide +kernel
theorem dX10_starts_132 : decode cX10_starts 132 = .ok (.iconst (-1), 1) := by decide +kernel
theorem dX10_starts_133 : decode cX10_starts 133 = .ok (.iastore, 1) := by decide +kernel
theorem dX10_starts_134 : decode cX10_starts 134 = .ok (.aload_n 0, 1) := by decide +kernel
theorem dX10_starts_135 : decode cX10_starts 135 = .ok (.getfield 99, 3) := by decide +kernel
theorem dX10_starts_138 : decode cX10_starts 138 = .ok (.iload_n 3, 1) := by decide +kernel
theorem dX10_starts_139 : decode cX10_starts 139 = .ok (.iconst 0, 1) := by decide +kernel
theorem dX10_starts_140 : decode cX10_starts 140 = .ok (.iastore, 1) := by decide +kernel
theorem dX10_starts_141 : decode cX10_starts 141 = .ok (.aload_n 0, 1) := by decide +kernel
theorem dX10_starts_142 : decode cX10_starts 142 = .ok (.getfield 102, 3) := by decide +kernel
theorem dX10_starts_145 : decode cX10_starts 145 = .ok (.iload_n 3, 1) := by decide +kernel
theorem dX10_starts_146 : decode cX10_starts 146 = .ok (.iconst 0, 1) := by decide +kernel
theorem dX10_starts_147 : decode cX10_starts 147 = .ok (.iastore, 1) := by decide +kernel
theorem dX10_starts_148 : decode cX10_starts 148 = .ok (.aload_n 0, 1) := by decide +kernel
theorem dX10_starts_149 : decode cX10_starts 149 = .ok (.getfield 105, 3) := by decide +kernel
theorem dX10_starts_152 : decode cX10_starts 152 = .ok (.iload_n 3, 1) := by decide +kernel
theorem dX10_starts_153 : decode cX10_starts 153 = .ok (.iconst 0, 1) := by decide +kernel
theorem dX10_starts_154 : decode cX10_starts 154 = .ok (.iastore, 1) := by decide +kernel
theorem dX10_starts_155 : decode cX10_starts 155 = .ok (.iinc 2 1, 3) := by decide +kernel
theorem dX10_starts_158 : decode cX10_starts 158 = .ok (.goto (-110), 3) := by decide +kernel
theorem dX10_starts_161 : decode cX10_starts 161 = .ok (.iconst 0, 1) := by decide +kernel
theorem dX10_starts_162 : decode cX10_starts 162 = .ok (.istore_n 2, 1) := by decide +kernel
theorem dX10_starts_163 : decode cX10_starts 163 = .ok (.iload_n 2, 1) := by decide +kernel
theorem dX10_starts_164 : decode cX10_starts 164 = .ok (.bipush 8, 2) := by decide +kernel
theorem dX10_starts_166 : decode cX10_starts 166 = .ok (.if_icmp .ge 21, 3) := by decide +kernel
theorem dX10_starts_169 : decode cX10_starts 169 = .ok (.aload_n 0, 1) := by decide +kernel
theorem dX10_starts_170 : decode cX10_starts 170 = .ok (.getfield 108, 3) := by decide +kernel
theorem dX10_starts_173 : decode cX10_starts 173 = .ok (.bipush 8, 2) := by decide +kernel
theorem dX10_starts_175 : decode cX10_starts 175 = .ok (.iload_n 1, 1) := by decide +kernel
theorem dX10_starts_176 : decode cX10_starts 176 = .ok (.imul, 1) := by decide +kernel
theorem dX10_starts_177 : decode cX10_starts 177 = .ok (.iload_n 2, 1) := by decide +kernel
theorem dX10_starts_178 : decode cX10_starts 178 = .ok (.iadd, 1) := by decide +kernel
theorem dX10_starts_179 : decode cX10_starts 179 = .ok (.iconst 0, 1) := by decide +kernel
theorem dX10_starts_180 : decode cX10_starts 180 = .ok (.iastore, 1) := by decide +kernel
theorem dX10_starts_181 : decode cX10_starts 181 = .ok (.iinc 2 1, 3) := by decide +kernel
theorem dX10_starts_184 : decode cX10_starts 184 = .ok (.goto (-21), 3) := by decide +kernel
theorem dX10_starts_187 : decode cX10_starts 187 = .ok (.return_, 1) := by decide +kernel
theorem hd_X10_starts : yX10_starts.cls = xCn 10 ∧ yX10_starts.cls ≠ "java/lang/invoke/MethodHandle" ∧ yX10_starts.cls ≠ "java/lang/invoke/VarHandle" ∧ (parseMethodDescriptor yX10_starts.desc).map (fun d => d.parameters.length) = some 1 := by decide +kernel
def k_X10_starts_187 (sh : List xSh) (d : xD) : Option xD :=
  some d
def b_X10_starts_163 (sh : List xSh) (rec163 : Nat → Int32 → Int32 → xD → Option xD) (q0 : Nat) (x1 : Int32) (x2 : Int32) (d : xD) : Option xD :=
  if (8 : Int32) ≤ x2 then (k_X10_starts_187 sh d) else ((xgR 10 sh d q0 47).bind fun v1 => (xsI .int sh d v1 (((8 : Int32) * x1) + x2) (0 : Int32)).bind fun d2 => rec163 q0 x1 (x2 + 1) d2)
def k_X10_starts_161 (sh : List xSh) (q0 : Nat) (x1 : Int32) (d : xD) : Option xD :=
  xloop (fun _ _ _ _ => none) (b_X10_starts_163 sh) xF q0 x1 (0 : Int32) d
def k_X10_starts_126 (sh : List xSh) (rec48 : Nat → Int32 → Int32 → xD → Option xD) (q0 : Nat) (x1 : Int32) (x2 : Int32) (x3 : Int32) (p0 : Nat) (y1 : Int32) (y2 : Int32) (d : xD) : Option xD :=
  (xsI .int sh d p0 y1 y2).bind fun d3 => (xgR 10 sh d3 q0 43).bind fun v4 => (xsI .int sh d3 v4 x3 (-1 : Int32)).bind fun d5 => (xgR 10 sh d5 q0 44).bind fun v6 => (xsI .int sh d5 v6 x3 (0 : Int32)).bind fun d7 => (xgR 10 sh d7 q0 45).bind fun v8 => (xsI .int sh d7 v8 x3 (0 : Int32)).bind fun d9 => (xgR 10 sh d9 q0 46).bind fun v10 => (xsI .int sh d9 v10 x3 (0 : Int32)).bind fun d11 => rec48 q0 x1 (x2 + 1) d11
def k_X10_starts_105 (sh : List xSh) (rec48 : Nat → Int32 → Int32 → xD → Option xD) (q0 : Nat) (x1 : Int32) (x2 : Int32) (x3 : Int32) (x4 : Int32) (p0 : Nat) (y1 : Int32) (y2 : Int32) (d : xD) : Option xD :=
  (xsI .int sh d p0 y1 y2).bind fun d12 => (xgR 10 sh d12 q0 42).bind fun v13 => if x4 = 0 then (k_X10_starts_126 sh rec48 q0 x1 x2 x3 v13 x3 (0 : Int32) d12) else ((xgR 10 sh d12 q0 9).bind fun v14 => (xaI .int sh d12 v14 x2).bind fun v15 => k_X10_starts_126 sh rec48 q0 x1 x2 x3 v13 x3 v15 d12)
def k_X10_starts_76 (sh : List xSh) (rec48 : Nat → Int32 → Int32 → xD → Option xD) (q0 : Nat) (x1 : Int32) (x2 : Int32) (x3 : Int32) (y0 : Int32) (d : xD) : Option xD :=
  (xgR 10 sh d q0 40).bind fun v16 => (xsI .int sh d v16 x3 (0 : Int32)).bind fun d17 => (xgR 10 sh d17 q0 41).bind fun v18 => if y0 = 0 then (k_X10_starts_105 sh rec48 q0 x1 x2 x3 y0 v18 x3 (0 : Int32) d17) else ((xgR 10 sh d17 q0 8).bind fun v19 => (xaI .int sh d17 v19 x2).bind fun v20 => k_X10_starts_105 sh rec48 q0 x1 x2 x3 y0 v18 x3 v20 d17)
def b_X10_starts_48 (sh : List xSh) (rec48 : Nat → Int32 → Int32 → xD → Option xD) (q0 : Nat) (x1 : Int32) (x2 : Int32) (d : xD) : Option xD :=
  if (6 : Int32) ≤ x2 then (k_X10_starts_161 sh q0 x1 d) else ((xgR 10 sh d q0 3).bind fun v21 => (xaI .int sh d v21 (2 : Int32)).bind fun v22 => if v22 ≤ x2 then (k_X10_starts_76 sh rec48 q0 x1 x2 (((6 : Int32) * x1) + x2) (0 : Int32) d) else (k_X10_starts_76 sh rec48 q0 x1 x2 (((6 : Int32) * x1) + x2) (1 : Int32) d))
def f_X10_starts (sh : List xSh) (q0 : Nat) (x1 : Int32) (d : xD) : Option xD :=
  (xgR 10 sh d q0 35).bind fun v23 => (xsI .int sh d v23 x1 (0 : Int32)).bind fun d24 => (xgR 10 sh d24 q0 36).bind fun v25 => (xgR 10 sh d24 q0 3).bind fun v26 => (xaI .int sh d24 v26 (6 : Int32)).bind fun v27 => (xsI .int sh d24 v25 x1 v27).bind fun d28 => (xgR 10 sh d28 q0 37).bind fun v29 => (xsI .int sh d28 v29 x1 (0 : Int32)).bind fun d30 => (xgR 10 sh d30 q0 38).bind fun v31 => (xgR 10 sh d30 q0 3).bind fun v32 => (xaI .int sh d30 v32 (4 : Int32)).bind fun v33 => (xsI .int sh d30 v31 x1 v33).bind fun d34 => (xgR 10 sh d34 q0 39).bind fun v35 => (xsI .int sh d34 v35 x1 (0 : Int32)).bind fun d36 => xloop (fun _ _ _ _ => none) (b_X10_starts_48 sh) xF q0 x1 (0 : Int32) d36
set_option maxHeartbeats 4000000 in
set_option maxRecDepth 100000 in
theorem mt_X10_starts (l : Launch) (D : va_G) (cid : FieldType → ClassId) (b : Nat) (ex : Bool) (sa sv B0 : Nat) (sh : List xSh) (q0 : Nat) (x1 : Int32) (d : xD) (dz : xD) (hf : f_X10_starts sh q0 x1 d = some dz) : xMet l yX10_starts cX10_starts 5 none 0 0 0 D cid b ex sa sv B0 [.ref (b + q0), .int x1] sh d none sh dz := by
  refine xMet.of (by decide) (Nat.le_of_ble_eq_true rfl) ?_
  intro p e s m below meth c ls A S hr hin G hl
  have hl : lv_has ls 5 [(0, .ref (b + q0)), (1, .int x1)] := hl
  generalize ([.ref (b + q0), .int x1] : List Value).toArray = av at S ⊢
  have hx := S.1
  have hb := S.2.1
  have hml := S.2.2.1
  have hown := S.2.2.2.1
  have hts := S.2.2.2.2.1
  have K187 : ∀ (d : xD), k_X10_starts_187 sh d = some dz → ∀ (H : Heap) (locs : List Loc) (ls : Array Slot), lv_has ls 5 [] → xG D cid b A sh d s H locs → W p l e (xRm 0 0 0) s m av below meth c H locs 0 0 (MQ below (xQ D cid b ex A none sh dz) av s 0 0 A) (F0 m 187 ls []) := by
    intro d hf H locs ls hl G
    unfold k_X10_starts_187 at hf
    cases hf
    exact xr_vret S G (fun _ => rfl) hr dX10_starts_187
  have K163 : ∀ (n : Nat) (q0 : Nat) (x1 : Int32) (x2 : Int32) (d : xD), xloop (fun _ _ _ _ => none) (b_X10_starts_163 sh) n q0 x1 x2 d = some dz → ∀ (H : Heap) (locs : List Loc) (ls : Array Slot), lv_has ls 5 [(0, .ref (b + q0)), (1, .int x1), (2, .int x2)] → xG D cid b A sh d s H locs → W p l e (xRm 0 0 0) s m av below meth c H locs 0 0 (MQ below (xQ D cid b ex A none sh dz) av s 0 0 A) (F0 m 163 ls []) := by
    intro n
    induction n with
    | zero =>
      intro q0 x1 x2 d hf
      have hf : (none : Option xD) = some dz := hf
      cases hf
    | succ n hrec163 =>
      intro q0 x1 x2 d hf H locs ls hl G
      have hf : b_X10_starts_163 sh (xloop (fun _ _ _ _ => none) (b_X10_starts_163 sh) n) q0 x1 x2 d = some dz := hf
      unfold b_X10_starts_163 at hf
      refine lv_iload_n hx hb dX10_starts_163 rfl (lv_at hl 2 rfl) ?_
      refine lv_bipush (v := (8 : Int32)) hx hb dX10_starts_164 (by decide) ?_
      refine lv_icmp_ge (tgt := 187) hx hb dX10_starts_166 (by decide) (fun c => ?_) (fun c => ?_)
      · have hf := x_pos c hf
        exact K187 d hf _ _ ls (lv_sub hl [] rfl) G
      · have hf := x_neg c hf
        refine lv_aload_n hx hb dX10_starts_169 rfl (lv_at hl 0 rfl) ?_
        obtain ⟨v1, hv1, hf⟩ := x_ob hf
        refine xr_getR (ci := 10) (k := 47) S G hv1 rfl kw_1215 dX10_starts_170 ?_
        refine lv_bipush (v := (8 : Int32)) hx hb dX10_starts_173 (by decide) ?_
        refine lv_iload_n hx hb dX10_starts_175 rfl (lv_at hl 1 rfl) ?_
        refine lv_imul hx hb dX10_starts_176 ?_
        refine lv_iload_n hx hb dX10_starts_177 rfl (lv_at hl 2 rfl) ?_
        refine lv_iadd hx hb dX10_starts_178 ?_
        refine lv_iconst (v := (0 : Int32)) hx hb dX10_starts_179 (by decide) ?_
        obtain ⟨d2, hd2, hf⟩ := x_ob hf
        refine xr_iast S G hd2 dX10_starts_180 (fun H locs G => ?_)
        refine lv_iinc (v := (x2 + 1)) (lv' := [(2, .int (x2 + 1)), (0, .ref (b + q0)), (1, .int x1)]) hx hb dX10_starts_181 hl (k := 2) rfl rfl (by decide) rfl (fun ls hl => ?_)
        refine lv_goto (tgt := 163) hx hb dX10_starts_184 (by decide) ?_
        exact hrec163 q0 x1 (x2 + 1) d2 hf _ _ ls (lv_sub hl [1, 2, 0] rfl) G
  have K161 : ∀ (q0 : Nat) (x1 : Int32) (d : xD), k_X10_starts_161 sh q0 x1 d = some dz → ∀ (H : Heap) (locs : List Loc) (ls : Array Slot), lv_has ls 5 [(0, .ref (b + q0)), (1, .int x1)] → xG D cid b A sh d s H locs → W p l e (xRm 0 0 0) s m av below meth c H locs 0 0 (MQ below (xQ D cid b ex A none sh dz) av s 0 0 A) (F0 m 161 ls []) := by
    intro q0 x1 d hf H locs ls hl G
    unfold k_X10_starts_161 at hf
    refine lv_iconst (v := (0 : Int32)) hx hb dX10_starts_161 (by decide) ?_
    refine lv_istore_n (lv' := [(2, .int (0 : Int32)), (0, .ref (b + q0)), (1, .int x1)]) hx hb dX10_starts_162 rfl hl (by decide) rfl (fun ls hl => ?_)
    exact K163 xF q0 x1 (0 : Int32) d hf _ _ ls (lv_sub hl [1, 2, 0] rfl) G
  have K126 : ∀ (rec48 : Nat → Int32 → Int32 → xD → Option xD) (hrec48 : ∀ (q0 : Nat) (x1 : Int32) (x2 : Int32) (d : xD), rec48 q0 x1 x2 d = some dz → ∀ (H : Heap) (locs : List Loc) (ls : Array Slot), lv_has ls 5 [(0, .ref (b + q0)), (1, .int x1), (2, .int x2)] → xG D cid b A sh d s H locs → W p l e (xRm 0 0 0) s m av below meth c H locs 0 0 (MQ below (xQ D cid b ex A none sh dz) av s 0 0 A) (F0 m 48 ls [])) (q0 : Nat) (x1 : Int32) (x2 : Int32) (x3 : Int32) (p0 : Nat) (y1 : Int32) (y2 : Int32) (d : xD), k_X10_starts_126 sh rec48 q0 x1 x2 x3 p0 y1 y2 d = some dz → ∀ (H : Heap) (locs : List Loc) (ls : Array Slot), lv_has ls 5 [(0, .ref (b + q0)), (1, .int x1), (2, .int x2), (3, .int x3)] → xG D cid b A sh d s H locs → W p l e (xRm 0 0 0) s m av below meth c H locs 0 0 (MQ below (xQ D cid b ex A none sh dz) av s 0 0 A) (F0 m 126 ls [.int y2, .int y1, .ref (b + p0)]) := by
    intro rec48 hrec48 q0 x1 x2 x3 p0 y1 y2 d hf H locs ls hl G
    unfold k_X10_starts_126 at hf
    obtain ⟨d3, hd3, hf⟩ := x_ob hf
    refine xr_iast S G hd3 dX10_starts_126 (fun H locs G => ?_)
    refine lv_aload_n hx hb dX10_starts_127 rfl (lv_at hl 0 rfl) ?_
    obtain ⟨v4, hv4, hf⟩ := x_ob hf
    refine xr_getR (ci := 10) (k := 43) S G hv4 rfl kw_1211 dX10_starts_128 ?_
    refine lv_iload_n hx hb dX10_starts_131 rfl (lv_at hl 3 rfl) ?_
    refine lv_iconst (v := (-1 : Int32)) hx hb dX10_starts_132 (by decide) ?_
    obtain ⟨d5, hd5, hf⟩ := x_ob hf
    refine xr_iast S G hd5 dX10_starts_133 (fun H locs G => ?_)
    refine lv_aload_n hx hb dX10_starts_134 rfl (lv_at hl 0 rfl) ?_
    obtain ⟨v6, hv6, hf⟩ := x_ob hf
    refine xr_getR (ci := 10) (k := 44) S G hv6 rfl kw_1212 dX10_starts_135 ?_
    refine lv_iload_n hx hb dX10_starts_138 rfl (lv_at hl 3 rfl) ?_
    refine lv_iconst (v := (0 : Int32)) hx hb dX10_starts_139 (by decide) ?_
    obtain ⟨d7, hd7, hf⟩ := x_ob hf
    refine xr_iast S G hd7 dX10_starts_140 (fun H locs G => ?_)
    refine lv_aload_n hx hb dX10_starts_141 rfl (lv_at hl 0 rfl) ?_
    obtain ⟨v8, hv8, hf⟩ := x_ob hf
    refine xr_getR (ci := 10) (k := 45) S G hv8 rfl kw_1213 dX10_starts_142 ?_
    refine lv_iload_n hx hb dX10_starts_145 rfl (lv_at hl 3 rfl) ?_
    refine lv_iconst (v := (0 : Int32)) hx hb dX10_starts_146 (by decide) ?_
    obtain ⟨d9, hd9, hf⟩ := x_ob hf
    refine xr_iast S G hd9 dX10_starts_147 (fun H locs G => ?_)
    refine lv_aload_n hx hb dX10_starts_148 rfl (lv_at hl 0 rfl) ?_
    obtain ⟨v10, hv10, hf⟩ := x_ob hf
    refine xr_getR (ci := 10) (k := 46) S G hv10 rfl kw_1214 dX10_starts_149 ?_
    refine lv_iload_n hx hb dX10_starts_152 rfl (lv_at hl 3 rfl) ?_
    refine lv_iconst (v := (0 : Int32)) hx hb dX10_starts_153 (by decide) ?_
    obtain ⟨d11, hd11, hf⟩ := x_ob hf
    refine xr_iast S G hd11 dX10_starts_154 (fun H locs G => ?_)
    refine lv_iinc (v := (x2 + 1)) (lv' := [(2, .int (x2 + 1)), (0, .ref (b + q0)), (1, .int x1), (3, .int x3)]) hx hb dX10_starts_155 hl (k := 2) rfl rfl (by decide) rfl (fun ls hl => ?_)
    refine lv_goto (tgt := 48) hx hb dX10_starts_158 (by decide) ?_
    exact hrec48 q0 x1 (x2 + 1) d11 hf _ _ ls (lv_sub hl [1, 2, 0] rfl) G
  have K105 : ∀ (rec48 : Nat → Int32 → Int32 → xD → Option xD) (hrec48 : ∀ (q0 : Nat) (x1 : Int32) (x2 : Int32) (d : xD), rec48 q0 x1 x2 d = some dz → ∀ (H : Heap) (locs : List Loc) (ls : Array Slot), lv_has ls 5 [(0, .ref (b + q0)), (1, .int x1), (2, .int x2)] → xG D cid b A sh d s H locs → W p l e (xRm 0 0 0) s m av below meth c H locs 0 0 (MQ below (xQ D cid b ex A none sh dz) av s 0 0 A) (F0 m 48 ls [])) (q0 : Nat) (x1 : Int32) (x2 : Int32) (x3 : Int32) (x4 : Int32) (p0 : Nat) (y1 : Int32) (y2 : Int32) (d : xD), k_X10_starts_105 sh rec48 q0 x1 x2 x3 x4 p0 y1 y2 d = some dz → ∀ (H : Heap) (locs : List Loc) (ls : Array Slot), lv_has ls 5 [(0, .ref (b + q0)), (1, .int x1), (2, .int x2), (3, .int x3), (4, .int x4)] → xG D cid b A sh d s H locs → W p l e (xRm 0 0 0) s m av below meth c H locs 0 0 (MQ below (xQ D cid b ex A none sh dz) av s 0 0 A) (F0 m 105 ls [.int y2, .int y1, .ref (b + p0)]) := by
    intro rec48 hrec48 q0 x1 x2 x3 x4 p0 y1 y2 d hf H locs ls hl G
    unfold k_X10_starts_105 at hf
    obtain ⟨d12, hd12, hf⟩ := x_ob hf
    refine xr_iast S G hd12 dX10_starts_105 (fun H locs G => ?_)
    refine lv_aload_n hx hb dX10_starts_106 rfl (lv_at hl 0 rfl) ?_
    obtain ⟨v13, hv13, hf⟩ := x_ob hf
    refine xr_getR (ci := 10) (k := 42) S G hv13 rfl kw_1210 dX10_starts_107 ?_
    refine lv_iload_n hx hb dX10_starts_110 rfl (lv_at hl 3 rfl) ?_
    refine lv_iload hx hb dX10_starts_111 (lv_at hl 4 rfl) ?_
    refine lv_if_eq (tgt := 125) hx hb dX10_starts_113 (by decide) (fun c => ?_) (fun c => ?_)
    · have hf := x_pos c hf
      refine lv_iconst (v := (0 : Int32)) hx hb dX10_starts_125 (by decide) ?_
      exact K126 _ hrec48 q0 x1 x2 x3 v13 x3 (0 : Int32) d12 hf _ _ ls (lv_sub hl [0, 1, 2, 3] rfl) G
    · have hf := x_neg c hf
      refine lv_aload_n hx hb dX10_starts_116 rfl (lv_at hl 0 rfl) ?_
      obtain ⟨v14, hv14, hf⟩ := x_ob hf
      refine xr_getR (ci := 10) (k := 9) S G hv14 rfl kw_1177 dX10_starts_117 ?_
      refine lv_iload_n hx hb dX10_starts_120 rfl (lv_at hl 2 rfl) ?_
      obtain ⟨v15, hv15, hf⟩ := x_ob hf
      refine xr_iald S G hv15 dX10_starts_121 ?_
      refine lv_goto (tgt := 126) hx hb dX10_starts_122 (by decide) ?_
      exact K126 _ hrec48 q0 x1 x2 x3 v13 x3 v15 d12 hf _ _ ls (lv_sub hl [0, 1, 2, 3] rfl) G
  have K76 : ∀ (rec48 : Nat → Int32 → Int32 → xD → Option xD) (hrec48 : ∀ (q0 : Nat) (x1 : Int32) (x2 : Int32) (d : xD), rec48 q0 x1 x2 d = some dz → ∀ (H : Heap) (locs : List Loc) (ls : Array Slot), lv_has ls 5 [(0, .ref (b + q0)), (1, .int x1), (2, .int x2)] → xG D cid b A sh d s H locs → W p l e (xRm 0 0 0) s m av below meth c H locs 0 0 (MQ below (xQ D cid b ex A none sh dz) av s 0 0 A) (F0 m 48 ls [])) (q0 : Nat) (x1 : Int32) (x2 : Int32) (x3 : Int32) (y0 : Int32) (d : xD), k_X10_starts_76 sh rec48 q0 x1 x2 x3 y0 d = some dz → ∀ (H : Heap) (locs : List Loc) (ls : Array Slot), lv_has ls 5 [(0, .ref (b + q0)), (1, .int x1), (2, .int x2), (3, .int x3)] → xG D cid b A sh d s H locs → W p l e (xRm 0 0 0) s m av below meth c H locs 0 0 (MQ below (xQ D cid b ex A none sh dz) av s 0 0 A) (F0 m 76 ls [.int y0]) := by
    intro rec48 hrec48 q0 x1 x2 x3 y0 d hf H locs ls hl G
    unfold k_X10_starts_76 at hf
    refine lv_istore (lv' := [(4, .int y0), (0, .ref (b + q0)), (1, .int x1), (2, .int x2), (3, .int x3)]) hx hb dX10_starts_76 hl (by decide) rfl (fun ls hl => ?_)
    refine lv_aload_n hx hb dX10_starts_78 rfl (lv_at hl 1 rfl) ?_
    obtain ⟨v16, hv16, hf⟩ := x_ob hf
    refine xr_getR (ci := 10) (k := 40) S G hv16 rfl kw_1208 dX10_starts_79 ?_
    refine lv_iload_n hx hb dX10_starts_82 rfl (lv_at hl 4 rfl) ?_
    refine lv_iconst (v := (0 : Int32)) hx hb dX10_starts_83 (by decide) ?_
    obtain ⟨d17, hd17, hf⟩ := x_ob hf
    refine xr_iast S G hd17 dX10_starts_84 (fun H locs G => ?_)
    refine lv_aload_n hx hb dX10_starts_85 rfl (lv_at hl 1 rfl) ?_
    obtain ⟨v18, hv18, hf⟩ := x_ob hf
    refine xr_getR (ci := 10) (k := 41) S G hv18 rfl kw_1209 dX10_starts_86 ?_
    refine lv_iload_n hx hb dX10_starts_89 rfl (lv_at hl 4 rfl) ?_
    refine lv_iload hx hb dX10_starts_90 (lv_at hl 0 rfl) ?_
    refine lv_if_eq (tgt := 104) hx hb dX10_starts_92 (by decide) (fun c => ?_) (fun c => ?_)
    · have hf := x_pos c hf
      refine lv_iconst (v := (0 : Int32)) hx hb dX10_starts_104 (by decide) ?_
      exact K105 _ hrec48 q0 x1 x2 x3 y0 v18 x3 (0 : Int32) d17 hf _ _ ls (lv_sub hl [1, 2, 3, 4, 0] rfl) G
    · have hf := x_neg c hf
      refine lv_aload_n hx hb dX10_starts_95 rfl (lv_at hl 1 rfl) ?_
      obtain ⟨v19, hv19, hf⟩ := x_ob hf
      refine xr_getR (ci := 10) (k := 8) S G hv19 rfl kw_1176 dX10_starts_96 ?_
      refine lv_iload_n hx hb dX10_starts_99 rfl (lv_at hl 3 rfl) ?_
      obtain ⟨v20, hv20, hf⟩ := x_ob hf
      refine xr_iald S G hv20 dX10_starts_100 ?_
      refine lv_goto (tgt := 105) hx hb dX10_starts_101 (by decide) ?_
      exact K105 _ hrec48 q0 x1 x2 x3 y0 v18 x3 v20 d17 hf _ _ ls (lv_sub hl [1, 2, 3, 4, 0] rfl) G
  have K48 : ∀ (n : Nat) (q0 : Nat) (x1 : Int32) (x2 : Int32) (d : xD), xloop (fun _ _ _ _ => none) (b_X10_starts_48 sh) n q0 x1 x2 d = some dz → ∀ (H : Heap) (locs : List Loc) (ls : Array Slot), lv_has ls 5 [(0, .ref (b + q0)), (1, .int x1), (2, .int x2)] → xG D cid b A sh d s H locs → W p l e (xRm 0 0 0) s m av below meth c H locs 0 0 (MQ below (xQ D cid b ex A none sh dz) av s 0 0 A) (F0 m 48 ls []) := by
    intro n
    induction n with
    | zero =>
      intro q0 x1 x2 d hf
      have hf : (none : Option xD) = some dz := hf
      cases hf
    | succ n hrec48 =>
      intro q0 x1 x2 d hf H locs ls hl G
      have hf : b_X10_starts_48 sh (xloop (fun _ _ _ _ => none) (b_X10_starts_48 sh) n) q0 x1 x2 d = some dz := hf
      unfold b_X10_starts_48 at hf
      refine lv_iload_n hx hb dX10_starts_48 rfl (lv_at hl 2 rfl) ?_
      refine lv_bipush (v := (6 : Int32)) hx hb dX10_starts_49 (by decide) ?_
      refine lv_icmp_ge (tgt := 161) hx hb dX10_starts_51 (by decide) (fun c => ?_) (fun c => ?_)
      · have hf := x_pos c hf
        exact K161 q0 x1 d hf _ _ ls (lv_sub hl [0, 1] rfl) G
      · have hf := x_neg c hf
        refine lv_bipush (v := (6 : Int32)) hx hb dX10_starts_54 (by decide) ?_
        refine lv_iload_n hx hb dX10_starts_56 rfl (lv_at hl 1 rfl) ?_
        refine lv_imul hx hb dX10_starts_57 ?_
        refine lv_iload_n hx hb dX10_starts_58 rfl (lv_at hl 2 rfl) ?_
        refine lv_iadd hx hb dX10_starts_59 ?_
        refine lv_istore_n (lv' := [(3, .int (((6 : Int32) * x1) + x2)), (0, .ref (b + q0)), (1, .int x1), (2, .int x2)]) hx hb dX10_starts_60 rfl hl (by decide) rfl (fun ls hl => ?_)
        refine lv_iload_n hx hb dX10_starts_61 rfl (lv_at hl 3 rfl) ?_
        refine lv_aload_n hx hb dX10_starts_62 rfl (lv_at hl 1 rfl) ?_
        obtain ⟨v21, hv21, hf⟩ := x_ob hf
        refine xr_getR (ci := 10) (k := 3) S G hv21 rfl kw_1171 dX10_starts_63 ?_
        refine lv_iconst (v := (2 : Int32)) hx hb dX10_starts_66 (by decide) ?_
        obtain ⟨v22, hv22, hf⟩ := x_ob hf
        refine xr_iald S G hv22 dX10_starts_67 ?_
        refine lv_icmp_ge (tgt := 75) hx hb dX10_starts_68 (by decide) (fun c => ?_) (fun c => ?_)
        · have hf := x_pos c hf
          refine lv_iconst (v := (0 : Int32)) hx hb dX10_starts_75 (by decide) ?_
          exact K76 _ hrec48 q0 x1 x2 (((6 : Int32) * x1) + x2) (0 : Int32) d hf _ _ ls (lv_sub hl [1, 2, 3, 0] rfl) G
        · have hf := x_neg c hf
          refine lv_iconst (v := (1 : Int32)) hx hb dX10_starts_71 (by decide) ?_
          refine lv_goto (tgt := 76) hx hb dX10_starts_72 (by decide) ?_
          exact K76 _ hrec48 q0 x1 x2 (((6 : Int32) * x1) + x2) (1 : Int32) d hf _ _ ls (lv_sub hl [1, 2, 3, 0] rfl) G
  unfold f_X10_starts at hf
  refine lv_aload_n hx hb dX10_starts_0 rfl (lv_at hl 0 rfl) ?_
  obtain ⟨v23, hv23, hf⟩ := x_ob hf
  refine xr_getR (ci := 10) (k := 35) S G hv23 rfl kw_1203 dX10_starts_1 ?_
  refine lv_iload_n hx hb dX10_starts_4 rfl (lv_at hl 1 rfl) ?_
  refine lv_iconst (v := (0 : Int32)) hx hb dX10_starts_5 (by decide) ?_
  obtain ⟨d24, hd24, hf⟩ := x_ob hf
  refine xr_iast S G hd24 dX10_starts_6 (fun H locs G => ?_)
  refine lv_aload_n hx hb dX10_starts_7 rfl (lv_at hl 0 rfl) ?_
  obtain ⟨v25, hv25, hf⟩ := x_ob hf
  refine xr_getR (ci := 10) (k := 36) S G hv25 rfl kw_1204 dX10_starts_8 ?_
  refine lv_iload_n hx hb dX10_starts_11 rfl (lv_at hl 1 rfl) ?_
  refine lv_aload_n hx hb dX10_starts_12 rfl (lv_at hl 0 rfl) ?_
  obtain ⟨v26, hv26, hf⟩ := x_ob hf
  refine xr_getR (ci := 10) (k := 3) S G hv26 rfl kw_1171 dX10_starts_13 ?_
  refine lv_bipush (v := (6 : Int32)) hx hb dX10_starts_16 (by decide) ?_
  obtain ⟨v27, hv27, hf⟩ := x_ob hf
  refine xr_iald S G hv27 dX10_starts_18 ?_
  obtain ⟨d28, hd28, hf⟩ := x_ob hf
  refine xr_iast S G hd28 dX10_starts_19 (fun H locs G => ?_)
  refine lv_aload_n hx hb dX10_starts_20 rfl (lv_at hl 0 rfl) ?_
  obtain ⟨v29, hv29, hf⟩ := x_ob hf
  refine xr_getR (ci := 10) (k := 37) S G hv29 rfl kw_1205 dX10_starts_21 ?_
  refine lv_iload_n hx hb dX10_starts_24 rfl (lv_at hl 1 rfl) ?_
  refine lv_iconst (v := (0 : Int32)) hx hb dX10_starts_25 (by decide) ?_
  obtain ⟨d30, hd30, hf⟩ := x_ob hf
  refine xr_iast S G hd30 dX10_starts_26 (fun H locs G => ?_)
  refine lv_aload_n hx hb dX10_starts_27 rfl (lv_at hl 0 rfl) ?_
  obtain ⟨v31, hv31, hf⟩ := x_ob hf
  refine xr_getR (ci := 10) (k := 38) S G hv31 rfl kw_1206 dX10_starts_28 ?_
  refine lv_iload_n hx hb dX10_starts_31 rfl (lv_at hl 1 rfl) ?_
  refine lv_aload_n hx hb dX10_starts_32 rfl (lv_at hl 0 rfl) ?_
  obtain ⟨v32, hv32, hf⟩ := x_ob hf
  refine xr_getR (ci := 10) (k := 3) S G hv32 rfl kw_1171 dX10_starts_33 ?_
  refine lv_iconst (v := (4 : Int32)) hx hb dX10_starts_36 (by decide) ?_
  obtain ⟨v33, hv33, hf⟩ := x_ob hf
  refine xr_iald S G hv33 dX10_starts_37 ?_
  obtain ⟨d34, hd34, hf⟩ := x_ob hf
  refine xr_iast S G hd34 dX10_starts_38 (fun H locs G => ?_)
  refine lv_aload_n hx hb dX10_starts_39 rfl (lv_at hl 0 rfl) ?_
  obtain ⟨v35, hv35, hf⟩ := x_ob hf
  refine xr_getR (ci := 10) (k := 39) S G hv35 rfl kw_1207 dX10_starts_40 ?_
  refine lv_iload_n hx hb dX10_starts_43 rfl (lv_at hl 1 rfl) ?_
  refine lv_iconst (v := (0 : Int32)) hx hb dX10_starts_44 (by decide) ?_
  obtain ⟨d36, hd36, hf⟩ := x_ob hf
  refine xr_iast S G hd36 dX10_starts_45 (fun H locs G => ?_)
  refine lv_iconst (v := (0 : Int32)) hx hb dX10_starts_46 (by decide) ?_
  refine lv_istore_n (lv' := [(2, .int (0 : Int32)), (0, .ref (b + q0)), (1, .int x1)]) hx hb dX10_starts_47 rfl hl (by decide) rfl (fun ls hl => ?_)
  exact K48 xF q0 x1 (0 : Int32) d36 hf _ _ ls (lv_sub hl [1, 2, 0] rfl) G
-- HalfLandingsModel.begins()V
theorem dX10_begins_0 : decode cX10_begins 0 = .ok (.aload_n 0, 1) := by decide +kernel
theorem dX10_begins_1 : decode cX10_begins 1 = .ok (.iconst 0, 1) := by decide +kernel
theorem dX10_begins_2 : decode cX10_begins 2 = .ok (.invokevirtual 325, 3) := by decide +kernel
theorem dX10_begins_5 : decode cX10_begins 5 = .ok (.return_, 1) := by decide +kernel
theorem hd_X10_begins : yX10_begins.cls = xCn 10 ∧ yX10_begins.cls ≠ "java/lang/invoke/MethodHandle" ∧ yX10_begins.cls ≠ "java/lang/invoke/VarHandle" ∧ (parseMethodDescriptor yX10_begins.desc).map (fun d => d.parameters.length) = some 0 := by decide +kernel
def f_X10_begins (sh : List xSh) (q0 : Nat) (d : xD) : Option xD :=
  (xon 10 sh q0 (f_X10_starts sh q0 (0 : Int32) d)).bind fun d1 => some d1
set_option maxHeartbeats 4000000 in
set_option maxRecDepth 100000 in
theorem mt_X10_begins (l : Launch) (D : va_G) (cid : FieldType → ClassId) (b : Nat) (ex : Bool) (sa sv B0 : Nat) (sh : List xSh) (q0 : Nat) (d : xD) (dz : xD) (hf : f_X10_begins sh q0 d = some dz) : xMet l yX10_begins cX10_begins 1 none 1 0 0 D cid b ex sa sv B0 [.ref (b + q0)] sh d none sh dz := by
  refine xMet.of (by decide) (Nat.le_of_ble_eq_true rfl) ?_
  intro p e s m below meth c ls A S hr hin G hl
  have hl : lv_has ls 1 [(0, .ref (b + q0))] := hl
  generalize ([.ref (b + q0)] : List Value).toArray = av at S ⊢
  have hx := S.1
  have hb := S.2.1
  have hml := S.2.2.1
  have hown := S.2.2.2.1
  have hts := S.2.2.2.2.1
  unfold f_X10_begins at hf
  refine lv_aload_n hx hb dX10_begins_0 rfl (lv_at hl 0 rfl) ?_
  refine lv_iconst (v := (0 : Int32)) hx hb dX10_begins_1 (by decide) ?_
  obtain ⟨d1, hd1, hf⟩ := x_ob hf
  obtain ⟨hqd1, hd1⟩ := xon_of hd1
  refine xr_callV (ci := 10) (As := [.int (0 : Int32)]) (rest := []) (st1 := []) S G hl.1 (fun _ => rfl) (mt_X10_starts l D cid b ex sa sv B0 sh q0 (0 : Int32) d _ hd1) hqd1 (by decide) kw_1164 kw_1166 ks_36 kw_17 kw_1167 hd_X10_starts ⟨Nat.le_of_ble_eq_true rfl, Nat.le_of_ble_eq_true rfl⟩ rfl rfl rfl (Nat.le_of_ble_eq_true rfl) ⟨Nat.le_of_ble_eq_true rfl, Nat.le_of_ble_eq_true rfl⟩ dX10_begins_2 (fun H locs G => ?_)
  cases hf
  exact xr_vret S G (fun _ => rfl) hr dX10_begins_5

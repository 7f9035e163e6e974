-- HalfLandings$Tokens.isDigit(I)Z
theorem dX7_isDigit_0 : decode cX7_isDigit 0 = .ok (.iload_n 0, 1) := by decide +kernel
theorem dX7_isDigit_1 : decode cX7_isDigit 1 = .ok (.bipush 48, 2) := by decide +kernel
theorem dX7_isDigit_3 : decode cX7_isDigit 3 = .ok (.if_icmp .lt 13, 3) := by decide +kernel
theorem dX7_isDigit_6 : decode cX7_isDigit 6 = .ok (.iload_n 0, 1) := by decide +kernel
theorem dX7_isDigit_7 : decode cX7_isDigit 7 = .ok (.bipush 57, 2) := by decide +kernel
theorem dX7_isDigit_9 : decode cX7_isDigit 9 = .ok (.if_icmp .gt 7, 3) := by decide +kernel
theorem dX7_isDigit_12 : decode cX7_isDigit 12 = .ok (.iconst 1, 1) := by decide +kernel
theorem dX7_isDigit_13 : decode cX7_isDigit 13 = .ok (.goto 4, 3) := by decide +kernel
theorem dX7_isDigit_16 : decode cX7_isDigit 16 = .ok (.iconst 0, 1) := by decide +kernel
theorem dX7_isDigit_17 : decode cX7_isDigit 17 = .ok (.ireturn, 1) := by decide +kernel
theorem hd_X7_isDigit : yX7_isDigit.cls ≠ "java/lang/invoke/MethodHandle" ∧ yX7_isDigit.cls ≠ "java/lang/invoke/VarHandle" ∧ (parseMethodDescriptor yX7_isDigit.desc).map (fun d => d.parameters.length) = some 1 := by decide +kernel
def k_X7_isDigit_17 (sh : List xSh) (y0 : Int32) (d : xD) : Option (Int32 × xD) :=
  (xz y0).bind fun v1 => some (v1, d)
def k_X7_isDigit_16 (sh : List xSh) (d : xD) : Option (Int32 × xD) :=
  k_X7_isDigit_17 sh (0 : Int32) d
def f_X7_isDigit (sh : List xSh) (x0 : Int32) (d : xD) : Option (Int32 × xD) :=
  if x0 < (48 : Int32) then (k_X7_isDigit_16 sh d) else (if (57 : Int32) < x0 then (k_X7_isDigit_16 sh d) else (k_X7_isDigit_17 sh (1 : Int32) d))
set_option maxHeartbeats 4000000 in
set_option maxRecDepth 100000 in
theorem mt_X7_isDigit (l : Launch) (D : va_G) (cid : FieldType → ClassId) (b : Nat) (ex : Bool) (sa sv B0 : Nat) (sh : List xSh) (x0 : Int32) (d : xD) (r : Int32) (dz : xD) (hf : f_X7_isDigit sh x0 d = some (r, dz)) : xMet l yX7_isDigit cX7_isDigit 1 (some .boolean) 0 0 0 D cid b ex sa sv B0 [.int x0] sh d (some (.int r)) sh dz := by
  refine xMet.of (by decide) (Nat.le_of_ble_eq_true rfl) ?_
  intro p e s m below meth c ls A S hr hin G hl
  have hl : lv_has ls 1 [(0, .int x0)] := hl
  generalize ([.int x0] : List Value).toArray = av at S ⊢
  have hx := S.1
  have hb := S.2.1
  have hml := S.2.2.1
  have hown := S.2.2.2.1
  have hts := S.2.2.2.2.1
  have K17 : ∀ (y0 : Int32) (d : xD), k_X7_isDigit_17 sh y0 d = some (r, dz) → ∀ (H : Heap) (locs : List Loc) (ls : Array Slot), lv_has ls 1 [] → xG D cid b A sh d s H locs → W p l e (xRm 0 0 0) s m av below meth c H locs 0 0 (MQ below (xQ D cid b ex A (some (.int r)) sh dz) av s 0 0 A) (F0 m 17 ls [.int y0]) := by
    intro y0 d hf H locs ls hl G
    unfold k_X7_isDigit_17 at hf
    obtain ⟨v1, hv1, hf⟩ := x_ob hf
    cases hf
    exact xr_zret S G (fun _ => rfl) hr hv1 dX7_isDigit_17
  have K16 : ∀ (d : xD), k_X7_isDigit_16 sh d = some (r, dz) → ∀ (H : Heap) (locs : List Loc) (ls : Array Slot), lv_has ls 1 [] → xG D cid b A sh d s H locs → W p l e (xRm 0 0 0) s m av below meth c H locs 0 0 (MQ below (xQ D cid b ex A (some (.int r)) sh dz) av s 0 0 A) (F0 m 16 ls []) := by
    intro d hf H locs ls hl G
    unfold k_X7_isDigit_16 at hf
    refine lv_iconst (v := (0 : Int32)) hx hb dX7_isDigit_16 (by decide) ?_
    exact K17 (0 : Int32) d hf _ _ ls (lv_sub hl [] rfl) G
  unfold f_X7_isDigit at hf
  refine lv_iload_n hx hb dX7_isDigit_0 rfl (lv_at hl 0 rfl) ?_
  refine lv_bipush (v := (48 : Int32)) hx hb dX7_isDigit_1 (by decide) ?_
  refine lv_icmp_lt (tgt := 16) hx hb dX7_isDigit_3 (by decide) (fun c => ?_) (fun c => ?_)
  · have hf := x_pos c hf
    exact K16 d hf _ _ ls (lv_sub hl [] rfl) G
  · have hf := x_neg c hf
    refine lv_iload_n hx hb dX7_isDigit_6 rfl (lv_at hl 0 rfl) ?_
    refine lv_bipush (v := (57 : Int32)) hx hb dX7_isDigit_7 (by decide) ?_
    refine lv_icmp_gt (tgt := 16) hx hb dX7_isDigit_9 (by decide) (fun c => ?_) (fun c => ?_)
    · have hf := x_pos c hf
      exact K16 d hf _ _ ls (lv_sub hl [] rfl) G
    · have hf := x_neg c hf
      refine lv_iconst (v := (1 : Int32)) hx hb dX7_isDigit_12 (by decide) ?_
      refine lv_goto (tgt := 17) hx hb dX7_isDigit_13 (by decide) ?_
      exact K17 (1 : Int32) d hf _ _ ls (lv_sub hl [] rfl) G
-- HalfLandings$Tokens.readNumber()V
theorem dX7_readNumber_0 : decode cX7_readNumber 0 = .ok (.aload_n 0, 1) := by decide +kernel
theorem dX7_readNumber_1 : decode cX7_readNumber 1 = .ok (.getfield 34, 3) := by decide +kernel
theorem dX7_readNumber_4 : decode cX7_readNumber 4 = .ok (.aload_n 0, 1) := by decide +kernel
theorem dX7_readNumber_5 : decode cX7_readNumber 5 = .ok (.getfield 31, 3) := by decide +kernel
theorem dX7_readNumber_8 : decode cX7_readNumber 8 = .ok (.if_icmp .ge 60, 3) := by decide +kernel
theorem dX7_readNumber_11 : decode cX7_readNumber 11 = .ok (.aload_n 0, 1) := by decide +kernel
theorem dX7_readNumber_12 : decode cX7_readNumber 12 = .ok (.getfield 37, 3) := by decide +kernel
theorem dX7_readNumber_15 : decode cX7_readNumber 15 = .ok (.aload_n 0, 1) := by decide +kernel
theorem dX7_readNumber_16 : decode cX7_readNumber 16 = .ok (.getfield 34, 3) := by decide +kernel
theorem dX7_readNumber_19 : decode cX7_readNumber 19 = .ok (.baload, 1) := by decide +kernel
theorem dX7_readNumber_20 : decode cX7_readNumber 20 = .ok (.invokestatic 71, 3) := by decide +kernel
theorem dX7_readNumber_23 : decode cX7_readNumber 23 = .ok (.ifCond .eq 45, 3) := by decide +kernel
theorem dX7_readNumber_26 : decode cX7_readNumber 26 = .ok (.aload_n 0, 1) := by decide +kernel
theorem dX7_readNumber_27 : decode cX7_readNumber 27 = .ok (.aload_n 0, 1) := by decide +kernel
theorem dX7_readNumber_28 : decode cX7_readNumber 28 = .ok (.getfield 18, 3) := by decide +kernel
theorem dX7_readNumber_31 : decode cX7_readNumber 31 = .ok (.bipush 10, 2) := by decide +kernel
theorem dX7_readNumber_33 : decode cX7_readNumber 33 = .ok (.imul, 1) := by decide +kernel
theorem dX7_readNumber_34 : decode cX7_readNumber 34 = .ok (.aload_n 0, 1) := by decide +kernel
theorem dX7_readNumber_35 : decode cX7_readNumber 35 = .ok (.getfield 37, 3) := by decide +kernel
theorem dX7_readNumber_38 : decode cX7_readNumber 38 = .ok (.aload_n 0, 1) := by decide +kernel
theorem dX7_readNumber_39 : decode cX7_readNumber 39 = .ok (.getfield 34, 3) := by decide +kernel
theorem dX7_readNumber_42 : decode cX7_readNumber 42 = .ok (.baload, 1) := by decide +kernel
theorem dX7_readNumber_43 : decode cX7_readNumber 43 = .ok (.iadd, 1) := by decide +kernel
theorem dX7_readNumber_44 : decode cX7_readNumber 44 = .ok (.bipush 48, 2) := by decide +kernel
theorem dX7_readNumber_46 : decode cX7_readNumber 46 = .ok (.isub, 1) := by decide +kernel
theorem dX7_readNumber_47 : decode cX7_readNumber 47 = .ok (.ldc 83, 2) := by decide +kernel
theorem dX7_readNumber_49 : decode cX7_readNumber 49 = .ok (.invokestatic 56, 3) := by decide +kernel
theorem dX7_readNumber_52 : decode cX7_readNumber 52 = .ok (.putfield 18, 3) := by decide +kernel
theorem dX7_readNumber_55 : decode cX7_readNumber 55 = .ok (.aload_n 0, 1) := by decide +kernel
theorem dX7_readNumber_56 : decode cX7_readNumber 56 = .ok (.dup, 1) := by decide +kernel
theorem dX7_readNumber_57 : decode cX7_readNumber 57 = .ok (.getfield 34, 3) := by decide +kernel
theorem dX7_readNumber_60 : decode cX7_readNumber 60 = .ok (.iconst 1, 1) := by decide +kernel
theorem dX7_readNumber_61 : decode cX7_readNumber 61 = .ok (.iadd, 1) := by decide +kernel
theorem dX7_readNumber_62 : decode cX7_readNumber 62 = .ok (.putfield 34, 3) := by decide +kernel
theorem dX7_readNumber_65 : decode cX7_readNumber 65 = .ok (.goto (-65), 3) := by decide +kernel
theorem dX7_readNumber_68 : decode cX7_readNumber 68 = .ok (.aload_n 0, 1) := by decide +kernel
theorem dX7_readNumber_69 : decode cX7_readNumber 69 = .ok (.bipush 22, 2) := by decide +kernel
theorem dX7_readNumber_71 : decode cX7_readNumber 71 = .ok (.putfield 11, 3) := by decide +kernel
theorem dX7_readNumber_74 : decode cX7_readNumber 74 = .ok (.return_, 1) := by decide +kernel
theorem hd_X7_readNumber : yX7_readNumber.cls = xCn 7 ∧ yX7_readNumber.cls ≠ "java/lang/invoke/MethodHandle" ∧ yX7_readNumber.cls ≠ "java/lang/invoke/VarHandle" ∧ (parseMethodDescriptor yX7_readNumber.desc).map (fun d => d.parameters.length) = some 0 := by decide +kernel
def k_X7_readNumber_68 (sh : List xSh) (q0 : Nat) (d : xD) : Option xD :=
  (xpI 7 sh d q0 0 (22 : Int32)).bind fun d1 => some d1
def b_X7_readNumber_0 (sh : List xSh) (rec0 : Nat → xD → Option xD) (q0 : Nat) (d : xD) : Option xD :=
  (xgI 7 sh d q0 8).bind fun v2 => (xgI 7 sh d q0 7).bind fun v3 => if v3 ≤ v2 then (k_X7_readNumber_68 sh q0 d) else ((xgR 7 sh d q0 5).bind fun v4 => (xgI 7 sh d q0 8).bind fun v5 => (xaI .byte sh d v4 v5).bind fun v6 => (f_X7_isDigit sh v6 d).bind fun z7 => if z7.1 = 0 then (k_X7_readNumber_68 sh q0 z7.2) else ((xgI 7 sh z7.2 q0 2).bind fun v8 => (xgR 7 sh z7.2 q0 5).bind fun v9 => (xgI 7 sh z7.2 q0 8).bind fun v10 => (xaI .byte sh z7.2 v9 v10).bind fun v11 => (xpI 7 sh z7.2 q0 2 (if (100000 : Int32) < (((v8 * (10 : Int32)) + v11) - (48 : Int32)) then (100000 : Int32) else (((v8 * (10 : Int32)) + v11) - (48 : Int32)))).bind fun d12 => (xgI 7 sh d12 q0 8).bind fun v13 => (xpI 7 sh d12 q0 8 (v13 + (1 : Int32))).bind fun d14 => rec0 q0 d14))
def f_X7_readNumber (sh : List xSh) (q0 : Nat) (d : xD) : Option xD :=
  xloop (fun _ _ => none) (b_X7_readNumber_0 sh) xF q0 d
set_option maxHeartbeats 4000000 in
set_option maxRecDepth 100000 in
theorem mt_X7_readNumber (l : Launch) (D : va_G) (cid : FieldType → ClassId) (b : Nat) (ex : Bool) (sa sv B0 : Nat) (sh : List xSh) (q0 : Nat) (d : xD) (dz : xD) (hf : f_X7_readNumber sh q0 d = some dz) : xMet l yX7_readNumber cX7_readNumber 1 none 1 0 0 D cid b ex sa sv B0 [.ref (b + q0)] sh d none sh dz := by
  refine xMet.of (by decide) (Nat.le_of_ble_eq_true rfl) ?_
  intro p e s m below meth c ls A S hr hin G hl
  have hl : lv_has ls 1 [(0, .ref (b + q0))] := hl
  generalize ([.ref (b + q0)] : List Value).toArray = av at S ⊢
  have hx := S.1
  have hb := S.2.1
  have hml := S.2.2.1
  have hown := S.2.2.2.1
  have hts := S.2.2.2.2.1
  have K68 : ∀ (q0 : Nat) (d : xD), k_X7_readNumber_68 sh q0 d = some dz → ∀ (H : Heap) (locs : List Loc) (ls : Array Slot), lv_has ls 1 [(0, .ref (b + q0))] → xG D cid b A sh d s H locs → W p l e (xRm 1 0 0) s m av below meth c H locs 0 0 (MQ below (xQ D cid b ex A none sh dz) av s 0 0 A) (F0 m 68 ls []) := by
    intro q0 d hf H locs ls hl G
    unfold k_X7_readNumber_68 at hf
    refine lv_aload_n hx hb dX7_readNumber_68 rfl (lv_at hl 0 rfl) ?_
    refine lv_bipush (v := (22 : Int32)) hx hb dX7_readNumber_69 (by decide) ?_
    obtain ⟨d1, hd1, hf⟩ := x_ob hf
    refine xr_putI (ci := 7) (k := 0) S G hd1 rfl kw_229 dX7_readNumber_71 (fun H locs G => ?_)
    cases hf
    exact xr_vret S G (fun _ => rfl) hr dX7_readNumber_74
  have K0 : ∀ (n : Nat) (q0 : Nat) (d : xD), xloop (fun _ _ => none) (b_X7_readNumber_0 sh) n q0 d = some dz → ∀ (H : Heap) (locs : List Loc) (ls : Array Slot), lv_has ls 1 [(0, .ref (b + q0))] → xG D cid b A sh d s H locs → W p l e (xRm 1 0 0) s m av below meth c H locs 0 0 (MQ below (xQ D cid b ex A none sh dz) av s 0 0 A) (F0 m 0 ls []) := by
    intro n
    induction n with
    | zero =>
      intro q0 d hf
      have hf : (none : Option xD) = some dz := hf
      cases hf
    | succ n hrec0 =>
      intro q0 d hf H locs ls hl G
      have hf : b_X7_readNumber_0 sh (xloop (fun _ _ => none) (b_X7_readNumber_0 sh) n) q0 d = some dz := hf
      unfold b_X7_readNumber_0 at hf
      refine lv_aload_n hx hb dX7_readNumber_0 rfl (lv_at hl 0 rfl) ?_
      obtain ⟨v2, hv2, hf⟩ := x_ob hf
      refine xr_getI (ci := 7) (k := 8) S G hv2 rfl kw_243 dX7_readNumber_1 ?_
      refine lv_aload_n hx hb dX7_readNumber_4 rfl (lv_at hl 0 rfl) ?_
      obtain ⟨v3, hv3, hf⟩ := x_ob hf
      refine xr_getI (ci := 7) (k := 7) S G hv3 rfl kw_242 dX7_readNumber_5 ?_
      refine lv_icmp_ge (tgt := 68) hx hb dX7_readNumber_8 (by decide) (fun c => ?_) (fun c => ?_)
      · have hf := x_pos c hf
        exact K68 q0 d hf _ _ ls (lv_sub hl [0] rfl) G
      · have hf := x_neg c hf
        refine lv_aload_n hx hb dX7_readNumber_11 rfl (lv_at hl 0 rfl) ?_
        obtain ⟨v4, hv4, hf⟩ := x_ob hf
        refine xr_getR (ci := 7) (k := 5) S G hv4 rfl kw_240 dX7_readNumber_12 ?_
        refine lv_aload_n hx hb dX7_readNumber_15 rfl (lv_at hl 0 rfl) ?_
        obtain ⟨v5, hv5, hf⟩ := x_ob hf
        refine xr_getI (ci := 7) (k := 8) S G hv5 rfl kw_243 dX7_readNumber_16 ?_
        obtain ⟨v6, hv6, hf⟩ := x_ob hf
        refine xr_bald S G hv6 dX7_readNumber_19 ?_
        obtain ⟨z7, hz7, hf⟩ := x_ob hf
        refine xr_callS (As := [.int v6]) (rest := []) (st1 := [.int z7.1]) S G hl.1 (fun _ => rfl) (mt_X7_isDigit l D cid b ex sa sv B0 sh v6 d _ _ hz7) kw_573 kw_574 kw_5 kw_575 hd_X7_isDigit ⟨Nat.le_of_ble_eq_true rfl, Nat.le_of_ble_eq_true rfl⟩ rfl rfl rfl (Nat.le_of_ble_eq_true rfl) ⟨Nat.le_of_ble_eq_true rfl, Nat.le_of_ble_eq_true rfl⟩ dX7_readNumber_20 (fun H locs G => ?_)
        refine lv_if_eq (tgt := 68) hx hb dX7_readNumber_23 (by decide) (fun c => ?_) (fun c => ?_)
        · have hf := x_pos c hf
          exact K68 q0 z7.2 hf _ _ ls (lv_sub hl [0] rfl) G
        · have hf := x_neg c hf
          refine lv_aload_n hx hb dX7_readNumber_26 rfl (lv_at hl 0 rfl) ?_
          refine lv_aload_n hx hb dX7_readNumber_27 rfl (lv_at hl 0 rfl) ?_
          obtain ⟨v8, hv8, hf⟩ := x_ob hf
          refine xr_getI (ci := 7) (k := 2) S G hv8 rfl kw_233 dX7_readNumber_28 ?_
          refine lv_bipush (v := (10 : Int32)) hx hb dX7_readNumber_31 (by decide) ?_
          refine lv_imul hx hb dX7_readNumber_33 ?_
          refine lv_aload_n hx hb dX7_readNumber_34 rfl (lv_at hl 0 rfl) ?_
          obtain ⟨v9, hv9, hf⟩ := x_ob hf
          refine xr_getR (ci := 7) (k := 5) S G hv9 rfl kw_240 dX7_readNumber_35 ?_
          refine lv_aload_n hx hb dX7_readNumber_38 rfl (lv_at hl 0 rfl) ?_
          obtain ⟨v10, hv10, hf⟩ := x_ob hf
          refine xr_getI (ci := 7) (k := 8) S G hv10 rfl kw_243 dX7_readNumber_39 ?_
          obtain ⟨v11, hv11, hf⟩ := x_ob hf
          refine xr_bald S G hv11 dX7_readNumber_42 ?_
          refine lv_iadd hx hb dX7_readNumber_43 ?_
          refine lv_bipush (v := (48 : Int32)) hx hb dX7_readNumber_44 (by decide) ?_
          refine lv_isub hx hb dX7_readNumber_46 ?_
          refine lv_ldc (v := (100000 : Int32)) hx hb hown (hts _ kw_580) dX7_readNumber_47 ?_
          refine va_mmin hx hb (hml.trans hl.1.symm) hown (hts _ kw_555) (hts _ kw_556) (hts _ kw_18) (hts _ kp_mmin) (Nat.le_of_ble_eq_true rfl) (Nat.le_of_ble_eq_true rfl) (Nat.le_refl _) (Nat.le_refl _) dX7_readNumber_49 ?_
          obtain ⟨d12, hd12, hf⟩ := x_ob hf
          refine xr_putI (ci := 7) (k := 2) S G hd12 rfl kw_233 dX7_readNumber_52 (fun H locs G => ?_)
          refine lv_aload_n hx hb dX7_readNumber_55 rfl (lv_at hl 0 rfl) ?_
          refine lv_dup hx hb dX7_readNumber_56 rfl ?_
          obtain ⟨v13, hv13, hf⟩ := x_ob hf
          refine xr_getI (ci := 7) (k := 8) S G hv13 rfl kw_243 dX7_readNumber_57 ?_
          refine lv_iconst (v := (1 : Int32)) hx hb dX7_readNumber_60 (by decide) ?_
          refine lv_iadd hx hb dX7_readNumber_61 ?_
          obtain ⟨d14, hd14, hf⟩ := x_ob hf
          refine xr_putI (ci := 7) (k := 8) S G hd14 rfl kw_243 dX7_readNumber_62 (fun H locs G => ?_)
          refine lv_goto (tgt := 0) hx hb dX7_readNumber_65 (by decide) ?_
          exact hrec0 q0 d14 hf _ _ ls (lv_sub hl [0] rfl) G
  unfold f_X7_readNumber at hf
  exact K0 xF q0 d hf _ _ ls (lv_sub hl [0] rfl) G
-- HalfLandings$Tokens.takes(I)Z
theorem dX7_takes_0 : decode cX7_takes 0 = .ok (.aload_n 0, 1) := by decide +kernel
theorem dX7_takes_1 : decode cX7_takes 1 = .ok (.getfield 34, 3) := by decide +kernel
theorem dX7_takes_4 : decode cX7_takes 4 = .ok (.aload_n 0, 1) := by decide +kernel
theorem dX7_takes_5 : decode cX7_takes 5 = .ok (.getfield 31, 3) := by decide +kernel
theorem dX7_takes_8 : decode cX7_takes 8 = .ok (.if_icmp .ge 20, 3) := by decide +kernel
theorem dX7_takes_11 : decode cX7_takes 11 = .ok (.aload_n 0, 1) := by decide +kernel
theorem dX7_takes_12 : decode cX7_takes 12 = .ok (.getfield 37, 3) := by decide +kernel
theorem dX7_takes_15 : decode cX7_takes 15 = .ok (.aload_n 0, 1) := by decide +kernel
theorem dX7_takes_16 : decode cX7_takes 16 = .ok (.getfield 34, 3) := by decide +kernel
theorem dX7_takes_19 : decode cX7_takes 19 = .ok (.baload, 1) := by decide +kernel
theorem dX7_takes_20 : decode cX7_takes 20 = .ok (.iload_n 1, 1) := by decide +kernel
theorem dX7_takes_21 : decode cX7_takes 21 = .ok (.if_icmp .ne 7, 3) := by decide +kernel
theorem dX7_takes_24 : decode cX7_takes 24 = .ok (.iconst 1, 1) := by decide +kernel
theorem dX7_takes_25 : decode cX7_takes 25 = .ok (.goto 4, 3) := by decide +kernel
theorem dX7_takes_28 : decode cX7_takes 28 = .ok (.iconst 0, 1) := by decide +kernel
theorem dX7_takes_29 : decode cX7_takes 29 = .ok (.istore_n 2, 1) := by decide +kernel
theorem dX7_takes_30 : decode cX7_takes 30 = .ok (.iload_n 2, 1) := by decide +kernel
theorem dX7_takes_31 : decode cX7_takes 31 = .ok (.ifCond .eq 13, 3) := by decide +kernel
theorem dX7_takes_34 : decode cX7_takes 34 = .ok (.aload_n 0, 1) := by decide +kernel
theorem dX7_takes_35 : decode cX7_takes 35 = .ok (.dup, 1) := by decide +kernel
theorem dX7_takes_36 : decode cX7_takes 36 = .ok (.getfield 34, 3) := by decide +kernel
theorem dX7_takes_39 : decode cX7_takes 39 = .ok (.iconst 1, 1) := by decide +kernel
theorem dX7_takes_40 : decode cX7_takes 40 = .ok (.iadd, 1) := by decide +kernel
theorem dX7_takes_41 : decode cX7_takes 41 = .ok (.putfield 34, 3) := by decide +kernel
theorem dX7_takes_44 : decode cX7_takes 44 = .ok (.iload_n 2, 1) := by decide +kernel
theorem dX7_takes_45 : decode cX7_takes 45 = .ok (.ireturn, 1) := by decide +kernel
theorem hd_X7_takes : yX7_takes.cls = xCn 7 ∧ yX7_takes.cls ≠ "java/lang/invoke/MethodHandle" ∧ yX7_takes.cls ≠ "java/lang/invoke/VarHandle" ∧ (parseMethodDescriptor yX7_takes.desc).map (fun d => d.parameters.length) = some 1 := by decide +kernel
def k_X7_takes_44 (sh : List xSh) (x2 : Int32) (d : xD) : Option (Int32 × xD) :=
  (xz x2).bind fun v1 => some (v1, d)
def k_X7_takes_29 (sh : List xSh) (q0 : Nat) (y0 : Int32) (d : xD) : Option (Int32 × xD) :=
  if y0 = 0 then (k_X7_takes_44 sh y0 d) else ((xgI 7 sh d q0 8).bind fun v2 => (xpI 7 sh d q0 8 (v2 + (1 : Int32))).bind fun d3 => k_X7_takes_44 sh y0 d3)
def k_X7_takes_28 (sh : List xSh) (q0 : Nat) (d : xD) : Option (Int32 × xD) :=
  k_X7_takes_29 sh q0 (0 : Int32) d
def f_X7_takes (sh : List xSh) (q0 : Nat) (x1 : Int32) (d : xD) : Option (Int32 × xD) :=
  (xgI 7 sh d q0 8).bind fun v4 => (xgI 7 sh d q0 7).bind fun v5 => if v5 ≤ v4 then (k_X7_takes_28 sh q0 d) else ((xgR 7 sh d q0 5).bind fun v6 => (xgI 7 sh d q0 8).bind fun v7 => (xaI .byte sh d v6 v7).bind fun v8 => if v8 = x1 then (k_X7_takes_29 sh q0 (1 : Int32) d) else (k_X7_takes_28 sh q0 d))
set_option maxHeartbeats 4000000 in
set_option maxRecDepth 100000 in
theorem mt_X7_takes (l : Launch) (D : va_G) (cid : FieldType → ClassId) (b : Nat) (ex : Bool) (sa sv B0 : Nat) (sh : List xSh) (q0 : Nat) (x1 : Int32) (d : xD) (r : Int32) (dz : xD) (hf : f_X7_takes sh q0 x1 d = some (r, dz)) : xMet l yX7_takes cX7_takes 3 (some .boolean) 0 0 0 D cid b ex sa sv B0 [.ref (b + q0), .int x1] sh d (some (.int r)) sh dz := by
  refine xMet.of (by decide) (Nat.le_of_ble_eq_true rfl) ?_
  intro p e s m below meth c ls A S hr hin G hl
  have hl : lv_has ls 3 [(0, .ref (b + q0)), (1, .int x1)] := hl
  generalize ([.ref (b + q0), .int x1] : List Value).toArray = av at S ⊢
  have hx := S.1
  have hb := S.2.1
  have hml := S.2.2.1
  have hown := S.2.2.2.1
  have hts := S.2.2.2.2.1
  have K44 : ∀ (x2 : Int32) (d : xD), k_X7_takes_44 sh x2 d = some (r, dz) → ∀ (H : Heap) (locs : List Loc) (ls : Array Slot), lv_has ls 3 [(2, .int x2)] → xG D cid b A sh d s H locs → W p l e (xRm 0 0 0) s m av below meth c H locs 0 0 (MQ below (xQ D cid b ex A (some (.int r)) sh dz) av s 0 0 A) (F0 m 44 ls []) := by
    intro x2 d hf H locs ls hl G
    unfold k_X7_takes_44 at hf
    refine lv_iload_n hx hb dX7_takes_44 rfl (lv_at hl 0 rfl) ?_
    obtain ⟨v1, hv1, hf⟩ := x_ob hf
    cases hf
    exact xr_zret S G (fun _ => rfl) hr hv1 dX7_takes_45
  have K29 : ∀ (q0 : Nat) (y0 : Int32) (d : xD), k_X7_takes_29 sh q0 y0 d = some (r, dz) → ∀ (H : Heap) (locs : List Loc) (ls : Array Slot), lv_has ls 3 [(0, .ref (b + q0))] → xG D cid b A sh d s H locs → W p l e (xRm 0 0 0) s m av below meth c H locs 0 0 (MQ below (xQ D cid b ex A (some (.int r)) sh dz) av s 0 0 A) (F0 m 29 ls [.int y0]) := by
    intro q0 y0 d hf H locs ls hl G
    unfold k_X7_takes_29 at hf
    refine lv_istore_n (lv' := [(2, .int y0), (0, .ref (b + q0))]) hx hb dX7_takes_29 rfl hl (by decide) rfl (fun ls hl => ?_)
    refine lv_iload_n hx hb dX7_takes_30 rfl (lv_at hl 0 rfl) ?_
    refine lv_if_eq (tgt := 44) hx hb dX7_takes_31 (by decide) (fun c => ?_) (fun c => ?_)
    · have hf := x_pos c hf
      exact K44 y0 d hf _ _ ls (lv_sub hl [0] rfl) G
    · have hf := x_neg c hf
      refine lv_aload_n hx hb dX7_takes_34 rfl (lv_at hl 1 rfl) ?_
      refine lv_dup hx hb dX7_takes_35 rfl ?_
      obtain ⟨v2, hv2, hf⟩ := x_ob hf
      refine xr_getI (ci := 7) (k := 8) S G hv2 rfl kw_243 dX7_takes_36 ?_
      refine lv_iconst (v := (1 : Int32)) hx hb dX7_takes_39 (by decide) ?_
      refine lv_iadd hx hb dX7_takes_40 ?_
      obtain ⟨d3, hd3, hf⟩ := x_ob hf
      refine xr_putI (ci := 7) (k := 8) S G hd3 rfl kw_243 dX7_takes_41 (fun H locs G => ?_)
      exact K44 y0 d3 hf _ _ ls (lv_sub hl [0] rfl) G
  have K28 : ∀ (q0 : Nat) (d : xD), k_X7_takes_28 sh q0 d = some (r, dz) → ∀ (H : Heap) (locs : List Loc) (ls : Array Slot), lv_has ls 3 [(0, .ref (b + q0))] → xG D cid b A sh d s H locs → W p l e (xRm 0 0 0) s m av below meth c H locs 0 0 (MQ below (xQ D cid b ex A (some (.int r)) sh dz) av s 0 0 A) (F0 m 28 ls []) := by
    intro q0 d hf H locs ls hl G
    unfold k_X7_takes_28 at hf
    refine lv_iconst (v := (0 : Int32)) hx hb dX7_takes_28 (by decide) ?_
    exact K29 q0 (0 : Int32) d hf _ _ ls (lv_sub hl [0] rfl) G
  unfold f_X7_takes at hf
  refine lv_aload_n hx hb dX7_takes_0 rfl (lv_at hl 0 rfl) ?_
  obtain ⟨v4, hv4, hf⟩ := x_ob hf
  refine xr_getI (ci := 7) (k := 8) S G hv4 rfl kw_243 dX7_takes_1 ?_
  refine lv_aload_n hx hb dX7_takes_4 rfl (lv_at hl 0 rfl) ?_
  obtain ⟨v5, hv5, hf⟩ := x_ob hf
  refine xr_getI (ci := 7) (k := 7) S G hv5 rfl kw_242 dX7_takes_5 ?_
  refine lv_icmp_ge (tgt := 28) hx hb dX7_takes_8 (by decide) (fun c => ?_) (fun c => ?_)
  · have hf := x_pos c hf
    exact K28 q0 d hf _ _ ls (lv_sub hl [0] rfl) G
  · have hf := x_neg c hf
    refine lv_aload_n hx hb dX7_takes_11 rfl (lv_at hl 0 rfl) ?_
    obtain ⟨v6, hv6, hf⟩ := x_ob hf
    refine xr_getR (ci := 7) (k := 5) S G hv6 rfl kw_240 dX7_takes_12 ?_
    refine lv_aload_n hx hb dX7_takes_15 rfl (lv_at hl 0 rfl) ?_
    obtain ⟨v7, hv7, hf⟩ := x_ob hf
    refine xr_getI (ci := 7) (k := 8) S G hv7 rfl kw_243 dX7_takes_16 ?_
    obtain ⟨v8, hv8, hf⟩ := x_ob hf
    refine xr_bald S G hv8 dX7_takes_19 ?_
    refine lv_iload_n hx hb dX7_takes_20 rfl (lv_at hl 1 rfl) ?_
    refine lv_icmp_ne (tgt := 28) hx hb dX7_takes_21 (by decide) (fun c => ?_) (fun c => ?_)
    · have hf := x_neg c hf
      exact K28 q0 d hf _ _ ls (lv_sub hl [0] rfl) G
    · have hf := x_pos c hf
      refine lv_iconst (v := (1 : Int32)) hx hb dX7_takes_24 (by decide) ?_
      refine lv_goto (tgt := 29) hx hb dX7_takes_25 (by decide) ?_
      exact K29 q0 (1 : Int32) d hf _ _ ls (lv_sub hl [0] rfl) G
-- HalfLandings$Tokens.kindOfSign(I)I
theorem dX7_kindOfSign_0 : decode cX7_kindOfSign 0 = .ok (.iload_n 0, 1) := by decide +kernel
theorem dX7_kindOfSign_1 : decode cX7_kindOfSign 1 = .ok (.tableswitch 127 40 61 #[106, 109, 118, 112, 127, 115, 127, 121, 127, 127, 127, 127, 127, 127, 127, 127, 127, 127, 127, 103, 127, 124], 103) := by decide +kernel
theorem dX7_kindOfSign_104 : decode cX7_kindOfSign 104 = .ok (.bipush 23, 2) := by decide +kernel
theorem dX7_kindOfSign_106 : decode cX7_kindOfSign 106 = .ok (.ireturn, 1) := by decide +kernel
theorem dX7_kindOfSign_107 : decode cX7_kindOfSign 107 = .ok (.bipush 24, 2) := by decide +kernel
theorem dX7_kindOfSign_109 : decode cX7_kindOfSign 109 = .ok (.ireturn, 1) := by decide +kernel
theorem dX7_kindOfSign_110 : decode cX7_kindOfSign 110 = .ok (.bipush 25, 2) := by decide +kernel
theorem dX7_kindOfSign_112 : decode cX7_kindOfSign 112 = .ok (.ireturn, 1) := by decide +kernel
theorem dX7_kindOfSign_113 : decode cX7_kindOfSign 113 = .ok (.bipush 26, 2) := by decide +kernel
theorem dX7_kindOfSign_115 : decode cX7_kindOfSign 115 = .ok (.ireturn, 1) := by decide +kernel
theorem dX7_kindOfSign_116 : decode cX7_kindOfSign 116 = .ok (.bipush 27, 2) := by decide +kernel
theorem dX7_kindOfSign_118 : decode cX7_kindOfSign 118 = .ok (.ireturn, 1) := by decide +kernel
theorem dX7_kindOfSign_119 : decode cX7_kindOfSign 119 = .ok (.bipush 28, 2) := by decide +kernel
theorem dX7_kindOfSign_121 : decode cX7_kindOfSign 121 = .ok (.ireturn, 1) := by decide +kernel
theorem dX7_kindOfSign_122 : decode cX7_kindOfSign 122 = .ok (.bipush 29, 2) := by decide +kernel
theorem dX7_kindOfSign_124 : decode cX7_kindOfSign 124 = .ok (.ireturn, 1) := by decide +kernel
theorem dX7_kindOfSign_125 : decode cX7_kindOfSign 125 = .ok (.bipush 32, 2) := by decide +kernel
theorem dX7_kindOfSign_127 : decode cX7_kindOfSign 127 = .ok (.ireturn, 1) := by decide +kernel
theorem dX7_kindOfSign_128 : decode cX7_kindOfSign 128 = .ok (.bipush 37, 2) := by decide +kernel
theorem dX7_kindOfSign_130 : decode cX7_kindOfSign 130 = .ok (.ireturn, 1) := by decide +kernel
theorem hd_X7_kindOfSign : yX7_kindOfSign.cls ≠ "java/lang/invoke/MethodHandle" ∧ yX7_kindOfSign.cls ≠ "java/lang/invoke/VarHandle" ∧ (parseMethodDescriptor yX7_kindOfSign.desc).map (fun d => d.parameters.length) = some 1 := by decide +kernel
def f_X7_kindOfSign (sh : List xSh) (x0 : Int32) (d : xD) : Option (Int32 × xD) :=
  if x0 = (40 : Int32) then (some ((24 : Int32), d)) else (if x0 = (41 : Int32) then (some ((25 : Int32), d)) else (if x0 = (42 : Int32) then (some ((28 : Int32), d)) else (if x0 = (43 : Int32) then (some ((26 : Int32), d)) else (if x0 = (45 : Int32) then (some ((27 : Int32), d)) else (if x0 = (47 : Int32) then (some ((29 : Int32), d)) else (if x0 = (59 : Int32) then (some ((23 : Int32), d)) else (if x0 = (61 : Int32) then (some ((32 : Int32), d)) else (some ((37 : Int32), d)))))))))
set_option maxHeartbeats 4000000 in
set_option maxRecDepth 100000 in
theorem mt_X7_kindOfSign (l : Launch) (D : va_G) (cid : FieldType → ClassId) (b : Nat) (ex : Bool) (sa sv B0 : Nat) (sh : List xSh) (x0 : Int32) (d : xD) (r : Int32) (dz : xD) (hf : f_X7_kindOfSign sh x0 d = some (r, dz)) : xMet l yX7_kindOfSign cX7_kindOfSign 1 (some .int) 0 0 0 D cid b ex sa sv B0 [.int x0] sh d (some (.int r)) sh dz := by
  refine xMet.of (by decide) (Nat.le_of_ble_eq_true rfl) ?_
  intro p e s m below meth c ls A S hr hin G hl
  have hl : lv_has ls 1 [(0, .int x0)] := hl
  generalize ([.int x0] : List Value).toArray = av at S ⊢
  have hx := S.1
  have hb := S.2.1
  have hml := S.2.2.1
  have hown := S.2.2.2.1
  have hts := S.2.2.2.2.1
  unfold f_X7_kindOfSign at hf
  refine lv_iload_n hx hb dX7_kindOfSign_0 rfl (lv_at hl 0 rfl) ?_
  by_cases c1 : x0 = (40 : Int32)
  · have hf := x_pos c1 hf
    refine xr_tab (k := (40 : Int32)) (tgt := 107) hx hb c1 dX7_kindOfSign_1 (by decide) (by decide) rfl (by decide) ?_
    refine lv_bipush (v := (24 : Int32)) hx hb dX7_kindOfSign_107 (by decide) ?_
    cases hf
    exact xr_iret S G (fun _ => rfl) hr dX7_kindOfSign_109
  · have hf := x_neg c1 hf
    by_cases c2 : x0 = (41 : Int32)
    · have hf := x_pos c2 hf
      refine xr_tab (k := (41 : Int32)) (tgt := 110) hx hb c2 dX7_kindOfSign_1 (by decide) (by decide) rfl (by decide) ?_
      refine lv_bipush (v := (25 : Int32)) hx hb dX7_kindOfSign_110 (by decide) ?_
      cases hf
      exact xr_iret S G (fun _ => rfl) hr dX7_kindOfSign_112
    · have hf := x_neg c2 hf
      by_cases c3 : x0 = (42 : Int32)
      · have hf := x_pos c3 hf
        refine xr_tab (k := (42 : Int32)) (tgt := 119) hx hb c3 dX7_kindOfSign_1 (by decide) (by decide) rfl (by decide) ?_
        refine lv_bipush (v := (28 : Int32)) hx hb dX7_kindOfSign_119 (by decide) ?_
        cases hf
        exact xr_iret S G (fun _ => rfl) hr dX7_kindOfSign_121
      · have hf := x_neg c3 hf
        by_cases c4 : x0 = (43 : Int32)
        · have hf := x_pos c4 hf
          refine xr_tab (k := (43 : Int32)) (tgt := 113) hx hb c4 dX7_kindOfSign_1 (by decide) (by decide) rfl (by decide) ?_
          refine lv_bipush (v := (26 : Int32)) hx hb dX7_kindOfSign_113 (by decide) ?_
          cases hf
          exact xr_iret S G (fun _ => rfl) hr dX7_kindOfSign_115
        · have hf := x_neg c4 hf
          by_cases c5 : x0 = (45 : Int32)
          · have hf := x_pos c5 hf
            refine xr_tab (k := (45 : Int32)) (tgt := 116) hx hb c5 dX7_kindOfSign_1 (by decide) (by decide) rfl (by decide) ?_
            refine lv_bipush (v := (27 : Int32)) hx hb dX7_kindOfSign_116 (by decide) ?_
            cases hf
            exact xr_iret S G (fun _ => rfl) hr dX7_kindOfSign_118
          · have hf := x_neg c5 hf
            by_cases c6 : x0 = (47 : Int32)
            · have hf := x_pos c6 hf
              refine xr_tab (k := (47 : Int32)) (tgt := 122) hx hb c6 dX7_kindOfSign_1 (by decide) (by decide) rfl (by decide) ?_
              refine lv_bipush (v := (29 : Int32)) hx hb dX7_kindOfSign_122 (by decide) ?_
              cases hf
              exact xr_iret S G (fun _ => rfl) hr dX7_kindOfSign_124
            · have hf := x_neg c6 hf
              by_cases c7 : x0 = (59 : Int32)
              · have hf := x_pos c7 hf
                refine xr_tab (k := (59 : Int32)) (tgt := 104) hx hb c7 dX7_kindOfSign_1 (by decide) (by decide) rfl (by decide) ?_
                refine lv_bipush (v := (23 : Int32)) hx hb dX7_kindOfSign_104 (by decide) ?_
                cases hf
                exact xr_iret S G (fun _ => rfl) hr dX7_kindOfSign_106
              · have hf := x_neg c7 hf
                by_cases c8 : x0 = (61 : Int32)
                · have hf := x_pos c8 hf
                  refine xr_tab (k := (61 : Int32)) (tgt := 125) hx hb c8 dX7_kindOfSign_1 (by decide) (by decide) rfl (by decide) ?_
                  refine lv_bipush (v := (32 : Int32)) hx hb dX7_kindOfSign_125 (by decide) ?_
                  cases hf
                  exact xr_iret S G (fun _ => rfl) hr dX7_kindOfSign_127
                · have hf := x_neg c8 hf
                  have hks : ∀ z ∈ ([40, 41, 42, 43, 45, 47, 59, 61] : List Int), (x0).toInt ≠ z := by
                    intro z hz
                    simp only [List.mem_cons, List.not_mem_nil, or_false] at hz
                    rcases hz with rfl | rfl | rfl | rfl | rfl | rfl | rfl | rfl
                    · exact x_toInt_ne 40 c1 (by decide)
                    · exact x_toInt_ne 41 c2 (by decide)
                    · exact x_toInt_ne 42 c3 (by decide)
                    · exact x_toInt_ne 43 c4 (by decide)
                    · exact x_toInt_ne 45 c5 (by decide)
                    · exact x_toInt_ne 47 c6 (by decide)
                    · exact x_toInt_ne 59 c7 (by decide)
                    · exact x_toInt_ne 61 c8 (by decide)
                  refine xr_tabD (tgt := 128) [40, 41, 42, 43, 45, 47, 59, 61] hx hb dX7_kindOfSign_1 hks (by decide) (by decide) (by decide) ?_
                  refine lv_bipush (v := (37 : Int32)) hx hb dX7_kindOfSign_128 (by decide) ?_
                  cases hf
                  exact xr_iret S G (fun _ => rfl) hr dX7_kindOfSign_130
-- HalfLandings$Tokens.readSign()V
theorem dX7_readSign_0 : decode cX7_readSign 0 = .ok (.aload_n 0, 1) := by decide +kernel
theorem dX7_readSign_1 : decode cX7_readSign 1 = .ok (.getfield 37, 3) := by decide +kernel
theorem dX7_readSign_4 : decode cX7_readSign 4 = .ok (.aload_n 0, 1) := by decide +kernel
theorem dX7_readSign_5 : decode cX7_readSign 5 = .ok (.getfield 34, 3) := by decide +kernel
theorem dX7_readSign_8 : decode cX7_readSign 8 = .ok (.baload, 1) := by decide +kernel
theorem dX7_readSign_9 : decode cX7_readSign 9 = .ok (.istore_n 1, 1) := by decide +kernel
theorem dX7_readSign_10 : decode cX7_readSign 10 = .ok (.aload_n 0, 1) := by decide +kernel
theorem dX7_readSign_11 : decode cX7_readSign 11 = .ok (.dup, 1) := by decide +kernel
theorem dX7_readSign_12 : decode cX7_readSign 12 = .ok (.getfield 34, 3) := by decide +kernel
theorem dX7_readSign_15 : decode cX7_readSign 15 = .ok (.iconst 1, 1) := by decide +kernel
theorem dX7_readSign_16 : decode cX7_readSign 16 = .ok (.iadd, 1) := by decide +kernel
theorem dX7_readSign_17 : decode cX7_readSign 17 = .ok (.putfield 34, 3) := by decide +kernel
theorem dX7_readSign_20 : decode cX7_readSign 20 = .ok (.iload_n 1, 1) := by decide +kernel
theorem dX7_readSign_21 : decode cX7_readSign 21 = .ok (.bipush 60, 2) := by decide +kernel
theorem dX7_readSign_23 : decode cX7_readSign 23 = .ok (.if_icmp .ne 40, 3) := by decide +kernel
theorem dX7_readSign_26 : decode cX7_readSign 26 = .ok (.aload_n 0, 1) := by decide +kernel
theorem dX7_readSign_27 : decode cX7_readSign 27 = .ok (.aload_n 0, 1) := by decide +kernel
theorem dX7_readSign_28 : decode cX7_readSign 28 = .ok (.bipush 61, 2) := by decide +kernel
theorem dX7_readSign_30 : decode cX7_readSign 30 = .ok (.invokevirtual 84, 3) := by decide +kernel
theorem dX7_readSign_33 : decode cX7_readSign 33 = .ok (.ifCond .eq 8, 3) := by decide +kernel
theorem dX7_readSign_36 : decode cX7_readSign 36 = .ok (.bipush 31, 2) := by decide +kernel
theorem dX7_readSign_38 : decode cX7_readSign 38 = .ok (.goto 19, 3) := by decide +kernel
theorem dX7_readSign_41 : decode cX7_readSign 41 = .ok (.aload_n 0, 1) := by decide +kernel
theorem dX7_readSign_42 : decode cX7_readSign 42 = .ok (.bipush 62, 2) := by decide +kernel
theorem dX7_readSign_44 : decode cX7_readSign 44 = .ok (.invokevirtual 84, 3) := by decide +kernel
theorem dX7_readSign_47 : decode cX7_readSign 47 = .ok (.ifCond .eq 8, 3) := by decide +kernel
theorem dX7_readSign_50 : decode cX7_readSign 50 = .ok (.bipush 33, 2) := by decide +kernel
theorem dX7_readSign_52 : decode cX7_readSign 52 = .ok (.goto 5, 3) := by decide +kernel
theorem dX7_readSign_55 : decode cX7_readSign 55 = .ok (.bipush 30, 2) := by decide +kernel
theorem dX7_readSign_57 : decode cX7_readSign 57 = .ok (.putfield 11, 3) := by decide +kernel
theorem dX7_readSign_60 : decode cX7_readSign 60 = .ok (.goto 40, 3) := by decide +kernel
theorem dX7_readSign_63 : decode cX7_readSign 63 = .ok (.iload_n 1, 1) := by decide +kernel
theorem dX7_readSign_64 : decode cX7_readSign 64 = .ok (.bipush 62, 2) := by decide +kernel
theorem dX7_readSign_66 : decode cX7_readSign 66 = .ok (.if_icmp .ne 26, 3) := by decide +kernel
theorem dX7_readSign_69 : decode cX7_readSign 69 = .ok (.aload_n 0, 1) := by decide +kernel
theorem dX7_readSign_70 : decode cX7_readSign 70 = .ok (.aload_n 0, 1) := by decide +kernel
theorem dX7_readSign_71 : decode cX7_readSign 71 = .ok (.bipush 61, 2) := by decide +kernel
theorem dX7_readSign_73 : decode cX7_readSign 73 = .ok (.invokevirtual 84, 3) := by decide +kernel
theorem dX7_readSign_76 : decode cX7_readSign 76 = .ok (.ifCond .eq 8, 3) := by decide +kernel
theorem dX7_readSign_79 : decode cX7_readSign 79 = .ok (.bipush 34, 2) := by decide +kernel
theorem dX7_readSign_81 : decode cX7_readSign 81 = .ok (.goto 5, 3) := by decide +kernel
theorem dX7_readSign_84 : decode cX7_readSign 84 = .ok (.bipush 35, 2) := by decide +kernel
theorem dX7_readSign_86 : decode cX7_readSign 86 = .ok (.putfield 11, 3) := by decide +kernel
theorem dX7_readSign_89 : decode cX7_readSign 89 = .ok (.goto 11, 3) := by decide +kernel
theorem dX7_readSign_92 : decode cX7_readSign 92 = .ok (.aload_n 0, 1) := by decide +kernel
theorem dX7_readSign_93 : decode cX7_readSign 93 = .ok (.iload_n 1, 1) := by decide +kernel
theorem dX7_readSign_94 : decode cX7_readSign 94 = .ok (.invokestatic 87, 3) := by decide +kernel
theorem dX7_readSign_97 : decode cX7_readSign 97 = .ok (.putfield 11, 3) := by decide +kernel
theorem dX7_readSign_100 : decode cX7_readSign 100 = .ok (.return_, 1) := by decide +kernel
theorem hd_X7_readSign : yX7_readSign.cls = xCn 7 ∧ yX7_readSign.cls ≠ "java/lang/invoke/MethodHandle" ∧ yX7_readSign.cls ≠ "java/lang/invoke/VarHandle" ∧ (parseMethodDescriptor yX7_readSign.desc).map (fun d => d.parameters.length) = some 0 := by decide +kernel
def k_X7_readSign_100 (sh : List xSh) (d : xD) : Option xD :=
  some d
def k_X7_readSign_86 (sh : List xSh) (p0 : Nat) (y1 : Int32) (d : xD) : Option xD :=
  (xpI 7 sh d p0 0 y1).bind fun d1 => k_X7_readSign_100 sh d1
def k_X7_readSign_57 (sh : List xSh) (p0 : Nat) (y1 : Int32) (d : xD) : Option xD :=
  (xpI 7 sh d p0 0 y1).bind fun d2 => k_X7_readSign_100 sh d2
def f_X7_readSign (sh : List xSh) (q0 : Nat) (d : xD) : Option xD :=
  (xgR 7 sh d q0 5).bind fun v3 => (xgI 7 sh d q0 8).bind fun v4 => (xaI .byte sh d v3 v4).bind fun v5 => (xgI 7 sh d q0 8).bind fun v6 => (xpI 7 sh d q0 8 (v6 + (1 : Int32))).bind fun d7 => if v5 = (60 : Int32) then ((xon 7 sh q0 (f_X7_takes sh q0 (61 : Int32) d7)).bind fun z11 => if z11.1 = 0 then ((xon 7 sh q0 (f_X7_takes sh q0 (62 : Int32) z11.2)).bind fun z12 => if z12.1 = 0 then (k_X7_readSign_57 sh q0 (30 : Int32) z12.2) else (k_X7_readSign_57 sh q0 (33 : Int32) z12.2)) else (k_X7_readSign_57 sh q0 (31 : Int32) z11.2)) else (if v5 = (62 : Int32) then ((xon 7 sh q0 (f_X7_takes sh q0 (61 : Int32) d7)).bind fun z10 => if z10.1 = 0 then (k_X7_readSign_86 sh q0 (35 : Int32) z10.2) else (k_X7_readSign_86 sh q0 (34 : Int32) z10.2)) else ((f_X7_kindOfSign sh v5 d7).bind fun z8 => (xpI 7 sh z8.2 q0 0 z8.1).bind fun d9 => k_X7_readSign_100 sh d9))
set_option maxHeartbeats 4000000 in
set_option maxRecDepth 100000 in
theorem mt_X7_readSign (l : Launch) (D : va_G) (cid : FieldType → ClassId) (b : Nat) (ex : Bool) (sa sv B0 : Nat) (sh : List xSh) (q0 : Nat) (d : xD) (dz : xD) (hf : f_X7_readSign sh q0 d = some dz) : xMet l yX7_readSign cX7_readSign 2 none 1 0 0 D cid b ex sa sv B0 [.ref (b + q0)] sh d none sh dz := by
  refine xMet.of (by decide) (Nat.le_of_ble_eq_true rfl) ?_
  intro p e s m below meth c ls A S hr hin G hl
  have hl : lv_has ls 2 [(0, .ref (b + q0))] := hl
  generalize ([.ref (b + q0)] : List Value).toArray = av at S ⊢
  have hx := S.1
  have hb := S.2.1
  have hml := S.2.2.1
  have hown := S.2.2.2.1
  have hts := S.2.2.2.2.1
  have K100 : ∀ (d : xD), k_X7_readSign_100 sh d = some dz → ∀ (H : Heap) (locs : List Loc) (ls : Array Slot), lv_has ls 2 [] → xG D cid b A sh d s H locs → W p l e (xRm 1 0 0) s m av below meth c H locs 0 0 (MQ below (xQ D cid b ex A none sh dz) av s 0 0 A) (F0 m 100 ls []) := by
    intro d hf H locs ls hl G
    unfold k_X7_readSign_100 at hf
    cases hf
    exact xr_vret S G (fun _ => rfl) hr dX7_readSign_100
  have K86 : ∀ (p0 : Nat) (y1 : Int32) (d : xD), k_X7_readSign_86 sh p0 y1 d = some dz → ∀ (H : Heap) (locs : List Loc) (ls : Array Slot), lv_has ls 2 [] → xG D cid b A sh d s H locs → W p l e (xRm 1 0 0) s m av below meth c H locs 0 0 (MQ below (xQ D cid b ex A none sh dz) av s 0 0 A) (F0 m 86 ls [.int y1, .ref (b + p0)]) := by
    intro p0 y1 d hf H locs ls hl G
    unfold k_X7_readSign_86 at hf
    obtain ⟨d1, hd1, hf⟩ := x_ob hf
    refine xr_putI (ci := 7) (k := 0) S G hd1 rfl kw_229 dX7_readSign_86 (fun H locs G => ?_)
    refine lv_goto (tgt := 100) hx hb dX7_readSign_89 (by decide) ?_
    exact K100 d1 hf _ _ ls (lv_sub hl [] rfl) G
  have K57 : ∀ (p0 : Nat) (y1 : Int32) (d : xD), k_X7_readSign_57 sh p0 y1 d = some dz → ∀ (H : Heap) (locs : List Loc) (ls : Array Slot), lv_has ls 2 [] → xG D cid b A sh d s H locs → W p l e (xRm 1 0 0) s m av below meth c H locs 0 0 (MQ below (xQ D cid b ex A none sh dz) av s 0 0 A) (F0 m 57 ls [.int y1, .ref (b + p0)]) := by
    intro p0 y1 d hf H locs ls hl G
    unfold k_X7_readSign_57 at hf
    obtain ⟨d2, hd2, hf⟩ := x_ob hf
    refine xr_putI (ci := 7) (k := 0) S G hd2 rfl kw_229 dX7_readSign_57 (fun H locs G => ?_)
    refine lv_goto (tgt := 100) hx hb dX7_readSign_60 (by decide) ?_
    exact K100 d2 hf _ _ ls (lv_sub hl [] rfl) G
  unfold f_X7_readSign at hf
  refine lv_aload_n hx hb dX7_readSign_0 rfl (lv_at hl 0 rfl) ?_
  obtain ⟨v3, hv3, hf⟩ := x_ob hf
  refine xr_getR (ci := 7) (k := 5) S G hv3 rfl kw_240 dX7_readSign_1 ?_
  refine lv_aload_n hx hb dX7_readSign_4 rfl (lv_at hl 0 rfl) ?_
  obtain ⟨v4, hv4, hf⟩ := x_ob hf
  refine xr_getI (ci := 7) (k := 8) S G hv4 rfl kw_243 dX7_readSign_5 ?_
  obtain ⟨v5, hv5, hf⟩ := x_ob hf
  refine xr_bald S G hv5 dX7_readSign_8 ?_
  refine lv_istore_n (lv' := [(1, .int v5), (0, .ref (b + q0))]) hx hb dX7_readSign_9 rfl hl (by decide) rfl (fun ls hl => ?_)
  refine lv_aload_n hx hb dX7_readSign_10 rfl (lv_at hl 1 rfl) ?_
  refine lv_dup hx hb dX7_readSign_11 rfl ?_
  obtain ⟨v6, hv6, hf⟩ := x_ob hf
  refine xr_getI (ci := 7) (k := 8) S G hv6 rfl kw_243 dX7_readSign_12 ?_
  refine lv_iconst (v := (1 : Int32)) hx hb dX7_readSign_15 (by decide) ?_
  refine lv_iadd hx hb dX7_readSign_16 ?_
  obtain ⟨d7, hd7, hf⟩ := x_ob hf
  refine xr_putI (ci := 7) (k := 8) S G hd7 rfl kw_243 dX7_readSign_17 (fun H locs G => ?_)
  refine lv_iload_n hx hb dX7_readSign_20 rfl (lv_at hl 0 rfl) ?_
  refine lv_bipush (v := (60 : Int32)) hx hb dX7_readSign_21 (by decide) ?_
  refine lv_icmp_ne (tgt := 63) hx hb dX7_readSign_23 (by decide) (fun c => ?_) (fun c => ?_)
  · have hf := x_neg c hf
    refine lv_iload_n hx hb dX7_readSign_63 rfl (lv_at hl 0 rfl) ?_
    refine lv_bipush (v := (62 : Int32)) hx hb dX7_readSign_64 (by decide) ?_
    refine lv_icmp_ne (tgt := 92) hx hb dX7_readSign_66 (by decide) (fun c => ?_) (fun c => ?_)
    · have hf := x_neg c hf
      refine lv_aload_n hx hb dX7_readSign_92 rfl (lv_at hl 1 rfl) ?_
      refine lv_iload_n hx hb dX7_readSign_93 rfl (lv_at hl 0 rfl) ?_
      obtain ⟨z8, hz8, hf⟩ := x_ob hf
      refine xr_callS (As := [.int v5]) (rest := [.ref (b + q0)]) (st1 := [.int z8.1, .ref (b + q0)]) S G hl.1 (fun _ => rfl) (mt_X7_kindOfSign l D cid b ex sa sv B0 sh v5 d7 _ _ hz8) kw_589 kw_590 kw_5 kw_591 hd_X7_kindOfSign ⟨Nat.le_of_ble_eq_true rfl, Nat.le_of_ble_eq_true rfl⟩ rfl rfl rfl (Nat.le_of_ble_eq_true rfl) ⟨Nat.le_of_ble_eq_true rfl, Nat.le_of_ble_eq_true rfl⟩ dX7_readSign_94 (fun H locs G => ?_)
      obtain ⟨d9, hd9, hf⟩ := x_ob hf
      refine xr_putI (ci := 7) (k := 0) S G hd9 rfl kw_229 dX7_readSign_97 (fun H locs G => ?_)
      exact K100 d9 hf _ _ ls (lv_sub hl [] rfl) G
    · have hf := x_pos c hf
      refine lv_aload_n hx hb dX7_readSign_69 rfl (lv_at hl 1 rfl) ?_
      refine lv_aload_n hx hb dX7_readSign_70 rfl (lv_at hl 1 rfl) ?_
      refine lv_bipush (v := (61 : Int32)) hx hb dX7_readSign_71 (by decide) ?_
      obtain ⟨z10, hz10, hf⟩ := x_ob hf
      obtain ⟨hqz10, hz10⟩ := xon_of hz10
      refine xr_callV (ci := 7) (As := [.int (61 : Int32)]) (rest := [.ref (b + q0)]) (st1 := [.int z10.1, .ref (b + q0)]) S G hl.1 (fun _ => rfl) (mt_X7_takes l D cid b ex sa sv B0 sh q0 (61 : Int32) d7 _ _ hz10) hqz10 (by decide) kw_585 kw_587 ks_5 kw_5 kw_588 hd_X7_takes ⟨Nat.le_of_ble_eq_true rfl, Nat.le_of_ble_eq_true rfl⟩ rfl rfl rfl (Nat.le_of_ble_eq_true rfl) ⟨Nat.le_of_ble_eq_true rfl, Nat.le_of_ble_eq_true rfl⟩ dX7_readSign_73 (fun H locs G => ?_)
      refine lv_if_eq (tgt := 84) hx hb dX7_readSign_76 (by decide) (fun c => ?_) (fun c => ?_)
      · have hf := x_pos c hf
        refine lv_bipush (v := (35 : Int32)) hx hb dX7_readSign_84 (by decide) ?_
        exact K86 q0 (35 : Int32) z10.2 hf _ _ ls (lv_sub hl [] rfl) G
      · have hf := x_neg c hf
        refine lv_bipush (v := (34 : Int32)) hx hb dX7_readSign_79 (by decide) ?_
        refine lv_goto (tgt := 86) hx hb dX7_readSign_81 (by decide) ?_
        exact K86 q0 (34 : Int32) z10.2 hf _ _ ls (lv_sub hl [] rfl) G
  · have hf := x_pos c hf
    refine lv_aload_n hx hb dX7_readSign_26 rfl (lv_at hl 1 rfl) ?_
    refine lv_aload_n hx hb dX7_readSign_27 rfl (lv_at hl 1 rfl) ?_
    refine lv_bipush (v := (61 : Int32)) hx hb dX7_readSign_28 (by decide) ?_
    obtain ⟨z11, hz11, hf⟩ := x_ob hf
    obtain ⟨hqz11, hz11⟩ := xon_of hz11
    refine xr_callV (ci := 7) (As := [.int (61 : Int32)]) (rest := [.ref (b + q0)]) (st1 := [.int z11.1, .ref (b + q0)]) S G hl.1 (fun _ => rfl) (mt_X7_takes l D cid b ex sa sv B0 sh q0 (61 : Int32) d7 _ _ hz11) hqz11 (by decide) kw_585 kw_587 ks_5 kw_5 kw_588 hd_X7_takes ⟨Nat.le_of_ble_eq_true rfl, Nat.le_of_ble_eq_true rfl⟩ rfl rfl rfl (Nat.le_of_ble_eq_true rfl) ⟨Nat.le_of_ble_eq_true rfl, Nat.le_of_ble_eq_true rfl⟩ dX7_readSign_30 (fun H locs G => ?_)
    refine lv_if_eq (tgt := 41) hx hb dX7_readSign_33 (by decide) (fun c => ?_) (fun c => ?_)
    · have hf := x_pos c hf
      refine lv_aload_n hx hb dX7_readSign_41 rfl (lv_at hl 1 rfl) ?_
      refine lv_bipush (v := (62 : Int32)) hx hb dX7_readSign_42 (by decide) ?_
      obtain ⟨z12, hz12, hf⟩ := x_ob hf
      obtain ⟨hqz12, hz12⟩ := xon_of hz12
      refine xr_callV (ci := 7) (As := [.int (62 : Int32)]) (rest := [.ref (b + q0)]) (st1 := [.int z12.1, .ref (b + q0)]) S G hl.1 (fun _ => rfl) (mt_X7_takes l D cid b ex sa sv B0 sh q0 (62 : Int32) z11.2 _ _ hz12) hqz12 (by decide) kw_585 kw_587 ks_5 kw_5 kw_588 hd_X7_takes ⟨Nat.le_of_ble_eq_true rfl, Nat.le_of_ble_eq_true rfl⟩ rfl rfl rfl (Nat.le_of_ble_eq_true rfl) ⟨Nat.le_of_ble_eq_true rfl, Nat.le_of_ble_eq_true rfl⟩ dX7_readSign_44 (fun H locs G => ?_)
      refine lv_if_eq (tgt := 55) hx hb dX7_readSign_47 (by decide) (fun c => ?_) (fun c => ?_)
      · have hf := x_pos c hf
        refine lv_bipush (v := (30 : Int32)) hx hb dX7_readSign_55 (by decide) ?_
        exact K57 q0 (30 : Int32) z12.2 hf _ _ ls (lv_sub hl [] rfl) G
      · have hf := x_neg c hf
        refine lv_bipush (v := (33 : Int32)) hx hb dX7_readSign_50 (by decide) ?_
        refine lv_goto (tgt := 57) hx hb dX7_readSign_52 (by decide) ?_
        exact K57 q0 (33 : Int32) z12.2 hf _ _ ls (lv_sub hl [] rfl) G
    · have hf := x_neg c hf
      refine lv_bipush (v := (31 : Int32)) hx hb dX7_readSign_36 (by decide) ?_
      refine lv_goto (tgt := 57) hx hb dX7_readSign_38 (by decide) ?_
      exact K57 q0 (31 : Int32) z11.2 hf _ _ ls (lv_sub hl [] rfl) G
-- HalfLandings$Tokens.next()V
theorem dX7_next_0 : decode cX7_next 0 = .ok (.aload_n 0, 1) := by decide +kernel
theorem dX7_next_1 : decode cX7_next 1 = .ok (.getfield 34, 3) := by decide +kernel
theorem dX7_next_4 : decode cX7_next 4 = .ok (.aload_n 0, 1) := by decide +kernel
theorem dX7_next_5 : decode cX7_next 5 = .ok (.getfield 31, 3) := by decide +kernel
theorem dX7_next_8 : decode cX7_next 8 = .ok (.if_icmp .ge 44, 3) := by decide +kernel
theorem dX7_next_11 : decode cX7_next 11 = .ok (.aload_n 0, 1) := by decide +kernel
theorem dX7_next_12 : decode cX7_next 12 = .ok (.getfield 37, 3) := by decide +kernel
theorem dX7_next_15 : decode cX7_next 15 = .ok (.aload_n 0, 1) := by decide +kernel
theorem dX7_next_16 : decode cX7_next 16 = .ok (.getfield 34, 3) := by decide +kernel
theorem dX7_next_19 : decode cX7_next 19 = .ok (.baload, 1) := by decide +kernel
theorem dX7_next_20 : decode cX7_next 20 = .ok (.bipush 10, 2) := by decide +kernel
theorem dX7_next_22 : decode cX7_next 22 = .ok (.if_icmp .eq 17, 3) := by decide +kernel
theorem dX7_next_25 : decode cX7_next 25 = .ok (.aload_n 0, 1) := by decide +kernel
theorem dX7_next_26 : decode cX7_next 26 = .ok (.getfield 37, 3) := by decide +kernel
theorem dX7_next_29 : decode cX7_next 29 = .ok (.aload_n 0, 1) := by decide +kernel
theorem dX7_next_30 : decode cX7_next 30 = .ok (.getfield 34, 3) := by decide +kernel
theorem dX7_next_33 : decode cX7_next 33 = .ok (.baload, 1) := by decide +kernel
theorem dX7_next_34 : decode cX7_next 34 = .ok (.bipush 32, 2) := by decide +kernel
theorem dX7_next_36 : decode cX7_next 36 = .ok (.if_icmp .ne 16, 3) := by decide +kernel
theorem dX7_next_39 : decode cX7_next 39 = .ok (.aload_n 0, 1) := by decide +kernel
theorem dX7_next_40 : decode cX7_next 40 = .ok (.dup, 1) := by decide +kernel
theorem dX7_next_41 : decode cX7_next 41 = .ok (.getfield 34, 3) := by decide +kernel
theorem dX7_next_44 : decode cX7_next 44 = .ok (.iconst 1, 1) := by decide +kernel
theorem dX7_next_45 : decode cX7_next 45 = .ok (.iadd, 1) := by decide +kernel
theorem dX7_next_46 : decode cX7_next 46 = .ok (.putfield 34, 3) := by decide +kernel
theorem dX7_next_49 : decode cX7_next 49 = .ok (.goto (-49), 3) := by decide +kernel
theorem dX7_next_52 : decode cX7_next 52 = .ok (.aload_n 0, 1) := by decide +kernel
theorem dX7_next_53 : decode cX7_next 53 = .ok (.aload_n 0, 1) := by decide +kernel
theorem dX7_next_54 : decode cX7_next 54 = .ok (.getfield 34, 3) := by decide +kernel
theorem dX7_next_57 : decode cX7_next 57 = .ok (.putfield 15, 3) := by decide +kernel
theorem dX7_next_60 : decode cX7_next 60 = .ok (.aload_n 0, 1) := by decide +kernel
theorem dX7_next_61 : decode cX7_next 61 = .ok (.iconst 0, 1) := by decide +kernel
theorem dX7_next_62 : decode cX7_next 62 = .ok (.putfield 18, 3) := by decide +kernel
theorem dX7_next_65 : decode cX7_next 65 = .ok (.aload_n 0, 1) := by decide +kernel
theorem dX7_next_66 : decode cX7_next 66 = .ok (.getfield 34, 3) := by decide +kernel
theorem dX7_next_69 : decode cX7_next 69 = .ok (.aload_n 0, 1) := by decide +kernel
theorem dX7_next_70 : decode cX7_next 70 = .ok (.getfield 31, 3) := by decide +kernel
theorem dX7_next_73 : decode cX7_next 73 = .ok (.if_icmp .lt 12, 3) := by decide +kernel
theorem dX7_next_76 : decode cX7_next 76 = .ok (.aload_n 0, 1) := by decide +kernel
theorem dX7_next_77 : decode cX7_next 77 = .ok (.bipush 36, 2) := by decide +kernel
theorem dX7_next_79 : decode cX7_next 79 = .ok (.putfield 11, 3) := by decide +kernel
theorem dX7_next_82 : decode cX7_next 82 = .ok (.goto 51, 3) := by decide +kernel
theorem dX7_next_85 : decode cX7_next 85 = .ok (.aload_n 0, 1) := by decide +kernel
theorem dX7_next_86 : decode cX7_next 86 = .ok (.getfield 37, 3) := by decide +kernel
theorem dX7_next_89 : decode cX7_next 89 = .ok (.aload_n 0, 1) := by decide +kernel
theorem dX7_next_90 : decode cX7_next 90 = .ok (.getfield 34, 3) := by decide +kernel
theorem dX7_next_93 : decode cX7_next 93 = .ok (.baload, 1) := by decide +kernel
theorem dX7_next_94 : decode cX7_next 94 = .ok (.invokestatic 64, 3) := by decide +kernel
theorem dX7_next_97 : decode cX7_next 97 = .ok (.ifCond .eq 10, 3) := by decide +kernel
theorem dX7_next_100 : decode cX7_next 100 = .ok (.aload_n 0, 1) := by decide +kernel
theorem dX7_next_101 : decode cX7_next 101 = .ok (.invokevirtual 68, 3) := by decide +kernel
theorem dX7_next_104 : decode cX7_next 104 = .ok (.goto 29, 3) := by decide +kernel
theorem dX7_next_107 : decode cX7_next 107 = .ok (.aload_n 0, 1) := by decide +kernel
theorem dX7_next_108 : decode cX7_next 108 = .ok (.getfield 37, 3) := by decide +kernel
theorem dX7_next_111 : decode cX7_next 111 = .ok (.aload_n 0, 1) := by decide +kernel
theorem dX7_next_112 : decode cX7_next 112 = .ok (.getfield 34, 3) := by decide +kernel
theorem dX7_next_115 : decode cX7_next 115 = .ok (.baload, 1) := by decide +kernel
theorem dX7_next_116 : decode cX7_next 116 = .ok (.invokestatic 71, 3) := by decide +kernel
theorem dX7_next_119 : decode cX7_next 119 = .ok (.ifCond .eq 10, 3) := by decide +kernel
theorem dX7_next_122 : decode cX7_next 122 = .ok (.aload_n 0, 1) := by decide +kernel
theorem dX7_next_123 : decode cX7_next 123 = .ok (.invokevirtual 74, 3) := by decide +kernel
theorem dX7_next_126 : decode cX7_next 126 = .ok (.goto 7, 3) := by decide +kernel
theorem dX7_next_129 : decode cX7_next 129 = .ok (.aload_n 0, 1) := by decide +kernel
theorem dX7_next_130 : decode cX7_next 130 = .ok (.invokevirtual 77, 3) := by decide +kernel
theorem dX7_next_133 : decode cX7_next 133 = .ok (.return_, 1) := by decide +kernel
theorem hd_X7_next : yX7_next.cls = xCn 7 ∧ yX7_next.cls ≠ "java/lang/invoke/MethodHandle" ∧ yX7_next.cls ≠ "java/lang/invoke/VarHandle" ∧ (parseMethodDescriptor yX7_next.desc).map (fun d => d.parameters.length) = some 0 := by decide +kernel
def k_X7_next_133 (sh : List xSh) (d : xD) : Option xD :=
  some d
def k_X7_next_52 (sh : List xSh) (q0 : Nat) (d : xD) : Option xD :=
  (xgI 7 sh d q0 8).bind fun v1 => (xpI 7 sh d q0 1 v1).bind fun d2 => (xpI 7 sh d2 q0 2 (0 : Int32)).bind fun d3 => (xgI 7 sh d3 q0 8).bind fun v4 => (xgI 7 sh d3 q0 7).bind fun v5 => if v4 < v5 then ((xgR 7 sh d3 q0 5).bind fun v6 => (xgI 7 sh d3 q0 8).bind fun v7 => (xaI .byte sh d3 v6 v7).bind fun v8 => (f_X7_isLetter sh v8 d3).bind fun z9 => if z9.1 = 0 then ((xgR 7 sh z9.2 q0 5).bind fun v10 => (xgI 7 sh z9.2 q0 8).bind fun v11 => (xaI .byte sh z9.2 v10 v11).bind fun v12 => (f_X7_isDigit sh v12 z9.2).bind fun z13 => if z13.1 = 0 then ((xon 7 sh q0 (f_X7_readSign sh q0 z13.2)).bind fun d14 => k_X7_next_133 sh d14) else ((xon 7 sh q0 (f_X7_readNumber sh q0 z13.2)).bind fun d15 => k_X7_next_133 sh d15)) else ((xon 7 sh q0 (f_X7_readWord sh q0 z9.2)).bind fun d16 => k_X7_next_133 sh d16)) else ((xpI 7 sh d3 q0 0 (36 : Int32)).bind fun d17 => k_X7_next_133 sh d17)
def k_X7_next_39 (sh : List xSh) (rec0 : Nat → xD → Option xD) (q0 : Nat) (d : xD) : Option xD :=
  (xgI 7 sh d q0 8).bind fun v18 => (xpI 7 sh d q0 8 (v18 + (1 : Int32))).bind fun d19 => rec0 q0 d19
def b_X7_next_0 (sh : List xSh) (rec0 : Nat → xD → Option xD) (q0 : Nat) (d : xD) : Option xD :=
  (xgI 7 sh d q0 8).bind fun v20 => (xgI 7 sh d q0 7).bind fun v21 => if v21 ≤ v20 then (k_X7_next_52 sh q0 d) else ((xgR 7 sh d q0 5).bind fun v22 => (xgI 7 sh d q0 8).bind fun v23 => (xaI .byte sh d v22 v23).bind fun v24 => if v24 = (10 : Int32) then (k_X7_next_39 sh rec0 q0 d) else ((xgR 7 sh d q0 5).bind fun v25 => (xgI 7 sh d q0 8).bind fun v26 => (xaI .byte sh d v25 v26).bind fun v27 => if v27 = (32 : Int32) then (k_X7_next_39 sh rec0 q0 d) else (k_X7_next_52 sh q0 d)))
def f_X7_next (sh : List xSh) (q0 : Nat) (d : xD) : Option xD :=
  xloop (fun _ _ => none) (b_X7_next_0 sh) xF q0 d
set_option maxHeartbeats 4000000 in
set_option maxRecDepth 100000 in
theorem mt_X7_next (l : Launch) (D : va_G) (cid : FieldType → ClassId) (b : Nat) (ex : Bool) (sa sv B0 : Nat) (sh : List xSh) (q0 : Nat) (d : xD) (dz : xD) (hf : f_X7_next sh q0 d = some dz) : xMet l yX7_next cX7_next 1 none 2 0 0 D cid b ex sa sv B0 [.ref (b + q0)] sh d none sh dz := by
  refine xMet.of (by decide) (Nat.le_of_ble_eq_true rfl) ?_
  intro p e s m below meth c ls A S hr hin G hl
  have hl : lv_has ls 1 [(0, .ref (b + q0))] := hl
  generalize ([.ref (b + q0)] : List Value).toArray = av at S ⊢
  have hx := S.1
  have hb := S.2.1
  have hml := S.2.2.1
  have hown := S.2.2.2.1
  have hts := S.2.2.2.2.1
  have K133 : ∀ (d : xD), k_X7_next_133 sh d = some dz → ∀ (H : Heap) (locs : List Loc) (ls : Array Slot), lv_has ls 1 [] → xG D cid b A sh d s H locs → W p l e (xRm 2 0 0) s m av below meth c H locs 0 0 (MQ below (xQ D cid b ex A none sh dz) av s 0 0 A) (F0 m 133 ls []) := by
    intro d hf H locs ls hl G
    unfold k_X7_next_133 at hf
    cases hf
    exact xr_vret S G (fun _ => rfl) hr dX7_next_133
  have K52 : ∀ (q0 : Nat) (d : xD), k_X7_next_52 sh q0 d = some dz → ∀ (H : Heap) (locs : List Loc) (ls : Array Slot), lv_has ls 1 [(0, .ref (b + q0))] → xG D cid b A sh d s H locs → W p l e (xRm 2 0 0) s m av below meth c H locs 0 0 (MQ below (xQ D cid b ex A none sh dz) av s 0 0 A) (F0 m 52 ls []) := by
    intro q0 d hf H locs ls hl G
    unfold k_X7_next_52 at hf
    refine lv_aload_n hx hb dX7_next_52 rfl (lv_at hl 0 rfl) ?_
    refine lv_aload_n hx hb dX7_next_53 rfl (lv_at hl 0 rfl) ?_
    obtain ⟨v1, hv1, hf⟩ := x_ob hf
    refine xr_getI (ci := 7) (k := 8) S G hv1 rfl kw_243 dX7_next_54 ?_
    obtain ⟨d2, hd2, hf⟩ := x_ob hf
    refine xr_putI (ci := 7) (k := 1) S G hd2 rfl kw_232 dX7_next_57 (fun H locs G => ?_)
    refine lv_aload_n hx hb dX7_next_60 rfl (lv_at hl 0 rfl) ?_
    refine lv_iconst (v := (0 : Int32)) hx hb dX7_next_61 (by decide) ?_
    obtain ⟨d3, hd3, hf⟩ := x_ob hf
    refine xr_putI (ci := 7) (k := 2) S G hd3 rfl kw_233 dX7_next_62 (fun H locs G => ?_)
    refine lv_aload_n hx hb dX7_next_65 rfl (lv_at hl 0 rfl) ?_
    obtain ⟨v4, hv4, hf⟩ := x_ob hf
    refine xr_getI (ci := 7) (k := 8) S G hv4 rfl kw_243 dX7_next_66 ?_
    refine lv_aload_n hx hb dX7_next_69 rfl (lv_at hl 0 rfl) ?_
    obtain ⟨v5, hv5, hf⟩ := x_ob hf
    refine xr_getI (ci := 7) (k := 7) S G hv5 rfl kw_242 dX7_next_70 ?_
    refine lv_icmp_lt (tgt := 85) hx hb dX7_next_73 (by decide) (fun c => ?_) (fun c => ?_)
    · have hf := x_pos c hf
      refine lv_aload_n hx hb dX7_next_85 rfl (lv_at hl 0 rfl) ?_
      obtain ⟨v6, hv6, hf⟩ := x_ob hf
      refine xr_getR (ci := 7) (k := 5) S G hv6 rfl kw_240 dX7_next_86 ?_
      refine lv_aload_n hx hb dX7_next_89 rfl (lv_at hl 0 rfl) ?_
      obtain ⟨v7, hv7, hf⟩ := x_ob hf
      refine xr_getI (ci := 7) (k := 8) S G hv7 rfl kw_243 dX7_next_90 ?_
      obtain ⟨v8, hv8, hf⟩ := x_ob hf
      refine xr_bald S G hv8 dX7_next_93 ?_
      obtain ⟨z9, hz9, hf⟩ := x_ob hf
      refine xr_callS (As := [.int v8]) (rest := []) (st1 := [.int z9.1]) S G hl.1 (fun _ => rfl) (mt_X7_isLetter l D cid b ex sa sv B0 sh v8 d3 _ _ hz9) kw_562 kw_563 kw_5 kw_564 hd_X7_isLetter ⟨Nat.le_of_ble_eq_true rfl, Nat.le_of_ble_eq_true rfl⟩ rfl rfl rfl (Nat.le_of_ble_eq_true rfl) ⟨Nat.le_of_ble_eq_true rfl, Nat.le_of_ble_eq_true rfl⟩ dX7_next_94 (fun H locs G => ?_)
      refine lv_if_eq (tgt := 107) hx hb dX7_next_97 (by decide) (fun c => ?_) (fun c => ?_)
      · have hf := x_pos c hf
        refine lv_aload_n hx hb dX7_next_107 rfl (lv_at hl 0 rfl) ?_
        obtain ⟨v10, hv10, hf⟩ := x_ob hf
        refine xr_getR (ci := 7) (k := 5) S G hv10 rfl kw_240 dX7_next_108 ?_
        refine lv_aload_n hx hb dX7_next_111 rfl (lv_at hl 0 rfl) ?_
        obtain ⟨v11, hv11, hf⟩ := x_ob hf
        refine xr_getI (ci := 7) (k := 8) S G hv11 rfl kw_243 dX7_next_112 ?_
        obtain ⟨v12, hv12, hf⟩ := x_ob hf
        refine xr_bald S G hv12 dX7_next_115 ?_
        obtain ⟨z13, hz13, hf⟩ := x_ob hf
        refine xr_callS (As := [.int v12]) (rest := []) (st1 := [.int z13.1]) S G hl.1 (fun _ => rfl) (mt_X7_isDigit l D cid b ex sa sv B0 sh v12 z9.2 _ _ hz13) kw_573 kw_574 kw_5 kw_575 hd_X7_isDigit ⟨Nat.le_of_ble_eq_true rfl, Nat.le_of_ble_eq_true rfl⟩ rfl rfl rfl (Nat.le_of_ble_eq_true rfl) ⟨Nat.le_of_ble_eq_true rfl, Nat.le_of_ble_eq_true rfl⟩ dX7_next_116 (fun H locs G => ?_)
        refine lv_if_eq (tgt := 129) hx hb dX7_next_119 (by decide) (fun c => ?_) (fun c => ?_)
        · have hf := x_pos c hf
          refine lv_aload_n hx hb dX7_next_129 rfl (lv_at hl 0 rfl) ?_
          obtain ⟨d14, hd14, hf⟩ := x_ob hf
          obtain ⟨hqd14, hd14⟩ := xon_of hd14
          refine xr_callV (ci := 7) (As := []) (rest := []) (st1 := []) S G hl.1 (fun _ => rfl) (mt_X7_readSign l D cid b ex sa sv B0 sh q0 z13.2 _ hd14) hqd14 (by decide) kw_581 kw_583 ks_4 kw_5 kw_584 hd_X7_readSign ⟨Nat.le_of_ble_eq_true rfl, Nat.le_of_ble_eq_true rfl⟩ rfl rfl rfl (Nat.le_of_ble_eq_true rfl) ⟨Nat.le_of_ble_eq_true rfl, Nat.le_of_ble_eq_true rfl⟩ dX7_next_130 (fun H locs G => ?_)
          exact K133 d14 hf _ _ ls (lv_sub hl [] rfl) G
        · have hf := x_neg c hf
          refine lv_aload_n hx hb dX7_next_122 rfl (lv_at hl 0 rfl) ?_
          obtain ⟨d15, hd15, hf⟩ := x_ob hf
          obtain ⟨hqd15, hd15⟩ := xon_of hd15
          refine xr_callV (ci := 7) (As := []) (rest := []) (st1 := []) S G hl.1 (fun _ => rfl) (mt_X7_readNumber l D cid b ex sa sv B0 sh q0 z13.2 _ hd15) hqd15 (by decide) kw_576 kw_578 ks_3 kw_5 kw_579 hd_X7_readNumber ⟨Nat.le_of_ble_eq_true rfl, Nat.le_of_ble_eq_true rfl⟩ rfl rfl rfl (Nat.le_of_ble_eq_true rfl) ⟨Nat.le_of_ble_eq_true rfl, Nat.le_of_ble_eq_true rfl⟩ dX7_next_123 (fun H locs G => ?_)
          refine lv_goto (tgt := 133) hx hb dX7_next_126 (by decide) ?_
          exact K133 d15 hf _ _ ls (lv_sub hl [] rfl) G
      · have hf := x_neg c hf
        refine lv_aload_n hx hb dX7_next_100 rfl (lv_at hl 0 rfl) ?_
        obtain ⟨d16, hd16, hf⟩ := x_ob hf
        obtain ⟨hqd16, hd16⟩ := xon_of hd16
        refine xr_callV (ci := 7) (As := []) (rest := []) (st1 := []) S G hl.1 (fun _ => rfl) (mt_X7_readWord l D cid b ex sa sv B0 sh q0 z9.2 _ hd16) hqd16 (by decide) kw_565 kw_567 ks_1 kw_5 kw_568 hd_X7_readWord ⟨Nat.le_of_ble_eq_true rfl, Nat.le_of_ble_eq_true rfl⟩ rfl rfl rfl (Nat.le_of_ble_eq_true rfl) ⟨Nat.le_of_ble_eq_true rfl, Nat.le_of_ble_eq_true rfl⟩ dX7_next_101 (fun H locs G => ?_)
        refine lv_goto (tgt := 133) hx hb dX7_next_104 (by decide) ?_
        exact K133 d16 hf _ _ ls (lv_sub hl [] rfl) G
    · have hf := x_neg c hf
      refine lv_aload_n hx hb dX7_next_76 rfl (lv_at hl 0 rfl) ?_
      refine lv_bipush (v := (36 : Int32)) hx hb dX7_next_77 (by decide) ?_
      obtain ⟨d17, hd17, hf⟩ := x_ob hf
      refine xr_putI (ci := 7) (k := 0) S G hd17 rfl kw_229 dX7_next_79 (fun H locs G => ?_)
      refine lv_goto (tgt := 133) hx hb dX7_next_82 (by decide) ?_
      exact K133 d17 hf _ _ ls (lv_sub hl [] rfl) G
  have K39 : ∀ (rec0 : Nat → xD → Option xD) (hrec0 : ∀ (q0 : Nat) (d : xD), rec0 q0 d = some dz → ∀ (H : Heap) (locs : List Loc) (ls : Array Slot), lv_has ls 1 [(0, .ref (b + q0))] → xG D cid b A sh d s H locs → W p l e (xRm 2 0 0) s m av below meth c H locs 0 0 (MQ below (xQ D cid b ex A none sh dz) av s 0 0 A) (F0 m 0 ls [])) (q0 : Nat) (d : xD), k_X7_next_39 sh rec0 q0 d = some dz → ∀ (H : Heap) (locs : List Loc) (ls : Array Slot), lv_has ls 1 [(0, .ref (b + q0))] → xG D cid b A sh d s H locs → W p l e (xRm 2 0 0) s m av below meth c H locs 0 0 (MQ below (xQ D cid b ex A none sh dz) av s 0 0 A) (F0 m 39 ls []) := by
    intro rec0 hrec0 q0 d hf H locs ls hl G
    unfold k_X7_next_39 at hf
    refine lv_aload_n hx hb dX7_next_39 rfl (lv_at hl 0 rfl) ?_
    refine lv_dup hx hb dX7_next_40 rfl ?_
    obtain ⟨v18, hv18, hf⟩ := x_ob hf
    refine xr_getI (ci := 7) (k := 8) S G hv18 rfl kw_243 dX7_next_41 ?_
    refine lv_iconst (v := (1 : Int32)) hx hb dX7_next_44 (by decide) ?_
    refine lv_iadd hx hb dX7_next_45 ?_
    obtain ⟨d19, hd19, hf⟩ := x_ob hf
    refine xr_putI (ci := 7) (k := 8) S G hd19 rfl kw_243 dX7_next_46 (fun H locs G => ?_)
    refine lv_goto (tgt := 0) hx hb dX7_next_49 (by decide) ?_
    exact hrec0 q0 d19 hf _ _ ls (lv_sub hl [0] rfl) G
  have K0 : ∀ (n : Nat) (q0 : Nat) (d : xD), xloop (fun _ _ => none) (b_X7_next_0 sh) n q0 d = some dz → ∀ (H : Heap) (locs : List Loc) (ls : Array Slot), lv_has ls 1 [(0, .ref (b + q0))] → xG D cid b A sh d s H locs → W p l e (xRm 2 0 0) s m av below meth c H locs 0 0 (MQ below (xQ D cid b ex A none sh dz) av s 0 0 A) (F0 m 0 ls []) := by
    intro n
    induction n with
    | zero =>
      intro q0 d hf
      have hf : (none : Option xD) = some dz := hf
      cases hf
    | succ n hrec0 =>
      intro q0 d hf H locs ls hl G
      have hf : b_X7_next_0 sh (xloop (fun _ _ => none) (b_X7_next_0 sh) n) q0 d = some dz := hf
      unfold b_X7_next_0 at hf
      refine lv_aload_n hx hb dX7_next_0 rfl (lv_at hl 0 rfl) ?_
      obtain ⟨v20, hv20, hf⟩ := x_ob hf
      refine xr_getI (ci := 7) (k := 8) S G hv20 rfl kw_243 dX7_next_1 ?_
      refine lv_aload_n hx hb dX7_next_4 rfl (lv_at hl 0 rfl) ?_
      obtain ⟨v21, hv21, hf⟩ := x_ob hf
      refine xr_getI (ci := 7) (k := 7) S G hv21 rfl kw_242 dX7_next_5 ?_
      refine lv_icmp_ge (tgt := 52) hx hb dX7_next_8 (by decide) (fun c => ?_) (fun c => ?_)
      · have hf := x_pos c hf
        exact K52 q0 d hf _ _ ls (lv_sub hl [0] rfl) G
      · have hf := x_neg c hf
        refine lv_aload_n hx hb dX7_next_11 rfl (lv_at hl 0 rfl) ?_
        obtain ⟨v22, hv22, hf⟩ := x_ob hf
        refine xr_getR (ci := 7) (k := 5) S G hv22 rfl kw_240 dX7_next_12 ?_
        refine lv_aload_n hx hb dX7_next_15 rfl (lv_at hl 0 rfl) ?_
        obtain ⟨v23, hv23, hf⟩ := x_ob hf
        refine xr_getI (ci := 7) (k := 8) S G hv23 rfl kw_243 dX7_next_16 ?_
        obtain ⟨v24, hv24, hf⟩ := x_ob hf
        refine xr_bald S G hv24 dX7_next_19 ?_
        refine lv_bipush (v := (10 : Int32)) hx hb dX7_next_20 (by decide) ?_
        refine lv_icmp_eq (tgt := 39) hx hb dX7_next_22 (by decide) (fun c => ?_) (fun c => ?_)
        · have hf := x_pos c hf
          exact K39 _ hrec0 q0 d hf _ _ ls (lv_sub hl [0] rfl) G
        · have hf := x_neg c hf
          refine lv_aload_n hx hb dX7_next_25 rfl (lv_at hl 0 rfl) ?_
          obtain ⟨v25, hv25, hf⟩ := x_ob hf
          refine xr_getR (ci := 7) (k := 5) S G hv25 rfl kw_240 dX7_next_26 ?_
          refine lv_aload_n hx hb dX7_next_29 rfl (lv_at hl 0 rfl) ?_
          obtain ⟨v26, hv26, hf⟩ := x_ob hf
          refine xr_getI (ci := 7) (k := 8) S G hv26 rfl kw_243 dX7_next_30 ?_
          obtain ⟨v27, hv27, hf⟩ := x_ob hf
          refine xr_bald S G hv27 dX7_next_33 ?_
          refine lv_bipush (v := (32 : Int32)) hx hb dX7_next_34 (by decide) ?_
          refine lv_icmp_ne (tgt := 52) hx hb dX7_next_36 (by decide) (fun c => ?_) (fun c => ?_)
          · have hf := x_neg c hf
            exact K52 q0 d hf _ _ ls (lv_sub hl [0] rfl) G
          · have hf := x_pos c hf
            exact K39 _ hrec0 q0 d hf _ _ ls (lv_sub hl [0] rfl) G
  unfold f_X7_next at hf
  exact K0 xF q0 d hf _ _ ls (lv_sub hl [0] rfl) G
-- HalfLandings$LawReader.read(LHalfLandings$Laws;)Z
theorem dX0_read_0 : decode cX0_read 0 = .ok (.aload_n 0, 1) := by decide +kernel
theorem dX0_read_1 : decode cX0_read 1 = .ok (.iconst 0, 1) := by decide +kernel
theorem dX0_read_2 : decode cX0_read 2 = .ok (.putfield 15, 3) := by decide +kernel
theorem dX0_read_5 : decode cX0_read 5 = .ok (.aload_n 0, 1) := by decide +kernel
theorem dX0_read_6 : decode cX0_read 6 = .ok (.iconst 0, 1) := by decide +kernel
theorem dX0_read_7 : decode cX0_read 7 = .ok (.putfield 19, 3) := by decide +kernel
theorem dX0_read_10 : decode cX0_read 10 = .ok (.aload_n 0, 1) := by decide +kernel
theorem dX0_read_11 : decode cX0_read 11 = .ok (.iconst 1, 1) := by decide +kernel
theorem dX0_read_12 : decode cX0_read 12 = .ok (.putfield 22, 3) := by decide +kernel
theorem dX0_read_15 : decode cX0_read 15 = .ok (.aload_n 0, 1) := by decide +kernel
theorem dX0_read_16 : decode cX0_read 16 = .ok (.iconst 1, 1) := by decide +kernel
theorem dX0_read_17 : decode cX0_read 17 = .ok (.putfield 26, 3) := by decide +kernel
theorem dX0_read_20 : decode cX0_read 20 = .ok (.iconst 0, 1) := by decide +kernel
theorem dX0_read_21 : decode cX0_read 21 = .ok (.istore_n 2, 1) := by decide +kernel
theorem dX0_read_22 : decode cX0_read 22 = .ok (.iload_n 2, 1) := by decide +kernel
theorem dX0_read_23 : decode cX0_read 23 = .ok (.sipush 700, 3) := by decide +kernel
theorem dX0_read_26 : decode cX0_read 26 = .ok (.if_icmp .gt 78, 3) := by decide +kernel
theorem dX0_read_29 : decode cX0_read 29 = .ok (.aload_n 0, 1) := by decide +kernel
theorem dX0_read_30 : decode cX0_read 30 = .ok (.getfield 22, 3) := by decide +kernel
theorem dX0_read_33 : decode cX0_read 33 = .ok (.ifCond .ne 30, 3) := by decide +kernel
theorem dX0_read_36 : decode cX0_read 36 = .ok (.aload_n 0, 1) := by decide +kernel
theorem dX0_read_37 : decode cX0_read 37 = .ok (.getfield 19, 3) := by decide +kernel
theorem dX0_read_40 : decode cX0_read 40 = .ok (.ifCond .ne 23, 3) := by decide +kernel
theorem dX0_read_43 : decode cX0_read 43 = .ok (.aload_n 0, 1) := by decide +kernel
theorem dX0_read_44 : decode cX0_read 44 = .ok (.getfield 29, 3) := by decide +kernel
theorem dX0_read_47 : decode cX0_read 47 = .ok (.getfield 33, 3) := by decide +kernel
theorem dX0_read_50 : decode cX0_read 50 = .ok (.bipush 23, 2) := by decide +kernel
theorem dX0_read_52 : decode cX0_read 52 = .ok (.if_icmp .ne 11, 3) := by decide +kernel
theorem dX0_read_55 : decode cX0_read 55 = .ok (.aload_n 0, 1) := by decide +kernel
theorem dX0_read_56 : decode cX0_read 56 = .ok (.aload_n 1, 1) := by decide +kernel
theorem dX0_read_57 : decode cX0_read 57 = .ok (.iconst 1, 1) := by decide +kernel
theorem dX0_read_58 : decode cX0_read 58 = .ok (.invokevirtual 38, 3) := by decide +kernel
theorem dX0_read_61 : decode cX0_read 61 = .ok (.iconst 1, 1) := by decide +kernel
theorem dX0_read_62 : decode cX0_read 62 = .ok (.ireturn, 1) := by decide +kernel
theorem dX0_read_63 : decode cX0_read 63 = .ok (.aload_n 0, 1) := by decide +kernel
theorem dX0_read_64 : decode cX0_read 64 = .ok (.getfield 22, 3) := by decide +kernel
theorem dX0_read_67 : decode cX0_read 67 = .ok (.ifCond .eq 14, 3) := by decide +kernel
theorem dX0_read_70 : decode cX0_read 70 = .ok (.aload_n 0, 1) := by decide +kernel
theorem dX0_read_71 : decode cX0_read 71 = .ok (.aload_n 1, 1) := by decide +kernel
theorem dX0_read_72 : decode cX0_read 72 = .ok (.invokevirtual 42, 3) := by decide +kernel
theorem dX0_read_75 : decode cX0_read 75 = .ok (.ifCond .eq 14, 3) := by decide +kernel
theorem dX0_read_78 : decode cX0_read 78 = .ok (.goto 13, 3) := by decide +kernel
theorem dX0_read_81 : decode cX0_read 81 = .ok (.aload_n 0, 1) := by decide +kernel
theorem dX0_read_82 : decode cX0_read 82 = .ok (.aload_n 1, 1) := by decide +kernel
theorem dX0_read_83 : decode cX0_read 83 = .ok (.invokevirtual 46, 3) := by decide +kernel
theorem dX0_read_86 : decode cX0_read 86 = .ok (.ifCond .ne 5, 3) := by decide +kernel
theorem dX0_read_89 : decode cX0_read 89 = .ok (.iconst 0, 1) := by decide +kernel
theorem dX0_read_90 : decode cX0_read 90 = .ok (.ireturn, 1) := by decide +kernel
theorem dX0_read_91 : decode cX0_read 91 = .ok (.aload_n 0, 1) := by decide +kernel
theorem dX0_read_92 : decode cX0_read 92 = .ok (.getfield 29, 3) := by decide +kernel
theorem dX0_read_95 : decode cX0_read 95 = .ok (.invokevirtual 49, 3) := by decide +kernel
theorem dX0_read_98 : decode cX0_read 98 = .ok (.iinc 2 1, 3) := by decide +kernel
theorem dX0_read_101 : decode cX0_read 101 = .ok (.goto (-79), 3) := by decide +kernel
theorem dX0_read_104 : decode cX0_read 104 = .ok (.iconst 0, 1) := by decide +kernel
theorem dX0_read_105 : decode cX0_read 105 = .ok (.ireturn, 1) := by decide +kernel
theorem hd_X0_read : yX0_read.cls = xCn 0 ∧ yX0_read.cls ≠ "java/lang/invoke/MethodHandle" ∧ yX0_read.cls ≠ "java/lang/invoke/VarHandle" ∧ (parseMethodDescriptor yX0_read.desc).map (fun d => d.parameters.length) = some 1 := by decide +kernel
def k_X0_read_104 (sh : List xSh) (d : xD) : Option (Int32 × xD) :=
  some ((0 : Int32), d)
def k_X0_read_91 (sh : List xSh) (rec22 : Nat → Nat → Int32 → xD → Option (Int32 × xD)) (q0 : Nat) (q1 : Nat) (x2 : Int32) (d : xD) : Option (Int32 × xD) :=
  (xgR 0 sh d q0 0).bind fun v1 => (xon 7 sh v1 (f_X7_next sh v1 d)).bind fun d2 => rec22 q0 q1 (x2 + 1) d2
def k_X0_read_89 (sh : List xSh) (d : xD) : Option (Int32 × xD) :=
  some ((0 : Int32), d)
def k_X0_read_63 (sh : List xSh) (rec22 : Nat → Nat → Int32 → xD → Option (Int32 × xD)) (q0 : Nat) (q1 : Nat) (x2 : Int32) (d : xD) : Option (Int32 × xD) :=
  (xgI 0 sh d q0 4).bind fun v3 => if v3 = 0 then ((xon 0 sh q0 (f_X0_readSign sh q0 q1 d)).bind fun z4 => if z4.1 = 0 then (k_X0_read_89 sh z4.2) else (k_X0_read_91 sh rec22 q0 q1 x2 z4.2)) else ((xon 0 sh q0 (f_X0_readValue sh q0 q1 d)).bind fun z5 => if z5.1 = 0 then (k_X0_read_89 sh z5.2) else (k_X0_read_91 sh rec22 q0 q1 x2 z5.2))
def k_X0_read_55 (sh : List xSh) (q0 : Nat) (q1 : Nat) (d : xD) : Option (Int32 × xD) :=
  (xon 0 sh q0 (f_X0_release sh q0 q1 (1 : Int32) d)).bind fun d6 => some ((1 : Int32), d6)
def b_X0_read_22 (sh : List xSh) (rec22 : Nat → Nat → Int32 → xD → Option (Int32 × xD)) (q0 : Nat) (q1 : Nat) (x2 : Int32) (d : xD) : Option (Int32 × xD) :=
  if (700 : Int32) < x2 then (k_X0_read_104 sh d) else ((xgI 0 sh d q0 4).bind fun v7 => if v7 = 0 then ((xgI 0 sh d q0 3).bind fun v8 => if v8 = 0 then ((xgR 0 sh d q0 0).bind fun v9 => (xgI 7 sh d v9 0).bind fun v10 => if v10 = (23 : Int32) then (k_X0_read_55 sh q0 q1 d) else (k_X0_read_63 sh rec22 q0 q1 x2 d)) else (k_X0_read_63 sh rec22 q0 q1 x2 d)) else (k_X0_read_63 sh rec22 q0 q1 x2 d))
def f_X0_read (sh : List xSh) (q0 : Nat) (q1 : Nat) (d : xD) : Option (Int32 × xD) :=
  (xpI 0 sh d q0 2 (0 : Int32)).bind fun d11 => (xpI 0 sh d11 q0 3 (0 : Int32)).bind fun d12 => (xpI 0 sh d12 q0 4 (1 : Int32)).bind fun d13 => (xpI 0 sh d13 q0 5 (1 : Int32)).bind fun d14 => xloop (fun _ _ _ _ => none) (b_X0_read_22 sh) xF q0 q1 (0 : Int32) d14
set_option maxHeartbeats 4000000 in
set_option maxRecDepth 100000 in
theorem mt_X0_read (l : Launch) (D : va_G) (cid : FieldType → ClassId) (b : Nat) (ex : Bool) (sa sv B0 : Nat) (sh : List xSh) (q0 : Nat) (q1 : Nat) (d : xD) (r : Int32) (dz : xD) (hf : f_X0_read sh q0 q1 d = some (r, dz)) : xMet l yX0_read cX0_read 3 (some .boolean) 3 0 0 D cid b ex sa sv B0 [.ref (b + q0), .ref (b + q1)] sh d (some (.int r)) sh dz := by
  refine xMet.of (by decide) (Nat.le_of_ble_eq_true rfl) ?_
  intro p e s m below meth c ls A S hr hin G hl
  have hl : lv_has ls 3 [(0, .ref (b + q0)), (1, .ref (b + q1))] := hl
  generalize ([.ref (b + q0), .ref (b + q1)] : List Value).toArray = av at S ⊢
  have hx := S.1
  have hb := S.2.1
  have hml := S.2.2.1
  have hown := S.2.2.2.1
  have hts := S.2.2.2.2.1
  have K104 : ∀ (d : xD), k_X0_read_104 sh d = some (r, dz) → ∀ (H : Heap) (locs : List Loc) (ls : Array Slot), lv_has ls 3 [] → xG D cid b A sh d s H locs → W p l e (xRm 3 0 0) s m av below meth c H locs 0 0 (MQ below (xQ D cid b ex A (some (.int r)) sh dz) av s 0 0 A) (F0 m 104 ls []) := by
    intro d hf H locs ls hl G
    unfold k_X0_read_104 at hf
    refine lv_iconst (v := (0 : Int32)) hx hb dX0_read_104 (by decide) ?_
    cases hf
    exact xr_zret S G (fun _ => rfl) hr (by decide) dX0_read_105
  have K91 : ∀ (rec22 : Nat → Nat → Int32 → xD → Option (Int32 × xD)) (hrec22 : ∀ (q0 : Nat) (q1 : Nat) (x2 : Int32) (d : xD), rec22 q0 q1 x2 d = some (r, dz) → ∀ (H : Heap) (locs : List Loc) (ls : Array Slot), lv_has ls 3 [(0, .ref (b + q0)), (1, .ref (b + q1)), (2, .int x2)] → xG D cid b A sh d s H locs → W p l e (xRm 3 0 0) s m av below meth c H locs 0 0 (MQ below (xQ D cid b ex A (some (.int r)) sh dz) av s 0 0 A) (F0 m 22 ls [])) (q0 : Nat) (q1 : Nat) (x2 : Int32) (d : xD), k_X0_read_91 sh rec22 q0 q1 x2 d = some (r, dz) → ∀ (H : Heap) (locs : List Loc) (ls : Array Slot), lv_has ls 3 [(0, .ref (b + q0)), (1, .ref (b + q1)), (2, .int x2)] → xG D cid b A sh d s H locs → W p l e (xRm 3 0 0) s m av below meth c H locs 0 0 (MQ below (xQ D cid b ex A (some (.int r)) sh dz) av s 0 0 A) (F0 m 91 ls []) := by
    intro rec22 hrec22 q0 q1 x2 d hf H locs ls hl G
    unfold k_X0_read_91 at hf
    refine lv_aload_n hx hb dX0_read_91 rfl (lv_at hl 0 rfl) ?_
    obtain ⟨v1, hv1, hf⟩ := x_ob hf
    refine xr_getR (ci := 0) (k := 0) S G hv1 rfl kw_275 dX0_read_92 ?_
    obtain ⟨d2, hd2, hf⟩ := x_ob hf
    obtain ⟨hqd2, hd2⟩ := xon_of hd2
    refine xr_callV (ci := 7) (As := []) (rest := []) (st1 := []) S G hl.1 (fun _ => rfl) (mt_X7_next l D cid b ex sa sv B0 sh v1 d _ hd2) hqd2 (by decide) kw_705 kw_559 kw_560 kw_5 kw_561 hd_X7_next ⟨Nat.le_of_ble_eq_true rfl, Nat.le_of_ble_eq_true rfl⟩ rfl rfl rfl (Nat.le_of_ble_eq_true rfl) ⟨Nat.le_of_ble_eq_true rfl, Nat.le_of_ble_eq_true rfl⟩ dX0_read_95 (fun H locs G => ?_)
    refine lv_iinc (v := (x2 + 1)) (lv' := [(2, .int (x2 + 1)), (0, .ref (b + q0)), (1, .ref (b + q1))]) hx hb dX0_read_98 hl (k := 2) rfl rfl (by decide) rfl (fun ls hl => ?_)
    refine lv_goto (tgt := 22) hx hb dX0_read_101 (by decide) ?_
    exact hrec22 q0 q1 (x2 + 1) d2 hf _ _ ls (lv_sub hl [1, 2, 0] rfl) G
  have K89 : ∀ (d : xD), k_X0_read_89 sh d = some (r, dz) → ∀ (H : Heap) (locs : List Loc) (ls : Array Slot), lv_has ls 3 [] → xG D cid b A sh d s H locs → W p l e (xRm 3 0 0) s m av below meth c H locs 0 0 (MQ below (xQ D cid b ex A (some (.int r)) sh dz) av s 0 0 A) (F0 m 89 ls []) := by
    intro d hf H locs ls hl G
    unfold k_X0_read_89 at hf
    refine lv_iconst (v := (0 : Int32)) hx hb dX0_read_89 (by decide) ?_
    cases hf
    exact xr_zret S G (fun _ => rfl) hr (by decide) dX0_read_90
  have K63 : ∀ (rec22 : Nat → Nat → Int32 → xD → Option (Int32 × xD)) (hrec22 : ∀ (q0 : Nat) (q1 : Nat) (x2 : Int32) (d : xD), rec22 q0 q1 x2 d = some (r, dz) → ∀ (H : Heap) (locs : List Loc) (ls : Array Slot), lv_has ls 3 [(0, .ref (b + q0)), (1, .ref (b + q1)), (2, .int x2)] → xG D cid b A sh d s H locs → W p l e (xRm 3 0 0) s m av below meth c H locs 0 0 (MQ below (xQ D cid b ex A (some (.int r)) sh dz) av s 0 0 A) (F0 m 22 ls [])) (q0 : Nat) (q1 : Nat) (x2 : Int32) (d : xD), k_X0_read_63 sh rec22 q0 q1 x2 d = some (r, dz) → ∀ (H : Heap) (locs : List Loc) (ls : Array Slot), lv_has ls 3 [(0, .ref (b + q0)), (1, .ref (b + q1)), (2, .int x2)] → xG D cid b A sh d s H locs → W p l e (xRm 3 0 0) s m av below meth c H locs 0 0 (MQ below (xQ D cid b ex A (some (.int r)) sh dz) av s 0 0 A) (F0 m 63 ls []) := by
    intro rec22 hrec22 q0 q1 x2 d hf H locs ls hl G
    unfold k_X0_read_63 at hf
    refine lv_aload_n hx hb dX0_read_63 rfl (lv_at hl 0 rfl) ?_
    obtain ⟨v3, hv3, hf⟩ := x_ob hf
    refine xr_getI (ci := 0) (k := 4) S G hv3 rfl kw_279 dX0_read_64 ?_
    refine lv_if_eq (tgt := 81) hx hb dX0_read_67 (by decide) (fun c => ?_) (fun c => ?_)
    · have hf := x_pos c hf
      refine lv_aload_n hx hb dX0_read_81 rfl (lv_at hl 0 rfl) ?_
      refine lv_aload_n hx hb dX0_read_82 rfl (lv_at hl 1 rfl) ?_
      obtain ⟨z4, hz4, hf⟩ := x_ob hf
      obtain ⟨hqz4, hz4⟩ := xon_of hz4
      refine xr_callV (ci := 0) (As := [.ref (b + q1)]) (rest := []) (st1 := [.int z4.1]) S G hl.1 (fun _ => rfl) (mt_X0_readSign l D cid b ex sa sv B0 sh q0 q1 d _ _ hz4) hqz4 (by decide) kw_701 kw_703 ks_21 kw_11 kw_704 hd_X0_readSign ⟨Nat.le_of_ble_eq_true rfl, Nat.le_of_ble_eq_true rfl⟩ rfl rfl rfl (Nat.le_of_ble_eq_true rfl) ⟨Nat.le_of_ble_eq_true rfl, Nat.le_of_ble_eq_true rfl⟩ dX0_read_83 (fun H locs G => ?_)
      refine lv_if_ne (tgt := 91) hx hb dX0_read_86 (by decide) (fun c => ?_) (fun c => ?_)
      · have hf := x_neg c hf
        exact K91 _ hrec22 q0 q1 x2 z4.2 hf _ _ ls (lv_sub hl [0, 1, 2] rfl) G
      · have hf := x_pos c hf
        exact K89 z4.2 hf _ _ ls (lv_sub hl [] rfl) G
    · have hf := x_neg c hf
      refine lv_aload_n hx hb dX0_read_70 rfl (lv_at hl 0 rfl) ?_
      refine lv_aload_n hx hb dX0_read_71 rfl (lv_at hl 1 rfl) ?_
      obtain ⟨z5, hz5, hf⟩ := x_ob hf
      obtain ⟨hqz5, hz5⟩ := xon_of hz5
      refine xr_callV (ci := 0) (As := [.ref (b + q1)]) (rest := []) (st1 := [.int z5.1]) S G hl.1 (fun _ => rfl) (mt_X0_readValue l D cid b ex sa sv B0 sh q0 q1 d _ _ hz5) hqz5 (by decide) kw_688 kw_690 ks_18 kw_11 kw_691 hd_X0_readValue ⟨Nat.le_of_ble_eq_true rfl, Nat.le_of_ble_eq_true rfl⟩ rfl rfl rfl (Nat.le_of_ble_eq_true rfl) ⟨Nat.le_of_ble_eq_true rfl, Nat.le_of_ble_eq_true rfl⟩ dX0_read_72 (fun H locs G => ?_)
      refine lv_if_eq (tgt := 89) hx hb dX0_read_75 (by decide) (fun c => ?_) (fun c => ?_)
      · have hf := x_pos c hf
        exact K89 z5.2 hf _ _ ls (lv_sub hl [] rfl) G
      · have hf := x_neg c hf
        refine lv_goto (tgt := 91) hx hb dX0_read_78 (by decide) ?_
        exact K91 _ hrec22 q0 q1 x2 z5.2 hf _ _ ls (lv_sub hl [0, 1, 2] rfl) G
  have K55 : ∀ (q0 : Nat) (q1 : Nat) (d : xD), k_X0_read_55 sh q0 q1 d = some (r, dz) → ∀ (H : Heap) (locs : List Loc) (ls : Array Slot), lv_has ls 3 [(0, .ref (b + q0)), (1, .ref (b + q1))] → xG D cid b A sh d s H locs → W p l e (xRm 3 0 0) s m av below meth c H locs 0 0 (MQ below (xQ D cid b ex A (some (.int r)) sh dz) av s 0 0 A) (F0 m 55 ls []) := by
    intro q0 q1 d hf H locs ls hl G
    unfold k_X0_read_55 at hf
    refine lv_aload_n hx hb dX0_read_55 rfl (lv_at hl 0 rfl) ?_
    refine lv_aload_n hx hb dX0_read_56 rfl (lv_at hl 1 rfl) ?_
    refine lv_iconst (v := (1 : Int32)) hx hb dX0_read_57 (by decide) ?_
    obtain ⟨d6, hd6, hf⟩ := x_ob hf
    obtain ⟨hqd6, hd6⟩ := xon_of hd6
    refine xr_callV (ci := 0) (As := [.ref (b + q1), .int (1 : Int32)]) (rest := []) (st1 := []) S G hl.1 (fun _ => rfl) (mt_X0_release l D cid b ex sa sv B0 sh q0 q1 (1 : Int32) d _ hd6) hqd6 (by decide) kw_677 kw_679 ks_17 kw_11 kw_680 hd_X0_release ⟨Nat.le_of_ble_eq_true rfl, Nat.le_of_ble_eq_true rfl⟩ rfl rfl rfl (Nat.le_of_ble_eq_true rfl) ⟨Nat.le_of_ble_eq_true rfl, Nat.le_of_ble_eq_true rfl⟩ dX0_read_58 (fun H locs G => ?_)
    refine lv_iconst (v := (1 : Int32)) hx hb dX0_read_61 (by decide) ?_
    cases hf
    exact xr_zret S G (fun _ => rfl) hr (by decide) dX0_read_62
  have K22 : ∀ (n : Nat) (q0 : Nat) (q1 : Nat) (x2 : Int32) (d : xD), xloop (fun _ _ _ _ => none) (b_X0_read_22 sh) n q0 q1 x2 d = some (r, dz) → ∀ (H : Heap) (locs : List Loc) (ls : Array Slot), lv_has ls 3 [(0, .ref (b + q0)), (1, .ref (b + q1)), (2, .int x2)] → xG D cid b A sh d s H locs → W p l e (xRm 3 0 0) s m av below meth c H locs 0 0 (MQ below (xQ D cid b ex A (some (.int r)) sh dz) av s 0 0 A) (F0 m 22 ls []) := by
    intro n
    induction n with
    | zero =>
      intro q0 q1 x2 d hf
      have hf : (none : Option (Int32 × xD)) = some (r, dz) := hf
      cases hf
    | succ n hrec22 =>
      intro q0 q1 x2 d hf H locs ls hl G
      have hf : b_X0_read_22 sh (xloop (fun _ _ _ _ => none) (b_X0_read_22 sh) n) q0 q1 x2 d = some (r, dz) := hf
      unfold b_X0_read_22 at hf
      refine lv_iload_n hx hb dX0_read_22 rfl (lv_at hl 2 rfl) ?_
      refine lv_sipush (v := (700 : Int32)) hx hb dX0_read_23 (by decide) ?_
      refine lv_icmp_gt (tgt := 104) hx hb dX0_read_26 (by decide) (fun c => ?_) (fun c => ?_)
      · have hf := x_pos c hf
        exact K104 d hf _ _ ls (lv_sub hl [] rfl) G
      · have hf := x_neg c hf
        refine lv_aload_n hx hb dX0_read_29 rfl (lv_at hl 0 rfl) ?_
        obtain ⟨v7, hv7, hf⟩ := x_ob hf
        refine xr_getI (ci := 0) (k := 4) S G hv7 rfl kw_279 dX0_read_30 ?_
        refine lv_if_ne (tgt := 63) hx hb dX0_read_33 (by decide) (fun c => ?_) (fun c => ?_)
        · have hf := x_neg c hf
          exact K63 _ hrec22 q0 q1 x2 d hf _ _ ls (lv_sub hl [0, 1, 2] rfl) G
        · have hf := x_pos c hf
          refine lv_aload_n hx hb dX0_read_36 rfl (lv_at hl 0 rfl) ?_
          obtain ⟨v8, hv8, hf⟩ := x_ob hf
          refine xr_getI (ci := 0) (k := 3) S G hv8 rfl kw_278 dX0_read_37 ?_
          refine lv_if_ne (tgt := 63) hx hb dX0_read_40 (by decide) (fun c => ?_) (fun c => ?_)
          · have hf := x_neg c hf
            exact K63 _ hrec22 q0 q1 x2 d hf _ _ ls (lv_sub hl [0, 1, 2] rfl) G
          · have hf := x_pos c hf
            refine lv_aload_n hx hb dX0_read_43 rfl (lv_at hl 0 rfl) ?_
            obtain ⟨v9, hv9, hf⟩ := x_ob hf
            refine xr_getR (ci := 0) (k := 0) S G hv9 rfl kw_275 dX0_read_44 ?_
            obtain ⟨v10, hv10, hf⟩ := x_ob hf
            refine xr_getI (ci := 7) (k := 0) S G hv10 rfl kw_231 dX0_read_47 ?_
            refine lv_bipush (v := (23 : Int32)) hx hb dX0_read_50 (by decide) ?_
            refine lv_icmp_ne (tgt := 63) hx hb dX0_read_52 (by decide) (fun c => ?_) (fun c => ?_)
            · have hf := x_neg c hf
              exact K63 _ hrec22 q0 q1 x2 d hf _ _ ls (lv_sub hl [0, 1, 2] rfl) G
            · have hf := x_pos c hf
              exact K55 q0 q1 d hf _ _ ls (lv_sub hl [0, 1] rfl) G
  unfold f_X0_read at hf
  refine lv_aload_n hx hb dX0_read_0 rfl (lv_at hl 0 rfl) ?_
  refine lv_iconst (v := (0 : Int32)) hx hb dX0_read_1 (by decide) ?_
  obtain ⟨d11, hd11, hf⟩ := x_ob hf
  refine xr_putI (ci := 0) (k := 2) S G hd11 rfl kw_277 dX0_read_2 (fun H locs G => ?_)
  refine lv_aload_n hx hb dX0_read_5 rfl (lv_at hl 0 rfl) ?_
  refine lv_iconst (v := (0 : Int32)) hx hb dX0_read_6 (by decide) ?_
  obtain ⟨d12, hd12, hf⟩ := x_ob hf
  refine xr_putI (ci := 0) (k := 3) S G hd12 rfl kw_278 dX0_read_7 (fun H locs G => ?_)
  refine lv_aload_n hx hb dX0_read_10 rfl (lv_at hl 0 rfl) ?_
  refine lv_iconst (v := (1 : Int32)) hx hb dX0_read_11 (by decide) ?_
  obtain ⟨d13, hd13, hf⟩ := x_ob hf
  refine xr_putI (ci := 0) (k := 4) S G hd13 rfl kw_279 dX0_read_12 (fun H locs G => ?_)
  refine lv_aload_n hx hb dX0_read_15 rfl (lv_at hl 0 rfl) ?_
  refine lv_iconst (v := (1 : Int32)) hx hb dX0_read_16 (by decide) ?_
  obtain ⟨d14, hd14, hf⟩ := x_ob hf
  refine xr_putI (ci := 0) (k := 5) S G hd14 rfl kw_280 dX0_read_17 (fun H locs G => ?_)
  refine lv_iconst (v := (0 : Int32)) hx hb dX0_read_20 (by decide) ?_
  refine lv_istore_n (lv' := [(2, .int (0 : Int32)), (0, .ref (b + q0)), (1, .ref (b + q1))]) hx hb dX0_read_21 rfl hl (by decide) rfl (fun ls hl => ?_)
  exact K22 xF q0 q1 (0 : Int32) d14 hf _ _ ls (lv_sub hl [1, 2, 0] rfl) G
-- HalfLandings$Laws.clear()V
theorem dX1_clear_0 : decode cX1_clear 0 = .ok (.aload_n 0, 1) := by decide +kernel
theorem dX1_clear_1 : decode cX1_clear 1 = .ok (.iconst 0, 1) := by decide +kernel
theorem dX1_clear_2 : decode cX1_clear 2 = .ok (.putfield 9, 3) := by decide +kernel
theorem dX1_clear_5 : decode cX1_clear 5 = .ok (.aload_n 0, 1) := by decide +kernel
theorem dX1_clear_6 : decode cX1_clear 6 = .ok (.iconst 0, 1) := by decide +kernel
theorem dX1_clear_7 : decode cX1_clear 7 = .ok (.putfield 15, 3) := by decide +kernel
theorem dX1_clear_10 : decode cX1_clear 10 = .ok (.aload_n 0, 1) := by decide +kernel
theorem dX1_clear_11 : decode cX1_clear 11 = .ok (.iconst 0, 1) := by decide +kernel
theorem dX1_clear_12 : decode cX1_clear 12 = .ok (.putfield 25, 3) := by decide +kernel
theorem dX1_clear_15 : decode cX1_clear 15 = .ok (.return_, 1) := by decide +kernel
theorem hd_X1_clear : yX1_clear.cls = xCn 1 ∧ yX1_clear.cls ≠ "java/lang/invoke/MethodHandle" ∧ yX1_clear.cls ≠ "java/lang/invoke/VarHandle" ∧ (parseMethodDescriptor yX1_clear.desc).map (fun d => d.parameters.length) = some 0 := by decide +kernel
def f_X1_clear (sh : List xSh) (q0 : Nat) (d : xD) : Option xD :=
  (xpI 1 sh d q0 0 (0 : Int32)).bind fun d1 => (xpI 1 sh d1 q0 1 (0 : Int32)).bind fun d2 => (xpI 1 sh d2 q0 4 (0 : Int32)).bind fun d3 => some d3
set_option maxHeartbeats 4000000 in
set_option maxRecDepth 100000 in
theorem mt_X1_clear (l : Launch) (D : va_G) (cid : FieldType → ClassId) (b : Nat) (ex : Bool) (sa sv B0 : Nat) (sh : List xSh) (q0 : Nat) (d : xD) (dz : xD) (hf : f_X1_clear sh q0 d = some dz) : xMet l yX1_clear cX1_clear 1 none 0 0 0 D cid b ex sa sv B0 [.ref (b + q0)] sh d none sh dz := by
  refine xMet.of (by decide) (Nat.le_of_ble_eq_true rfl) ?_
  intro p e s m below meth c ls A S hr hin G hl
  have hl : lv_has ls 1 [(0, .ref (b + q0))] := hl
  generalize ([.ref (b + q0)] : List Value).toArray = av at S ⊢
  have hx := S.1
  have hb := S.2.1
  have hml := S.2.2.1
  have hown := S.2.2.2.1
  have hts := S.2.2.2.2.1
  unfold f_X1_clear at hf
  refine lv_aload_n hx hb dX1_clear_0 rfl (lv_at hl 0 rfl) ?_
  refine lv_iconst (v := (0 : Int32)) hx hb dX1_clear_1 (by decide) ?_
  obtain ⟨d1, hd1, hf⟩ := x_ob hf
  refine xr_putI (ci := 1) (k := 0) S G hd1 rfl kw_45 dX1_clear_2 (fun H locs G => ?_)
  refine lv_aload_n hx hb dX1_clear_5 rfl (lv_at hl 0 rfl) ?_
  refine lv_iconst (v := (0 : Int32)) hx hb dX1_clear_6 (by decide) ?_
  obtain ⟨d2, hd2, hf⟩ := x_ob hf
  refine xr_putI (ci := 1) (k := 1) S G hd2 rfl kw_48 dX1_clear_7 (fun H locs G => ?_)
  refine lv_aload_n hx hb dX1_clear_10 rfl (lv_at hl 0 rfl) ?_
  refine lv_iconst (v := (0 : Int32)) hx hb dX1_clear_11 (by decide) ?_
  obtain ⟨d3, hd3, hf⟩ := x_ob hf
  refine xr_putI (ci := 1) (k := 4) S G hd3 rfl kw_51 dX1_clear_12 (fun H locs G => ?_)
  cases hf
  exact xr_vret S G (fun _ => rfl) hr dX1_clear_15
-- HalfLandings$Laws.open(I)V
theorem dX1_open_0 : decode cX1_open 0 = .ok (.aload_n 0, 1) := by decide +kernel
theorem dX1_open_1 : decode cX1_open 1 = .ok (.getfield 28, 3) := by decide +kernel
theorem dX1_open_4 : decode cX1_open 4 = .ok (.iload_n 1, 1) := by decide +kernel
theorem dX1_open_5 : decode cX1_open 5 = .ok (.aload_n 0, 1) := by decide +kernel
theorem dX1_open_6 : decode cX1_open 6 = .ok (.getfield 15, 3) := by decide +kernel
theorem dX1_open_9 : decode cX1_open 9 = .ok (.iastore, 1) := by decide +kernel
theorem dX1_open_10 : decode cX1_open 10 = .ok (.return_, 1) := by decide +kernel
theorem hd_X1_open : yX1_open.cls = xCn 1 ∧ yX1_open.cls ≠ "java/lang/invoke/MethodHandle" ∧ yX1_open.cls ≠ "java/lang/invoke/VarHandle" ∧ (parseMethodDescriptor yX1_open.desc).map (fun d => d.parameters.length) = some 1 := by decide +kernel
def f_X1_open (sh : List xSh) (q0 : Nat) (x1 : Int32) (d : xD) : Option xD :=
  (xgR 1 sh d q0 5).bind fun v1 => (xgI 1 sh d q0 1).bind fun v2 => (xsI .int sh d v1 x1 v2).bind fun d3 => some d3
set_option maxHeartbeats 4000000 in
set_option maxRecDepth 100000 in
theorem mt_X1_open (l : Launch) (D : va_G) (cid : FieldType → ClassId) (b : Nat) (ex : Bool) (sa sv B0 : Nat) (sh : List xSh) (q0 : Nat) (x1 : Int32) (d : xD) (dz : xD) (hf : f_X1_open sh q0 x1 d = some dz) : xMet l yX1_open cX1_open 2 none 0 0 0 D cid b ex sa sv B0 [.ref (b + q0), .int x1] sh d none sh dz := by
  refine xMet.of (by decide) (Nat.le_of_ble_eq_true rfl) ?_
  intro p e s m below meth c ls A S hr hin G hl
  have hl : lv_has ls 2 [(0, .ref (b + q0)), (1, .int x1)] := hl
  generalize ([.ref (b + q0), .int x1] : List Value).toArray = av at S ⊢
  have hx := S.1
  have hb := S.2.1
  have hml := S.2.2.1
  have hown := S.2.2.2.1
  have hts := S.2.2.2.2.1
  unfold f_X1_open at hf
  refine lv_aload_n hx hb dX1_open_0 rfl (lv_at hl 0 rfl) ?_
  obtain ⟨v1, hv1, hf⟩ := x_ob hf
  refine xr_getR (ci := 1) (k := 5) S G hv1 rfl kw_52 dX1_open_1 ?_
  refine lv_iload_n hx hb dX1_open_4 rfl (lv_at hl 1 rfl) ?_
  refine lv_aload_n hx hb dX1_open_5 rfl (lv_at hl 0 rfl) ?_
  obtain ⟨v2, hv2, hf⟩ := x_ob hf
  refine xr_getI (ci := 1) (k := 1) S G hv2 rfl kw_48 dX1_open_6 ?_
  obtain ⟨d3, hd3, hf⟩ := x_ob hf
  refine xr_iast S G hd3 dX1_open_9 (fun H locs G => ?_)
  cases hf
  exact xr_vret S G (fun _ => rfl) hr dX1_open_10
-- HalfLandings$Laws.close(I)V
theorem dX1_close_0 : decode cX1_close 0 = .ok (.aload_n 0, 1) := by decide +kernel
theorem dX1_close_1 : decode cX1_close 1 = .ok (.getfield 31, 3) := by decide +kernel
theorem dX1_close_4 : decode cX1_close 4 = .ok (.iload_n 1, 1) := by decide +kernel
theorem dX1_close_5 : decode cX1_close 5 = .ok (.aload_n 0, 1) := by decide +kernel
theorem dX1_close_6 : decode cX1_close 6 = .ok (.getfield 15, 3) := by decide +kernel
theorem dX1_close_9 : decode cX1_close 9 = .ok (.iastore, 1) := by decide +kernel
theorem dX1_close_10 : decode cX1_close 10 = .ok (.aload_n 0, 1) := by decide +kernel
theorem dX1_close_11 : decode cX1_close 11 = .ok (.dup, 1) := by decide +kernel
theorem dX1_close_12 : decode cX1_close 12 = .ok (.getfield 25, 3) := by decide +kernel
theorem dX1_close_15 : decode cX1_close 15 = .ok (.iconst 1, 1) := by decide +kernel
theorem dX1_close_16 : decode cX1_close 16 = .ok (.iload_n 1, 1) := by decide +kernel
theorem dX1_close_17 : decode cX1_close 17 = .ok (.ishl, 1) := by decide +kernel
theorem dX1_close_18 : decode cX1_close 18 = .ok (.ior, 1) := by decide +kernel
theorem dX1_close_19 : decode cX1_close 19 = .ok (.putfield 25, 3) := by decide +kernel
theorem dX1_close_22 : decode cX1_close 22 = .ok (.return_, 1) := by decide +kernel
theorem hd_X1_close : yX1_close.cls = xCn 1 ∧ yX1_close.cls ≠ "java/lang/invoke/MethodHandle" ∧ yX1_close.cls ≠ "java/lang/invoke/VarHandle" ∧ (parseMethodDescriptor yX1_close.desc).map (fun d => d.parameters.length) = some 1 := by decide +kernel
def f_X1_close (sh : List xSh) (q0 : Nat) (x1 : Int32) (d : xD) : Option xD :=
  (xgR 1 sh d q0 6).bind fun v1 => (xgI 1 sh d q0 1).bind fun v2 => (xsI .int sh d v1 x1 v2).bind fun d3 => (xgI 1 sh d3 q0 4).bind fun v4 => (xpI 1 sh d3 q0 4 (v4 ||| ((1 : Int32) <<< (x1 &&& 31)))).bind fun d5 => some d5
set_option maxHeartbeats 4000000 in
set_option maxRecDepth 100000 in
theorem mt_X1_close (l : Launch) (D : va_G) (cid : FieldType → ClassId) (b : Nat) (ex : Bool) (sa sv B0 : Nat) (sh : List xSh) (q0 : Nat) (x1 : Int32) (d : xD) (dz : xD) (hf : f_X1_close sh q0 x1 d = some dz) : xMet l yX1_close cX1_close 2 none 0 0 0 D cid b ex sa sv B0 [.ref (b + q0), .int x1] sh d none sh dz := by
  refine xMet.of (by decide) (Nat.le_of_ble_eq_true rfl) ?_
  intro p e s m below meth c ls A S hr hin G hl
  have hl : lv_has ls 2 [(0, .ref (b + q0)), (1, .int x1)] := hl
  generalize ([.ref (b + q0), .int x1] : List Value).toArray = av at S ⊢
  have hx := S.1
  have hb := S.2.1
  have hml := S.2.2.1
  have hown := S.2.2.2.1
  have hts := S.2.2.2.2.1
  unfold f_X1_close at hf
  refine lv_aload_n hx hb dX1_close_0 rfl (lv_at hl 0 rfl) ?_
  obtain ⟨v1, hv1, hf⟩ := x_ob hf
  refine xr_getR (ci := 1) (k := 6) S G hv1 rfl kw_53 dX1_close_1 ?_
  refine lv_iload_n hx hb dX1_close_4 rfl (lv_at hl 1 rfl) ?_
  refine lv_aload_n hx hb dX1_close_5 rfl (lv_at hl 0 rfl) ?_
  obtain ⟨v2, hv2, hf⟩ := x_ob hf
  refine xr_getI (ci := 1) (k := 1) S G hv2 rfl kw_48 dX1_close_6 ?_
  obtain ⟨d3, hd3, hf⟩ := x_ob hf
  refine xr_iast S G hd3 dX1_close_9 (fun H locs G => ?_)
  refine lv_aload_n hx hb dX1_close_10 rfl (lv_at hl 0 rfl) ?_
  refine lv_dup hx hb dX1_close_11 rfl ?_
  obtain ⟨v4, hv4, hf⟩ := x_ob hf
  refine xr_getI (ci := 1) (k := 4) S G hv4 rfl kw_51 dX1_close_12 ?_
  refine lv_iconst (v := (1 : Int32)) hx hb dX1_close_15 (by decide) ?_
  refine lv_iload_n hx hb dX1_close_16 rfl (lv_at hl 1 rfl) ?_
  refine lv_ishl hx hb dX1_close_17 ?_
  refine lv_ior hx hb dX1_close_18 ?_
  obtain ⟨d5, hd5, hf⟩ := x_ob hf
  refine xr_putI (ci := 1) (k := 4) S G hd5 rfl kw_51 dX1_close_19 (fun H locs G => ?_)
  cases hf
  exact xr_vret S G (fun _ => rfl) hr dX1_close_22
-- HalfLandings$Laws.isTold(I)Z
theorem dX1_isTold_0 : decode cX1_isTold 0 = .ok (.aload_n 0, 1) := by decide +kernel
theorem dX1_isTold_1 : decode cX1_isTold 1 = .ok (.getfield 25, 3) := by decide +kernel
theorem dX1_isTold_4 : decode cX1_isTold 4 = .ok (.iload_n 1, 1) := by decide +kernel
theorem dX1_isTold_5 : decode cX1_isTold 5 = .ok (.ishr, 1) := by decide +kernel
theorem dX1_isTold_6 : decode cX1_isTold 6 = .ok (.iconst 1, 1) := by decide +kernel
theorem dX1_isTold_7 : decode cX1_isTold 7 = .ok (.iand, 1) := by decide +kernel
theorem dX1_isTold_8 : decode cX1_isTold 8 = .ok (.iconst 1, 1) := by decide +kernel
theorem dX1_isTold_9 : decode cX1_isTold 9 = .ok (.if_icmp .ne 7, 3) := by decide +kernel
theorem dX1_isTold_12 : decode cX1_isTold 12 = .ok (.iconst 1, 1) := by decide +kernel
theorem dX1_isTold_13 : decode cX1_isTold 13 = .ok (.goto 4, 3) := by decide +kernel
theorem dX1_isTold_16 : decode cX1_isTold 16 = .ok (.iconst 0, 1) := by decide +kernel
theorem dX1_isTold_17 : decode cX1_isTold 17 = .ok (.ireturn, 1) := by decide +kernel
theorem hd_X1_isTold : yX1_isTold.cls = xCn 1 ∧ yX1_isTold.cls ≠ "java/lang/invoke/MethodHandle" ∧ yX1_isTold.cls ≠ "java/lang/invoke/VarHandle" ∧ (parseMethodDescriptor yX1_isTold.desc).map (fun d => d.parameters.length) = some 1 := by decide +kernel
def k_X1_isTold_17 (sh : List xSh) (y0 : Int32) (d : xD) : Option (Int32 × xD) :=
  (xz y0).bind fun v1 => some (v1, d)
def f_X1_isTold (sh : List xSh) (q0 : Nat) (x1 : Int32) (d : xD) : Option (Int32 × xD) :=
  (xgI 1 sh d q0 4).bind fun v2 => if ((v2 >>> (x1 &&& 31)) &&& (1 : Int32)) = (1 : Int32) then (k_X1_isTold_17 sh (1 : Int32) d) else (k_X1_isTold_17 sh (0 : Int32) d)
set_option maxHeartbeats 4000000 in
set_option maxRecDepth 100000 in
theorem mt_X1_isTold (l : Launch) (D : va_G) (cid : FieldType → ClassId) (b : Nat) (ex : Bool) (sa sv B0 : Nat) (sh : List xSh) (q0 : Nat) (x1 : Int32) (d : xD) (r : Int32) (dz : xD) (hf : f_X1_isTold sh q0 x1 d = some (r, dz)) : xMet l yX1_isTold cX1_isTold 2 (some .boolean) 0 0 0 D cid b ex sa sv B0 [.ref (b + q0), .int x1] sh d (some (.int r)) sh dz := by
  refine xMet.of (by decide) (Nat.le_of_ble_eq_true rfl) ?_
  intro p e s m below meth c ls A S hr hin G hl
  have hl : lv_has ls 2 [(0, .ref (b + q0)), (1, .int x1)] := hl
  generalize ([.ref (b + q0), .int x1] : List Value).toArray = av at S ⊢
  have hx := S.1
  have hb := S.2.1
  have hml := S.2.2.1
  have hown := S.2.2.2.1
  have hts := S.2.2.2.2.1
  have K17 : ∀ (y0 : Int32) (d : xD), k_X1_isTold_17 sh y0 d = some (r, dz) → ∀ (H : Heap) (locs : List Loc) (ls : Array Slot), lv_has ls 2 [] → xG D cid b A sh d s H locs → W p l e (xRm 0 0 0) s m av below meth c H locs 0 0 (MQ below (xQ D cid b ex A (some (.int r)) sh dz) av s 0 0 A) (F0 m 17 ls [.int y0]) := by
    intro y0 d hf H locs ls hl G
    unfold k_X1_isTold_17 at hf
    obtain ⟨v1, hv1, hf⟩ := x_ob hf
    cases hf
    exact xr_zret S G (fun _ => rfl) hr hv1 dX1_isTold_17
  unfold f_X1_isTold at hf
  refine lv_aload_n hx hb dX1_isTold_0 rfl (lv_at hl 0 rfl) ?_
  obtain ⟨v2, hv2, hf⟩ := x_ob hf
  refine xr_getI (ci := 1) (k := 4) S G hv2 rfl kw_51 dX1_isTold_1 ?_
  refine lv_iload_n hx hb dX1_isTold_4 rfl (lv_at hl 1 rfl) ?_
  refine lv_ishr hx hb dX1_isTold_5 ?_
  refine lv_iconst (v := (1 : Int32)) hx hb dX1_isTold_6 (by decide) ?_
  refine lv_iand hx hb dX1_isTold_7 ?_
  refine lv_iconst (v := (1 : Int32)) hx hb dX1_isTold_8 (by decide) ?_
  refine lv_icmp_ne (tgt := 16) hx hb dX1_isTold_9 (by decide) (fun c => ?_) (fun c => ?_)
  · have hf := x_neg c hf
    refine lv_iconst (v := (0 : Int32)) hx hb dX1_isTold_16 (by decide) ?_
    exact K17 (0 : Int32) d hf _ _ ls (lv_sub hl [] rfl) G
  · have hf := x_pos c hf
    refine lv_iconst (v := (1 : Int32)) hx hb dX1_isTold_12 (by decide) ?_
    refine lv_goto (tgt := 17) hx hb dX1_isTold_13 (by decide) ?_
    exact K17 (1 : Int32) d hf _ _ ls (lv_sub hl [] rfl) G
-- HalfLandings$Laws.isTooLarge(JJ)Z
theorem dX1_isTooLarge_0 : decode cX1_isTooLarge 0 = .ok (.lload_n 0, 1) := by decide +kernel
theorem dX1_isTooLarge_1 : decode cX1_isTooLarge 1 = .ok (.lconst 0, 1) := by decide +kernel
theorem dX1_isTooLarge_2 : decode cX1_isTooLarge 2 = .ok (.lcmp, 1) := by decide +kernel
theorem dX1_isTooLarge_3 : decode cX1_isTooLarge 3 = .ok (.ifCond .ge 8, 3) := by decide +kernel
theorem dX1_isTooLarge_6 : decode cX1_isTooLarge 6 = .ok (.lload_n 0, 1) := by decide +kernel
theorem dX1_isTooLarge_7 : decode cX1_isTooLarge 7 = .ok (.lneg, 1) := by decide +kernel
theorem dX1_isTooLarge_8 : decode cX1_isTooLarge 8 = .ok (.goto 4, 3) := by decide +kernel
theorem dX1_isTooLarge_11 : decode cX1_isTooLarge 11 = .ok (.lload_n 0, 1) := by decide +kernel
theorem dX1_isTooLarge_12 : decode cX1_isTooLarge 12 = .ok (.lstore 4, 2) := by decide +kernel
theorem dX1_isTooLarge_14 : decode cX1_isTooLarge 14 = .ok (.lload_n 2, 1) := by decide +kernel
theorem dX1_isTooLarge_15 : decode cX1_isTooLarge 15 = .ok (.lconst 0, 1) := by decide +kernel
theorem dX1_isTooLarge_16 : decode cX1_isTooLarge 16 = .ok (.lcmp, 1) := by decide +kernel
theorem dX1_isTooLarge_17 : decode cX1_isTooLarge 17 = .ok (.ifCond .ge 8, 3) := by decide +kernel
theorem dX1_isTooLarge_20 : decode cX1_isTooLarge 20 = .ok (.lload_n 2, 1) := by decide +kernel
theorem dX1_isTooLarge_21 : decode cX1_isTooLarge 21 = .ok (.lneg, 1) := by decide +kernel
theorem dX1_isTooLarge_22 : decode cX1_isTooLarge 22 = .ok (.goto 4, 3) := by decide +kernel
theorem dX1_isTooLarge_25 : decode cX1_isTooLarge 25 = .ok (.lload_n 2, 1) := by decide +kernel
theorem dX1_isTooLarge_26 : decode cX1_isTooLarge 26 = .ok (.lstore 6, 2) := by decide +kernel
theorem dX1_isTooLarge_28 : decode cX1_isTooLarge 28 = .ok (.lload 4, 2) := by decide +kernel
theorem dX1_isTooLarge_30 : decode cX1_isTooLarge 30 = .ok (.lconst 0, 1) := by decide +kernel
theorem dX1_isTooLarge_31 : decode cX1_isTooLarge 31 = .ok (.lcmp, 1) := by decide +kernel
theorem dX1_isTooLarge_32 : decode cX1_isTooLarge 32 = .ok (.ifCond .eq 19, 3) := by decide +kernel
theorem dX1_isTooLarge_35 : decode cX1_isTooLarge 35 = .ok (.lload 6, 2) := by decide +kernel
theorem dX1_isTooLarge_37 : decode cX1_isTooLarge 37 = .ok (.ldc2_w 50, 3) := by decide +kernel
theorem dX1_isTooLarge_40 : decode cX1_isTooLarge 40 = .ok (.lload 4, 2) := by decide +kernel
theorem dX1_isTooLarge_42 : decode cX1_isTooLarge 42 = .ok (.ldiv, 1) := by decide +kernel
theorem dX1_isTooLarge_43 : decode cX1_isTooLarge 43 = .ok (.lcmp, 1) := by decide +kernel
theorem dX1_isTooLarge_44 : decode cX1_isTooLarge 44 = .ok (.ifCond .le 7, 3) := by decide +kernel
theorem dX1_isTooLarge_47 : decode cX1_isTooLarge 47 = .ok (.iconst 1, 1) := by decide +kernel
theorem dX1_isTooLarge_48 : decode cX1_isTooLarge 48 = .ok (.goto 4, 3) := by decide +kernel
theorem dX1_isTooLarge_51 : decode cX1_isTooLarge 51 = .ok (.iconst 0, 1) := by decide +kernel
theorem dX1_isTooLarge_52 : decode cX1_isTooLarge 52 = .ok (.ireturn, 1) := by decide +kernel
theorem hd_X1_isTooLarge : yX1_isTooLarge.cls ≠ "java/lang/invoke/MethodHandle" ∧ yX1_isTooLarge.cls ≠ "java/lang/invoke/VarHandle" ∧ (parseMethodDescriptor yX1_isTooLarge.desc).map (fun d => d.parameters.length) = some 2 := by decide +kernel
def k_X1_isTooLarge_52 (sh : List xSh) (y0 : Int32) (d : xD) : Option (Int32 × xD) :=
  (xz y0).bind fun v1 => some (v1, d)
def k_X1_isTooLarge_51 (sh : List xSh) (d : xD) : Option (Int32 × xD) :=
  k_X1_isTooLarge_52 sh (0 : Int32) d
def k_X1_isTooLarge_26 (sh : List xSh) (x4 : Int64) (y0 : Int64) (d : xD) : Option (Int32 × xD) :=
  if (lg_cmp x4 (0 : Int64)) = 0 then (k_X1_isTooLarge_51 sh d) else ((xdL (1000000000000 : Int64) x4).bind fun v2 => if (lg_cmp y0 v2) ≤ 0 then (k_X1_isTooLarge_51 sh d) else (k_X1_isTooLarge_52 sh (1 : Int32) d))
def k_X1_isTooLarge_12 (sh : List xSh) (x2 : Int64) (y0 : Int64) (d : xD) : Option (Int32 × xD) :=
  if 0 ≤ (lg_cmp x2 (0 : Int64)) then (k_X1_isTooLarge_26 sh y0 x2 d) else (k_X1_isTooLarge_26 sh y0 (-x2) d)
def f_X1_isTooLarge (sh : List xSh) (x0 : Int64) (x2 : Int64) (d : xD) : Option (Int32 × xD) :=
  if 0 ≤ (lg_cmp x0 (0 : Int64)) then (k_X1_isTooLarge_12 sh x2 x0 d) else (k_X1_isTooLarge_12 sh x2 (-x0) d)
set_option maxHeartbeats 4000000 in
set_option maxRecDepth 100000 in
theorem mt_X1_isTooLarge (l : Launch) (D : va_G) (cid : FieldType → ClassId) (b : Nat) (ex : Bool) (sa sv B0 : Nat) (sh : List xSh) (x0 : Int64) (x2 : Int64) (d : xD) (r : Int32) (dz : xD) (hf : f_X1_isTooLarge sh x0 x2 d = some (r, dz)) : xMet l yX1_isTooLarge cX1_isTooLarge 8 (some .boolean) 0 0 0 D cid b ex sa sv B0 [.long x0, .long x2] sh d (some (.int r)) sh dz := by
  refine xMet.of (by decide) (Nat.le_of_ble_eq_true rfl) ?_
  intro p e s m below meth c ls A S hr hin G hl
  have hl : lv_has ls 8 [(0, .long x0), (2, .long x2)] := hl
  generalize ([.long x0, .long x2] : List Value).toArray = av at S ⊢
  have hx := S.1
  have hb := S.2.1
  have hml := S.2.2.1
  have hown := S.2.2.2.1
  have hts := S.2.2.2.2.1
  have K52 : ∀ (y0 : Int32) (d : xD), k_X1_isTooLarge_52 sh y0 d = some (r, dz) → ∀ (H : Heap) (locs : List Loc) (ls : Array Slot), lv_has ls 8 [] → xG D cid b A sh d s H locs → W p l e (xRm 0 0 0) s m av below meth c H locs 0 0 (MQ below (xQ D cid b ex A (some (.int r)) sh dz) av s 0 0 A) (F0 m 52 ls [.int y0]) := by
    intro y0 d hf H locs ls hl G
    unfold k_X1_isTooLarge_52 at hf
    obtain ⟨v1, hv1, hf⟩ := x_ob hf
    cases hf
    exact xr_zret S G (fun _ => rfl) hr hv1 dX1_isTooLarge_52
  have K51 : ∀ (d : xD), k_X1_isTooLarge_51 sh d = some (r, dz) → ∀ (H : Heap) (locs : List Loc) (ls : Array Slot), lv_has ls 8 [] → xG D cid b A sh d s H locs → W p l e (xRm 0 0 0) s m av below meth c H locs 0 0 (MQ below (xQ D cid b ex A (some (.int r)) sh dz) av s 0 0 A) (F0 m 51 ls []) := by
    intro d hf H locs ls hl G
    unfold k_X1_isTooLarge_51 at hf
    refine lv_iconst (v := (0 : Int32)) hx hb dX1_isTooLarge_51 (by decide) ?_
    exact K52 (0 : Int32) d hf _ _ ls (lv_sub hl [] rfl) G
  have K26 : ∀ (x4 : Int64) (y0 : Int64) (d : xD), k_X1_isTooLarge_26 sh x4 y0 d = some (r, dz) → ∀ (H : Heap) (locs : List Loc) (ls : Array Slot), lv_has ls 8 [(4, .long x4)] → xG D cid b A sh d s H locs → W p l e (xRm 0 0 0) s m av below meth c H locs 0 0 (MQ below (xQ D cid b ex A (some (.int r)) sh dz) av s 0 0 A) (F0 m 26 ls [.long y0]) := by
    intro x4 y0 d hf H locs ls hl G
    unfold k_X1_isTooLarge_26 at hf
    refine lv_lstore (lv' := [(6, .long y0), (4, .long x4)]) hx hb dX1_isTooLarge_26 hl (by decide) rfl (fun ls hl => ?_)
    refine lv_lload hx hb dX1_isTooLarge_28 (lv_at hl 1 rfl) ?_
    refine lv_lconst (v := (0 : Int64)) hx hb dX1_isTooLarge_30 (by decide) ?_
    refine W.lcmp hx hb dX1_isTooLarge_31 ?_
    refine lv_if_eq (tgt := 51) hx hb dX1_isTooLarge_32 (by decide) (fun c => ?_) (fun c => ?_)
    · have hf := x_pos c hf
      exact K51 d hf _ _ ls (lv_sub hl [] rfl) G
    · have hf := x_neg c hf
      refine lv_lload hx hb dX1_isTooLarge_35 (lv_at hl 0 rfl) ?_
      refine lv_ldc2 (v := (1000000000000 : Int64)) hx hb hown (hts _ kw_782) dX1_isTooLarge_37 ?_
      refine lv_lload hx hb dX1_isTooLarge_40 (lv_at hl 1 rfl) ?_
      obtain ⟨v2, hv2, hf⟩ := x_ob hf
      refine xr_ldiv hx hb hv2 dX1_isTooLarge_42 ?_
      refine W.lcmp hx hb dX1_isTooLarge_43 ?_
      refine lv_if_le (tgt := 51) hx hb dX1_isTooLarge_44 (by decide) (fun c => ?_) (fun c => ?_)
      · have hf := x_pos c hf
        exact K51 d hf _ _ ls (lv_sub hl [] rfl) G
      · have hf := x_neg c hf
        refine lv_iconst (v := (1 : Int32)) hx hb dX1_isTooLarge_47 (by decide) ?_
        refine lv_goto (tgt := 52) hx hb dX1_isTooLarge_48 (by decide) ?_
        exact K52 (1 : Int32) d hf _ _ ls (lv_sub hl [] rfl) G
  have K12 : ∀ (x2 : Int64) (y0 : Int64) (d : xD), k_X1_isTooLarge_12 sh x2 y0 d = some (r, dz) → ∀ (H : Heap) (locs : List Loc) (ls : Array Slot), lv_has ls 8 [(2, .long x2)] → xG D cid b A sh d s H locs → W p l e (xRm 0 0 0) s m av below meth c H locs 0 0 (MQ below (xQ D cid b ex A (some (.int r)) sh dz) av s 0 0 A) (F0 m 12 ls [.long y0]) := by
    intro x2 y0 d hf H locs ls hl G
    unfold k_X1_isTooLarge_12 at hf
    refine lv_lstore (lv' := [(4, .long y0), (2, .long x2)]) hx hb dX1_isTooLarge_12 hl (by decide) rfl (fun ls hl => ?_)
    refine lv_lload_n hx hb dX1_isTooLarge_14 rfl (lv_at hl 1 rfl) ?_
    refine lv_lconst (v := (0 : Int64)) hx hb dX1_isTooLarge_15 (by decide) ?_
    refine W.lcmp hx hb dX1_isTooLarge_16 ?_
    refine lv_if_ge (tgt := 25) hx hb dX1_isTooLarge_17 (by decide) (fun c => ?_) (fun c => ?_)
    · have hf := x_pos c hf
      refine lv_lload_n hx hb dX1_isTooLarge_25 rfl (lv_at hl 1 rfl) ?_
      exact K26 y0 x2 d hf _ _ ls (lv_sub hl [0] rfl) G
    · have hf := x_neg c hf
      refine lv_lload_n hx hb dX1_isTooLarge_20 rfl (lv_at hl 1 rfl) ?_
      refine lv_lneg hx hb dX1_isTooLarge_21 ?_
      refine lv_goto (tgt := 26) hx hb dX1_isTooLarge_22 (by decide) ?_
      exact K26 y0 (-x2) d hf _ _ ls (lv_sub hl [0] rfl) G
  unfold f_X1_isTooLarge at hf
  refine lv_lload_n hx hb dX1_isTooLarge_0 rfl (lv_at hl 0 rfl) ?_
  refine lv_lconst (v := (0 : Int64)) hx hb dX1_isTooLarge_1 (by decide) ?_
  refine W.lcmp hx hb dX1_isTooLarge_2 ?_
  refine lv_if_ge (tgt := 11) hx hb dX1_isTooLarge_3 (by decide) (fun c => ?_) (fun c => ?_)
  · have hf := x_pos c hf
    refine lv_lload_n hx hb dX1_isTooLarge_11 rfl (lv_at hl 0 rfl) ?_
    exact K12 x2 x0 d hf _ _ ls (lv_sub hl [1] rfl) G
  · have hf := x_neg c hf
    refine lv_lload_n hx hb dX1_isTooLarge_6 rfl (lv_at hl 0 rfl) ?_
    refine lv_lneg hx hb dX1_isTooLarge_7 ?_
    refine lv_goto (tgt := 12) hx hb dX1_isTooLarge_8 (by decide) ?_
    exact K12 x2 (-x0) d hf _ _ ls (lv_sub hl [1] rfl) G
-- HalfLandings$Laws.join(IJJ)J
theorem dX1_join_0 : decode cX1_join 0 = .ok (.iload_n 0, 1) := by decide +kernel
theorem dX1_join_1 : decode cX1_join 1 = .ok (.tableswitch 229 12 35 #[211, 229, 229, 229, 229, 229, 229, 229, 229, 229, 229, 229, 229, 229, 111, 115, 119, 123, 139, 151, 163, 175, 187, 199], 111) := by decide +kernel
theorem dX1_join_112 : decode cX1_join 112 = .ok (.lload_n 1, 1) := by decide +kernel
theorem dX1_join_113 : decode cX1_join 113 = .ok (.lload_n 3, 1) := by decide +kernel
theorem dX1_join_114 : decode cX1_join 114 = .ok (.ladd, 1) := by decide +kernel
theorem dX1_join_115 : decode cX1_join 115 = .ok (.lreturn, 1) := by decide +kernel
theorem dX1_join_116 : decode cX1_join 116 = .ok (.lload_n 1, 1) := by decide +kernel
theorem dX1_join_117 : decode cX1_join 117 = .ok (.lload_n 3, 1) := by decide +kernel
theorem dX1_join_118 : decode cX1_join 118 = .ok (.lsub, 1) := by decide +kernel
theorem dX1_join_119 : decode cX1_join 119 = .ok (.lreturn, 1) := by decide +kernel
theorem dX1_join_120 : decode cX1_join 120 = .ok (.lload_n 1, 1) := by decide +kernel
theorem dX1_join_121 : decode cX1_join 121 = .ok (.lload_n 3, 1) := by decide +kernel
theorem dX1_join_122 : decode cX1_join 122 = .ok (.lmul, 1) := by decide +kernel
theorem dX1_join_123 : decode cX1_join 123 = .ok (.lreturn, 1) := by decide +kernel
theorem dX1_join_124 : decode cX1_join 124 = .ok (.lload_n 3, 1) := by decide +kernel
theorem dX1_join_125 : decode cX1_join 125 = .ok (.lconst 0, 1) := by decide +kernel
theorem dX1_join_126 : decode cX1_join 126 = .ok (.lcmp, 1) := by decide +kernel
theorem dX1_join_127 : decode cX1_join 127 = .ok (.ifCond .ne 9, 3) := by decide +kernel
theorem dX1_join_130 : decode cX1_join 130 = .ok (.ldc2_w 40, 3) := by decide +kernel
theorem dX1_join_133 : decode cX1_join 133 = .ok (.goto 6, 3) := by decide +kernel
theorem dX1_join_136 : decode cX1_join 136 = .ok (.lload_n 1, 1) := by decide +kernel
theorem dX1_join_137 : decode cX1_join 137 = .ok (.lload_n 3, 1) := by decide +kernel
theorem dX1_join_138 : decode cX1_join 138 = .ok (.ldiv, 1) := by decide +kernel
theorem dX1_join_139 : decode cX1_join 139 = .ok (.lreturn, 1) := by decide +kernel
theorem dX1_join_140 : decode cX1_join 140 = .ok (.lload_n 1, 1) := by decide +kernel
theorem dX1_join_141 : decode cX1_join 141 = .ok (.lload_n 3, 1) := by decide +kernel
theorem dX1_join_142 : decode cX1_join 142 = .ok (.lcmp, 1) := by decide +kernel
theorem dX1_join_143 : decode cX1_join 143 = .ok (.ifCond .ge 7, 3) := by decide +kernel
theorem dX1_join_146 : decode cX1_join 146 = .ok (.lconst 1, 1) := by decide +kernel
theorem dX1_join_147 : decode cX1_join 147 = .ok (.goto 4, 3) := by decide +kernel
theorem dX1_join_150 : decode cX1_join 150 = .ok (.lconst 0, 1) := by decide +kernel
theorem dX1_join_151 : decode cX1_join 151 = .ok (.lreturn, 1) := by decide +kernel
theorem dX1_join_152 : decode cX1_join 152 = .ok (.lload_n 1, 1) := by decide +kernel
theorem dX1_join_153 : decode cX1_join 153 = .ok (.lload_n 3, 1) := by decide +kernel
theorem dX1_join_154 : decode cX1_join 154 = .ok (.lcmp, 1) := by decide +kernel
theorem dX1_join_155 : decode cX1_join 155 = .ok (.ifCond .gt 7, 3) := by decide +kernel
theorem dX1_join_158 : decode cX1_join 158 = .ok (.lconst 1, 1) := by decide +kernel
theorem dX1_join_159 : decode cX1_join 159 = .ok (.goto 4, 3) := by decide +kernel
theorem dX1_join_162 : decode cX1_join 162 = .ok (.lconst 0, 1) := by decide +kernel
theorem dX1_join_163 : decode cX1_join 163 = .ok (.lreturn, 1) := by decide +kernel
theorem dX1_join_164 : decode cX1_join 164 = .ok (.lload_n 1, 1) := by decide +kernel
theorem dX1_join_165 : decode cX1_join 165 = .ok (.lload_n 3, 1) := by decide +kernel
theorem dX1_join_166 : decode cX1_join 166 = .ok (.lcmp, 1) := by decide +kernel
theorem dX1_join_167 : decode cX1_join 167 = .ok (.ifCond .ne 7, 3) := by decide +kernel
theorem dX1_join_170 : decode cX1_join 170 = .ok (.lconst 1, 1) := by decide +kernel
theorem dX1_join_171 : decode cX1_join 171 = .ok (.goto 4, 3) := by decide +kernel
theorem dX1_join_174 : decode cX1_join 174 = .ok (.lconst 0, 1) := by decide +kernel
theorem dX1_join_175 : decode cX1_join 175 = .ok (.lreturn, 1) := by decide +kernel
theorem dX1_join_176 : decode cX1_join 176 = .ok (.lload_n 1, 1) := by decide +kernel
theorem dX1_join_177 : decode cX1_join 177 = .ok (.lload_n 3, 1) := by decide +kernel
theorem dX1_join_178 : decode cX1_join 178 = .ok (.lcmp, 1) := by decide +kernel
theorem dX1_join_179 : decode cX1_join 179 = .ok (.ifCond .eq 7, 3) := by decide +kernel
theorem dX1_join_182 : decode cX1_join 182 = .ok (.lconst 1, 1) := by decide +kernel
theorem dX1_join_183 : decode cX1_join 183 = .ok (.goto 4, 3) := by decide +kernel
theorem dX1_join_186 : decode cX1_join 186 = .ok (.lconst 0, 1) := by decide +kernel
theorem dX1_join_187 : decode cX1_join 187 = .ok (.lreturn, 1) := by decide +kernel
theorem dX1_join_188 : decode cX1_join 188 = .ok (.lload_n 1, 1) := by decide +kernel
theorem dX1_join_189 : decode cX1_join 189 = .ok (.lload_n 3, 1) := by decide +kernel
theorem dX1_join_190 : decode cX1_join 190 = .ok (.lcmp, 1) := by decide +kernel
theorem dX1_join_191 : decode cX1_join 191 = .ok (.ifCond .lt 7, 3) := by decide +kernel
theorem dX1_join_194 : decode cX1_join 194 = .ok (.lconst 1, 1) := by decide +kernel
theorem dX1_join_195 : decode cX1_join 195 = .ok (.goto 4, 3) := by decide +kernel
theorem dX1_join_198 : decode cX1_join 198 = .ok (.lconst 0, 1) := by decide +kernel
theorem dX1_join_199 : decode cX1_join 199 = .ok (.lreturn, 1) := by decide +kernel
theorem dX1_join_200 : decode cX1_join 200 = .ok (.lload_n 1, 1) := by decide +kernel
theorem dX1_join_201 : decode cX1_join 201 = .ok (.lload_n 3, 1) := by decide +kernel
theorem dX1_join_202 : decode cX1_join 202 = .ok (.lcmp, 1) := by decide +kernel
theorem dX1_join_203 : decode cX1_join 203 = .ok (.ifCond .le 7, 3) := by decide +kernel
theorem dX1_join_206 : decode cX1_join 206 = .ok (.lconst 1, 1) := by decide +kernel
theorem dX1_join_207 : decode cX1_join 207 = .ok (.goto 4, 3) := by decide +kernel
theorem dX1_join_210 : decode cX1_join 210 = .ok (.lconst 0, 1) := by decide +kernel
theorem dX1_join_211 : decode cX1_join 211 = .ok (.lreturn, 1) := by decide +kernel
theorem dX1_join_212 : decode cX1_join 212 = .ok (.lload_n 1, 1) := by decide +kernel
theorem dX1_join_213 : decode cX1_join 213 = .ok (.lconst 0, 1) := by decide +kernel
theorem dX1_join_214 : decode cX1_join 214 = .ok (.lcmp, 1) := by decide +kernel
theorem dX1_join_215 : decode cX1_join 215 = .ok (.ifCond .eq 13, 3) := by decide +kernel
theorem dX1_join_218 : decode cX1_join 218 = .ok (.lload_n 3, 1) := by decide +kernel
theorem dX1_join_219 : decode cX1_join 219 = .ok (.lconst 0, 1) := by decide +kernel
theorem dX1_join_220 : decode cX1_join 220 = .ok (.lcmp, 1) := by decide +kernel
theorem dX1_join_221 : decode cX1_join 221 = .ok (.ifCond .eq 7, 3) := by decide +kernel
theorem dX1_join_224 : decode cX1_join 224 = .ok (.lconst 1, 1) := by decide +kernel
theorem dX1_join_225 : decode cX1_join 225 = .ok (.goto 4, 3) := by decide +kernel
theorem dX1_join_228 : decode cX1_join 228 = .ok (.lconst 0, 1) := by decide +kernel
theorem dX1_join_229 : decode cX1_join 229 = .ok (.lreturn, 1) := by decide +kernel
theorem dX1_join_230 : decode cX1_join 230 = .ok (.lload_n 1, 1) := by decide +kernel
theorem dX1_join_231 : decode cX1_join 231 = .ok (.lconst 0, 1) := by decide +kernel
theorem dX1_join_232 : decode cX1_join 232 = .ok (.lcmp, 1) := by decide +kernel
theorem dX1_join_233 : decode cX1_join 233 = .ok (.ifCond .ne 9, 3) := by decide +kernel
theorem dX1_join_236 : decode cX1_join 236 = .ok (.lload_n 3, 1) := by decide +kernel
theorem dX1_join_237 : decode cX1_join 237 = .ok (.lconst 0, 1) := by decide +kernel
theorem dX1_join_238 : decode cX1_join 238 = .ok (.lcmp, 1) := by decide +kernel
theorem dX1_join_239 : decode cX1_join 239 = .ok (.ifCond .eq 7, 3) := by decide +kernel
theorem dX1_join_242 : decode cX1_join 242 = .ok (.lconst 1, 1) := by decide +kernel
theorem dX1_join_243 : decode cX1_join 243 = .ok (.goto 4, 3) := by decide +kernel
theorem dX1_join_246 : decode cX1_join 246 = .ok (.lconst 0, 1) := by decide +kernel
theorem dX1_join_247 : decode cX1_join 247 = .ok (.lreturn, 1) := by decide +kernel
theorem hd_X1_join : yX1_join.cls ≠ "java/lang/invoke/MethodHandle" ∧ yX1_join.cls ≠ "java/lang/invoke/VarHandle" ∧ (parseMethodDescriptor yX1_join.desc).map (fun d => d.parameters.length) = some 3 := by decide +kernel
def k_X1_join_229 (sh : List xSh) (y0 : Int64) (d : xD) : Option (Int64 × xD) :=
  some (y0, d)
def k_X1_join_228 (sh : List xSh) (d : xD) : Option (Int64 × xD) :=
  k_X1_join_229 sh (0 : Int64) d
def k_X1_join_247 (sh : List xSh) (y0 : Int64) (d : xD) : Option (Int64 × xD) :=
  some (y0, d)
def k_X1_join_242 (sh : List xSh) (d : xD) : Option (Int64 × xD) :=
  k_X1_join_247 sh (1 : Int64) d
def k_X1_join_139 (sh : List xSh) (y0 : Int64) (d : xD) : Option (Int64 × xD) :=
  some (y0, d)
def k_X1_join_151 (sh : List xSh) (y0 : Int64) (d : xD) : Option (Int64 × xD) :=
  some (y0, d)
def k_X1_join_163 (sh : List xSh) (y0 : Int64) (d : xD) : Option (Int64 × xD) :=
  some (y0, d)
def k_X1_join_175 (sh : List xSh) (y0 : Int64) (d : xD) : Option (Int64 × xD) :=
  some (y0, d)
def k_X1_join_187 (sh : List xSh) (y0 : Int64) (d : xD) : Option (Int64 × xD) :=
  some (y0, d)
def k_X1_join_199 (sh : List xSh) (y0 : Int64) (d : xD) : Option (Int64 × xD) :=
  some (y0, d)
def k_X1_join_211 (sh : List xSh) (y0 : Int64) (d : xD) : Option (Int64 × xD) :=
  some (y0, d)
def f_X1_join (sh : List xSh) (x0 : Int32) (x1 : Int64) (x3 : Int64) (d : xD) : Option (Int64 × xD) :=
  if x0 = (12 : Int32) then (if (lg_cmp x1 (0 : Int64)) = 0 then (k_X1_join_228 sh d) else (if (lg_cmp x3 (0 : Int64)) = 0 then (k_X1_join_228 sh d) else (k_X1_join_229 sh (1 : Int64) d))) else (if x0 = (26 : Int32) then (some ((x1 + x3), d)) else (if x0 = (27 : Int32) then (some ((x1 - x3), d)) else (if x0 = (28 : Int32) then (some ((x1 * x3), d)) else (if x0 = (29 : Int32) then (if (lg_cmp x3 (0 : Int64)) = 0 then (k_X1_join_139 sh (-9223372036854775808 : Int64) d) else ((xdL x1 x3).bind fun v6 => k_X1_join_139 sh v6 d)) else (if x0 = (30 : Int32) then (if 0 ≤ (lg_cmp x1 x3) then (k_X1_join_151 sh (0 : Int64) d) else (k_X1_join_151 sh (1 : Int64) d)) else (if x0 = (31 : Int32) then (if 0 < (lg_cmp x1 x3) then (k_X1_join_163 sh (0 : Int64) d) else (k_X1_join_163 sh (1 : Int64) d)) else (if x0 = (32 : Int32) then (if (lg_cmp x1 x3) = 0 then (k_X1_join_175 sh (1 : Int64) d) else (k_X1_join_175 sh (0 : Int64) d)) else (if x0 = (33 : Int32) then (if (lg_cmp x1 x3) = 0 then (k_X1_join_187 sh (0 : Int64) d) else (k_X1_join_187 sh (1 : Int64) d)) else (if x0 = (34 : Int32) then (if (lg_cmp x1 x3) < 0 then (k_X1_join_199 sh (0 : Int64) d) else (k_X1_join_199 sh (1 : Int64) d)) else (if x0 = (35 : Int32) then (if (lg_cmp x1 x3) ≤ 0 then (k_X1_join_211 sh (0 : Int64) d) else (k_X1_join_211 sh (1 : Int64) d)) else (if (lg_cmp x1 (0 : Int64)) = 0 then (if (lg_cmp x3 (0 : Int64)) = 0 then (k_X1_join_247 sh (0 : Int64) d) else (k_X1_join_242 sh d)) else (k_X1_join_242 sh d))))))))))))
set_option maxHeartbeats 4000000 in
set_option maxRecDepth 100000 in
theorem mt_X1_join (l : Launch) (D : va_G) (cid : FieldType → ClassId) (b : Nat) (ex : Bool) (sa sv B0 : Nat) (sh : List xSh) (x0 : Int32) (x1 : Int64) (x3 : Int64) (d : xD) (r : Int64) (dz : xD) (hf : f_X1_join sh x0 x1 x3 d = some (r, dz)) : xMet l yX1_join cX1_join 5 (some .long) 0 0 0 D cid b ex sa sv B0 [.int x0, .long x1, .long x3] sh d (some (.long r)) sh dz := by
  refine xMet.of (by decide) (Nat.le_of_ble_eq_true rfl) ?_
  intro p e s m below meth c ls A S hr hin G hl
  have hl : lv_has ls 5 [(0, .int x0), (1, .long x1), (3, .long x3)] := hl
  generalize ([.int x0, .long x1, .long x3] : List Value).toArray = av at S ⊢
  have hx := S.1
  have hb := S.2.1
  have hml := S.2.2.1
  have hown := S.2.2.2.1
  have hts := S.2.2.2.2.1
  have K229 : ∀ (y0 : Int64) (d : xD), k_X1_join_229 sh y0 d = some (r, dz) → ∀ (H : Heap) (locs : List Loc) (ls : Array Slot), lv_has ls 5 [] → xG D cid b A sh d s H locs → W p l e (xRm 0 0 0) s m av below meth c H locs 0 0 (MQ below (xQ D cid b ex A (some (.long r)) sh dz) av s 0 0 A) (F0 m 229 ls [.long y0]) := by
    intro y0 d hf H locs ls hl G
    unfold k_X1_join_229 at hf
    cases hf
    exact xr_lret S G (fun _ => rfl) hr dX1_join_229
  have K228 : ∀ (d : xD), k_X1_join_228 sh d = some (r, dz) → ∀ (H : Heap) (locs : List Loc) (ls : Array Slot), lv_has ls 5 [] → xG D cid b A sh d s H locs → W p l e (xRm 0 0 0) s m av below meth c H locs 0 0 (MQ below (xQ D cid b ex A (some (.long r)) sh dz) av s 0 0 A) (F0 m 228 ls []) := by
    intro d hf H locs ls hl G
    unfold k_X1_join_228 at hf
    refine lv_lconst (v := (0 : Int64)) hx hb dX1_join_228 (by decide) ?_
    exact K229 (0 : Int64) d hf _ _ ls (lv_sub hl [] rfl) G
  have K247 : ∀ (y0 : Int64) (d : xD), k_X1_join_247 sh y0 d = some (r, dz) → ∀ (H : Heap) (locs : List Loc) (ls : Array Slot), lv_has ls 5 [] → xG D cid b A sh d s H locs → W p l e (xRm 0 0 0) s m av below meth c H locs 0 0 (MQ below (xQ D cid b ex A (some (.long r)) sh dz) av s 0 0 A) (F0 m 247 ls [.long y0]) := by
    intro y0 d hf H locs ls hl G
    unfold k_X1_join_247 at hf
    cases hf
    exact xr_lret S G (fun _ => rfl) hr dX1_join_247
  have K242 : ∀ (d : xD), k_X1_join_242 sh d = some (r, dz) → ∀ (H : Heap) (locs : List Loc) (ls : Array Slot), lv_has ls 5 [] → xG D cid b A sh d s H locs → W p l e (xRm 0 0 0) s m av below meth c H locs 0 0 (MQ below (xQ D cid b ex A (some (.long r)) sh dz) av s 0 0 A) (F0 m 242 ls []) := by
    intro d hf H locs ls hl G
    unfold k_X1_join_242 at hf
    refine lv_lconst (v := (1 : Int64)) hx hb dX1_join_242 (by decide) ?_
    refine lv_goto (tgt := 247) hx hb dX1_join_243 (by decide) ?_
    exact K247 (1 : Int64) d hf _ _ ls (lv_sub hl [] rfl) G
  have K139 : ∀ (y0 : Int64) (d : xD), k_X1_join_139 sh y0 d = some (r, dz) → ∀ (H : Heap) (locs : List Loc) (ls : Array Slot), lv_has ls 5 [] → xG D cid b A sh d s H locs → W p l e (xRm 0 0 0) s m av below meth c H locs 0 0 (MQ below (xQ D cid b ex A (some (.long r)) sh dz) av s 0 0 A) (F0 m 139 ls [.long y0]) := by
    intro y0 d hf H locs ls hl G
    unfold k_X1_join_139 at hf
    cases hf
    exact xr_lret S G (fun _ => rfl) hr dX1_join_139
  have K151 : ∀ (y0 : Int64) (d : xD), k_X1_join_151 sh y0 d = some (r, dz) → ∀ (H : Heap) (locs : List Loc) (ls : Array Slot), lv_has ls 5 [] → xG D cid b A sh d s H locs → W p l e (xRm 0 0 0) s m av below meth c H locs 0 0 (MQ below (xQ D cid b ex A (some (.long r)) sh dz) av s 0 0 A) (F0 m 151 ls [.long y0]) := by
    intro y0 d hf H locs ls hl G
    unfold k_X1_join_151 at hf
    cases hf
    exact xr_lret S G (fun _ => rfl) hr dX1_join_151
  have K163 : ∀ (y0 : Int64) (d : xD), k_X1_join_163 sh y0 d = some (r, dz) → ∀ (H : Heap) (locs : List Loc) (ls : Array Slot), lv_has ls 5 [] → xG D cid b A sh d s H locs → W p l e (xRm 0 0 0) s m av below meth c H locs 0 0 (MQ below (xQ D cid b ex A (some (.long r)) sh dz) av s 0 0 A) (F0 m 163 ls [.long y0]) := by
    intro y0 d hf H locs ls hl G
    unfold k_X1_join_163 at hf
    cases hf
    exact xr_lret S G (fun _ => rfl) hr dX1_join_163
  have K175 : ∀ (y0 : Int64) (d : xD), k_X1_join_175 sh y0 d = some (r, dz) → ∀ (H : Heap) (locs : List Loc) (ls : Array Slot), lv_has ls 5 [] → xG D cid b A sh d s H locs → W p l e (xRm 0 0 0) s m av below meth c H locs 0 0 (MQ below (xQ D cid b ex A (some (.long r)) sh dz) av s 0 0 A) (F0 m 175 ls [.long y0]) := by
    intro y0 d hf H locs ls hl G
    unfold k_X1_join_175 at hf
    cases hf
    exact xr_lret S G (fun _ => rfl) hr dX1_join_175
  have K187 : ∀ (y0 : Int64) (d : xD), k_X1_join_187 sh y0 d = some (r, dz) → ∀ (H : Heap) (locs : List Loc) (ls : Array Slot), lv_has ls 5 [] → xG D cid b A sh d s H locs → W p l e (xRm 0 0 0) s m av below meth c H locs 0 0 (MQ below (xQ D cid b ex A (some (.long r)) sh dz) av s 0 0 A) (F0 m 187 ls [.long y0]) := by
    intro y0 d hf H locs ls hl G
    unfold k_X1_join_187 at hf
    cases hf
    exact xr_lret S G (fun _ => rfl) hr dX1_join_187
  have K199 : ∀ (y0 : Int64) (d : xD), k_X1_join_199 sh y0 d = some (r, dz) → ∀ (H : Heap) (locs : List Loc) (ls : Array Slot), lv_has ls 5 [] → xG D cid b A sh d s H locs → W p l e (xRm 0 0 0) s m av below meth c H locs 0 0 (MQ below (xQ D cid b ex A (some (.long r)) sh dz) av s 0 0 A) (F0 m 199 ls [.long y0]) := by
    intro y0 d hf H locs ls hl G
    unfold k_X1_join_199 at hf
    cases hf
    exact xr_lret S G (fun _ => rfl) hr dX1_join_199
  have K211 : ∀ (y0 : Int64) (d : xD), k_X1_join_211 sh y0 d = some (r, dz) → ∀ (H : Heap) (locs : List Loc) (ls : Array Slot), lv_has ls 5 [] → xG D cid b A sh d s H locs → W p l e (xRm 0 0 0) s m av below meth c H locs 0 0 (MQ below (xQ D cid b ex A (some (.long r)) sh dz) av s 0 0 A) (F0 m 211 ls [.long y0]) := by
    intro y0 d hf H locs ls hl G
    unfold k_X1_join_211 at hf
    cases hf
    exact xr_lret S G (fun _ => rfl) hr dX1_join_211
  unfold f_X1_join at hf
  refine lv_iload_n hx hb dX1_join_0 rfl (lv_at hl 0 rfl) ?_
  by_cases c1 : x0 = (12 : Int32)
  · have hf := x_pos c1 hf
    refine xr_tab (k := (12 : Int32)) (tgt := 212) hx hb c1 dX1_join_1 (by decide) (by decide) rfl (by decide) ?_
    refine lv_lload_n hx hb dX1_join_212 rfl (lv_at hl 1 rfl) ?_
    refine lv_lconst (v := (0 : Int64)) hx hb dX1_join_213 (by decide) ?_
    refine W.lcmp hx hb dX1_join_214 ?_
    refine lv_if_eq (tgt := 228) hx hb dX1_join_215 (by decide) (fun c => ?_) (fun c => ?_)
    · have hf := x_pos c hf
      exact K228 d hf _ _ ls (lv_sub hl [] rfl) G
    · have hf := x_neg c hf
      refine lv_lload_n hx hb dX1_join_218 rfl (lv_at hl 2 rfl) ?_
      refine lv_lconst (v := (0 : Int64)) hx hb dX1_join_219 (by decide) ?_
      refine W.lcmp hx hb dX1_join_220 ?_
      refine lv_if_eq (tgt := 228) hx hb dX1_join_221 (by decide) (fun c => ?_) (fun c => ?_)
      · have hf := x_pos c hf
        exact K228 d hf _ _ ls (lv_sub hl [] rfl) G
      · have hf := x_neg c hf
        refine lv_lconst (v := (1 : Int64)) hx hb dX1_join_224 (by decide) ?_
        refine lv_goto (tgt := 229) hx hb dX1_join_225 (by decide) ?_
        exact K229 (1 : Int64) d hf _ _ ls (lv_sub hl [] rfl) G
  · have hf := x_neg c1 hf
    by_cases c2 : x0 = (26 : Int32)
    · have hf := x_pos c2 hf
      refine xr_tab (k := (26 : Int32)) (tgt := 112) hx hb c2 dX1_join_1 (by decide) (by decide) rfl (by decide) ?_
      refine lv_lload_n hx hb dX1_join_112 rfl (lv_at hl 1 rfl) ?_
      refine lv_lload_n hx hb dX1_join_113 rfl (lv_at hl 2 rfl) ?_
      refine lv_ladd hx hb dX1_join_114 ?_
      cases hf
      exact xr_lret S G (fun _ => rfl) hr dX1_join_115
    · have hf := x_neg c2 hf
      by_cases c3 : x0 = (27 : Int32)
      · have hf := x_pos c3 hf
        refine xr_tab (k := (27 : Int32)) (tgt := 116) hx hb c3 dX1_join_1 (by decide) (by decide) rfl (by decide) ?_
        refine lv_lload_n hx hb dX1_join_116 rfl (lv_at hl 1 rfl) ?_
        refine lv_lload_n hx hb dX1_join_117 rfl (lv_at hl 2 rfl) ?_
        refine lv_lsub hx hb dX1_join_118 ?_
        cases hf
        exact xr_lret S G (fun _ => rfl) hr dX1_join_119
      · have hf := x_neg c3 hf
        by_cases c4 : x0 = (28 : Int32)
        · have hf := x_pos c4 hf
          refine xr_tab (k := (28 : Int32)) (tgt := 120) hx hb c4 dX1_join_1 (by decide) (by decide) rfl (by decide) ?_
          refine lv_lload_n hx hb dX1_join_120 rfl (lv_at hl 1 rfl) ?_
          refine lv_lload_n hx hb dX1_join_121 rfl (lv_at hl 2 rfl) ?_
          refine lv_lmul hx hb dX1_join_122 ?_
          cases hf
          exact xr_lret S G (fun _ => rfl) hr dX1_join_123
        · have hf := x_neg c4 hf
          by_cases c5 : x0 = (29 : Int32)
          · have hf := x_pos c5 hf
            refine xr_tab (k := (29 : Int32)) (tgt := 124) hx hb c5 dX1_join_1 (by decide) (by decide) rfl (by decide) ?_
            refine lv_lload_n hx hb dX1_join_124 rfl (lv_at hl 2 rfl) ?_
            refine lv_lconst (v := (0 : Int64)) hx hb dX1_join_125 (by decide) ?_
            refine W.lcmp hx hb dX1_join_126 ?_
            refine lv_if_ne (tgt := 136) hx hb dX1_join_127 (by decide) (fun c => ?_) (fun c => ?_)
            · have hf := x_neg c hf
              refine lv_lload_n hx hb dX1_join_136 rfl (lv_at hl 1 rfl) ?_
              refine lv_lload_n hx hb dX1_join_137 rfl (lv_at hl 2 rfl) ?_
              obtain ⟨v6, hv6, hf⟩ := x_ob hf
              refine xr_ldiv hx hb hv6 dX1_join_138 ?_
              exact K139 v6 d hf _ _ ls (lv_sub hl [] rfl) G
            · have hf := x_pos c hf
              refine lv_ldc2 (v := (-9223372036854775808 : Int64)) hx hb hown (hts _ kw_778) dX1_join_130 ?_
              refine lv_goto (tgt := 139) hx hb dX1_join_133 (by decide) ?_
              exact K139 (-9223372036854775808 : Int64) d hf _ _ ls (lv_sub hl [] rfl) G
          · have hf := x_neg c5 hf
            by_cases c7 : x0 = (30 : Int32)
            · have hf := x_pos c7 hf
              refine xr_tab (k := (30 : Int32)) (tgt := 140) hx hb c7 dX1_join_1 (by decide) (by decide) rfl (by decide) ?_
              refine lv_lload_n hx hb dX1_join_140 rfl (lv_at hl 1 rfl) ?_
              refine lv_lload_n hx hb dX1_join_141 rfl (lv_at hl 2 rfl) ?_
              refine W.lcmp hx hb dX1_join_142 ?_
              refine lv_if_ge (tgt := 150) hx hb dX1_join_143 (by decide) (fun c => ?_) (fun c => ?_)
              · have hf := x_pos c hf
                refine lv_lconst (v := (0 : Int64)) hx hb dX1_join_150 (by decide) ?_
                exact K151 (0 : Int64) d hf _ _ ls (lv_sub hl [] rfl) G
              · have hf := x_neg c hf
                refine lv_lconst (v := (1 : Int64)) hx hb dX1_join_146 (by decide) ?_
                refine lv_goto (tgt := 151) hx hb dX1_join_147 (by decide) ?_
                exact K151 (1 : Int64) d hf _ _ ls (lv_sub hl [] rfl) G
            · have hf := x_neg c7 hf
              by_cases c8 : x0 = (31 : Int32)
              · have hf := x_pos c8 hf
                refine xr_tab (k := (31 : Int32)) (tgt := 152) hx hb c8 dX1_join_1 (by decide) (by decide) rfl (by decide) ?_
                refine lv_lload_n hx hb dX1_join_152 rfl (lv_at hl 1 rfl) ?_
                refine lv_lload_n hx hb dX1_join_153 rfl (lv_at hl 2 rfl) ?_
                refine W.lcmp hx hb dX1_join_154 ?_
                refine lv_if_gt (tgt := 162) hx hb dX1_join_155 (by decide) (fun c => ?_) (fun c => ?_)
                · have hf := x_pos c hf
                  refine lv_lconst (v := (0 : Int64)) hx hb dX1_join_162 (by decide) ?_
                  exact K163 (0 : Int64) d hf _ _ ls (lv_sub hl [] rfl) G
                · have hf := x_neg c hf
                  refine lv_lconst (v := (1 : Int64)) hx hb dX1_join_158 (by decide) ?_
                  refine lv_goto (tgt := 163) hx hb dX1_join_159 (by decide) ?_
                  exact K163 (1 : Int64) d hf _ _ ls (lv_sub hl [] rfl) G
              · have hf := x_neg c8 hf
                by_cases c9 : x0 = (32 : Int32)
                · have hf := x_pos c9 hf
                  refine xr_tab (k := (32 : Int32)) (tgt := 164) hx hb c9 dX1_join_1 (by decide) (by decide) rfl (by decide) ?_
                  refine lv_lload_n hx hb dX1_join_164 rfl (lv_at hl 1 rfl) ?_
                  refine lv_lload_n hx hb dX1_join_165 rfl (lv_at hl 2 rfl) ?_
                  refine W.lcmp hx hb dX1_join_166 ?_
                  refine lv_if_ne (tgt := 174) hx hb dX1_join_167 (by decide) (fun c => ?_) (fun c => ?_)
                  · have hf := x_neg c hf
                    refine lv_lconst (v := (0 : Int64)) hx hb dX1_join_174 (by decide) ?_
                    exact K175 (0 : Int64) d hf _ _ ls (lv_sub hl [] rfl) G
                  · have hf := x_pos c hf
                    refine lv_lconst (v := (1 : Int64)) hx hb dX1_join_170 (by decide) ?_
                    refine lv_goto (tgt := 175) hx hb dX1_join_171 (by decide) ?_
                    exact K175 (1 : Int64) d hf _ _ ls (lv_sub hl [] rfl) G
                · have hf := x_neg c9 hf
                  by_cases c10 : x0 = (33 : Int32)
                  · have hf := x_pos c10 hf
                    refine xr_tab (k := (33 : Int32)) (tgt := 176) hx hb c10 dX1_join_1 (by decide) (by decide) rfl (by decide) ?_
                    refine lv_lload_n hx hb dX1_join_176 rfl (lv_at hl 1 rfl) ?_
                    refine lv_lload_n hx hb dX1_join_177 rfl (lv_at hl 2 rfl) ?_
                    refine W.lcmp hx hb dX1_join_178 ?_
                    refine lv_if_eq (tgt := 186) hx hb dX1_join_179 (by decide) (fun c => ?_) (fun c => ?_)
                    · have hf := x_pos c hf
                      refine lv_lconst (v := (0 : Int64)) hx hb dX1_join_186 (by decide) ?_
                      exact K187 (0 : Int64) d hf _ _ ls (lv_sub hl [] rfl) G
                    · have hf := x_neg c hf
                      refine lv_lconst (v := (1 : Int64)) hx hb dX1_join_182 (by decide) ?_
                      refine lv_goto (tgt := 187) hx hb dX1_join_183 (by decide) ?_
                      exact K187 (1 : Int64) d hf _ _ ls (lv_sub hl [] rfl) G
                  · have hf := x_neg c10 hf
                    by_cases c11 : x0 = (34 : Int32)
                    · have hf := x_pos c11 hf
                      refine xr_tab (k := (34 : Int32)) (tgt := 188) hx hb c11 dX1_join_1 (by decide) (by decide) rfl (by decide) ?_
                      refine lv_lload_n hx hb dX1_join_188 rfl (lv_at hl 1 rfl) ?_
                      refine lv_lload_n hx hb dX1_join_189 rfl (lv_at hl 2 rfl) ?_
                      refine W.lcmp hx hb dX1_join_190 ?_
                      refine lv_if_lt (tgt := 198) hx hb dX1_join_191 (by decide) (fun c => ?_) (fun c => ?_)
                      · have hf := x_pos c hf
                        refine lv_lconst (v := (0 : Int64)) hx hb dX1_join_198 (by decide) ?_
                        exact K199 (0 : Int64) d hf _ _ ls (lv_sub hl [] rfl) G
                      · have hf := x_neg c hf
                        refine lv_lconst (v := (1 : Int64)) hx hb dX1_join_194 (by decide) ?_
                        refine lv_goto (tgt := 199) hx hb dX1_join_195 (by decide) ?_
                        exact K199 (1 : Int64) d hf _ _ ls (lv_sub hl [] rfl) G
                    · have hf := x_neg c11 hf
                      by_cases c12 : x0 = (35 : Int32)
                      · have hf := x_pos c12 hf
                        refine xr_tab (k := (35 : Int32)) (tgt := 200) hx hb c12 dX1_join_1 (by decide) (by decide) rfl (by decide) ?_
                        refine lv_lload_n hx hb dX1_join_200 rfl (lv_at hl 1 rfl) ?_
                        refine lv_lload_n hx hb dX1_join_201 rfl (lv_at hl 2 rfl) ?_
                        refine W.lcmp hx hb dX1_join_202 ?_
                        refine lv_if_le (tgt := 210) hx hb dX1_join_203 (by decide) (fun c => ?_) (fun c => ?_)
                        · have hf := x_pos c hf
                          refine lv_lconst (v := (0 : Int64)) hx hb dX1_join_210 (by decide) ?_
                          exact K211 (0 : Int64) d hf _ _ ls (lv_sub hl [] rfl) G
                        · have hf := x_neg c hf
                          refine lv_lconst (v := (1 : Int64)) hx hb dX1_join_206 (by decide) ?_
                          refine lv_goto (tgt := 211) hx hb dX1_join_207 (by decide) ?_
                          exact K211 (1 : Int64) d hf _ _ ls (lv_sub hl [] rfl) G
                      · have hf := x_neg c12 hf
                        have hks : ∀ z ∈ ([12, 26, 27, 28, 29, 30, 31, 32, 33, 34, 35] : List Int), (x0).toInt ≠ z := by
                          intro z hz
                          simp only [List.mem_cons, List.not_mem_nil, or_false] at hz
                          rcases hz with rfl | rfl | rfl | rfl | rfl | rfl | rfl | rfl | rfl | rfl | rfl
                          · exact x_toInt_ne 12 c1 (by decide)
                          · exact x_toInt_ne 26 c2 (by decide)
                          · exact x_toInt_ne 27 c3 (by decide)
                          · exact x_toInt_ne 28 c4 (by decide)
                          · exact x_toInt_ne 29 c5 (by decide)
                          · exact x_toInt_ne 30 c7 (by decide)
                          · exact x_toInt_ne 31 c8 (by decide)
                          · exact x_toInt_ne 32 c9 (by decide)
                          · exact x_toInt_ne 33 c10 (by decide)
                          · exact x_toInt_ne 34 c11 (by decide)
                          · exact x_toInt_ne 35 c12 (by decide)
                        refine xr_tabD (tgt := 230) [12, 26, 27, 28, 29, 30, 31, 32, 33, 34, 35] hx hb dX1_join_1 hks (by decide) (by decide) (by decide) ?_
                        refine lv_lload_n hx hb dX1_join_230 rfl (lv_at hl 1 rfl) ?_
                        refine lv_lconst (v := (0 : Int64)) hx hb dX1_join_231 (by decide) ?_
                        refine W.lcmp hx hb dX1_join_232 ?_
                        refine lv_if_ne (tgt := 242) hx hb dX1_join_233 (by decide) (fun c => ?_) (fun c => ?_)
                        · have hf := x_neg c hf
                          exact K242 d hf _ _ ls (lv_sub hl [] rfl) G
                        · have hf := x_pos c hf
                          refine lv_lload_n hx hb dX1_join_236 rfl (lv_at hl 2 rfl) ?_
                          refine lv_lconst (v := (0 : Int64)) hx hb dX1_join_237 (by decide) ?_
                          refine W.lcmp hx hb dX1_join_238 ?_
                          refine lv_if_eq (tgt := 246) hx hb dX1_join_239 (by decide) (fun c => ?_) (fun c => ?_)
                          · have hf := x_pos c hf
                            refine lv_lconst (v := (0 : Int64)) hx hb dX1_join_246 (by decide) ?_
                            exact K247 (0 : Int64) d hf _ _ ls (lv_sub hl [] rfl) G
                          · have hf := x_neg c hf
                            exact K242 d hf _ _ ls (lv_sub hl [] rfl) G

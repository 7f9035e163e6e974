-- HalfLandings$Minutes.talkMore(LHalfLandings$Scene;II)I
theorem dX2_talkMore_0 : decode cX2_talkMore 0 = .ok (.aload_n 1, 1) := by decide +kernel
theorem dX2_talkMore_1 : decode cX2_talkMore 1 = .ok (.getfield 21, 3) := by decide +kernel
theorem dX2_talkMore_4 : decode cX2_talkMore 4 = .ok (.istore 4, 2) := by decide +kernel
theorem dX2_talkMore_6 : decode cX2_talkMore 6 = .ok (.iconst 0, 1) := by decide +kernel
theorem dX2_talkMore_7 : decode cX2_talkMore 7 = .ok (.istore 5, 2) := by decide +kernel
theorem dX2_talkMore_9 : decode cX2_talkMore 9 = .ok (.iload 5, 2) := by decide +kernel
theorem dX2_talkMore_11 : decode cX2_talkMore 11 = .ok (.iload_n 2, 1) := by decide +kernel
theorem dX2_talkMore_12 : decode cX2_talkMore 12 = .ok (.if_icmp .ge 15, 3) := by decide +kernel
theorem dX2_talkMore_15 : decode cX2_talkMore 15 = .ok (.aload_n 0, 1) := by decide +kernel
theorem dX2_talkMore_16 : decode cX2_talkMore 16 = .ok (.aload_n 1, 1) := by decide +kernel
theorem dX2_talkMore_17 : decode cX2_talkMore 17 = .ok (.iload_n 3, 1) := by decide +kernel
theorem dX2_talkMore_18 : decode cX2_talkMore 18 = .ok (.invokevirtual 27, 3) := by decide +kernel
theorem dX2_talkMore_21 : decode cX2_talkMore 21 = .ok (.iinc 5 1, 3) := by decide +kernel
theorem dX2_talkMore_24 : decode cX2_talkMore 24 = .ok (.goto (-15), 3) := by decide +kernel
theorem dX2_talkMore_27 : decode cX2_talkMore 27 = .ok (.aload_n 1, 1) := by decide +kernel
theorem dX2_talkMore_28 : decode cX2_talkMore 28 = .ok (.getfield 21, 3) := by decide +kernel
theorem dX2_talkMore_31 : decode cX2_talkMore 31 = .ok (.iload 4, 2) := by decide +kernel
theorem dX2_talkMore_33 : decode cX2_talkMore 33 = .ok (.isub, 1) := by decide +kernel
theorem dX2_talkMore_34 : decode cX2_talkMore 34 = .ok (.ireturn, 1) := by decide +kernel
theorem hd_X2_talkMore : yX2_talkMore.cls = xCn 2 ∧ yX2_talkMore.cls ≠ "java/lang/invoke/MethodHandle" ∧ yX2_talkMore.cls ≠ "java/lang/invoke/VarHandle" ∧ (parseMethodDescriptor yX2_talkMore.desc).map (fun d => d.parameters.length) = some 3 := by decide +kernel
def k_X2_talkMore_27 (sh : List xSh) (q1 : Nat) (x4 : Int32) (d : xD) : Option (Int32 × xD) :=
  (xgI 4 sh d q1 1).bind fun v1 => some ((v1 - x4), d)
def b_X2_talkMore_9 (sh : List xSh) (rec9 : Nat → Nat → Int32 → Int32 → Int32 → Int32 → xD → Option (Int32 × xD)) (q0 : Nat) (q1 : Nat) (x2 : Int32) (x3 : Int32) (x4 : Int32) (x5 : Int32) (d : xD) : Option (Int32 × xD) :=
  if x2 ≤ x5 then (k_X2_talkMore_27 sh q1 x4 d) else ((xon 2 sh q0 (f_X2_oneMinute sh q0 q1 x3 d)).bind fun d2 => rec9 q0 q1 x2 x3 x4 (x5 + 1) d2)
def f_X2_talkMore (sh : List xSh) (q0 : Nat) (q1 : Nat) (x2 : Int32) (x3 : Int32) (d : xD) : Option (Int32 × xD) :=
  (xgI 4 sh d q1 1).bind fun v3 => xloop (fun _ _ _ _ _ _ _ => none) (b_X2_talkMore_9 sh) xF q0 q1 x2 x3 v3 (0 : Int32) d
set_option maxHeartbeats 4000000 in
set_option maxRecDepth 100000 in
theorem mt_X2_talkMore (l : Launch) (D : va_G) (cid : FieldType → ClassId) (b : Nat) (ex : Bool) (sa sv B0 : Nat) (sh : List xSh) (q0 : Nat) (q1 : Nat) (x2 : Int32) (x3 : Int32) (d : xD) (r : Int32) (dz : xD) (hf : f_X2_talkMore sh q0 q1 x2 x3 d = some (r, dz)) : xMet l yX2_talkMore cX2_talkMore 6 (some .int) 6 0 0 D cid b ex sa sv B0 [.ref (b + q0), .ref (b + q1), .int x2, .int x3] sh d (some (.int r)) sh dz := by
  refine xMet.of (by decide) (Nat.le_of_ble_eq_true rfl) ?_
  intro p e s m below meth c ls A S hr hin G hl
  have hl : lv_has ls 6 [(0, .ref (b + q0)), (1, .ref (b + q1)), (2, .int x2), (3, .int x3)] := hl
  generalize ([.ref (b + q0), .ref (b + q1), .int x2, .int x3] : List Value).toArray = av at S ⊢
  have hx := S.1
  have hb := S.2.1
  have hml := S.2.2.1
  have hown := S.2.2.2.1
  have hts := S.2.2.2.2.1
  have K27 : ∀ (q1 : Nat) (x4 : Int32) (d : xD), k_X2_talkMore_27 sh q1 x4 d = some (r, dz) → ∀ (H : Heap) (locs : List Loc) (ls : Array Slot), lv_has ls 6 [(1, .ref (b + q1)), (4, .int x4)] → xG D cid b A sh d s H locs → W p l e (xRm 6 0 0) s m av below meth c H locs 0 0 (MQ below (xQ D cid b ex A (some (.int r)) sh dz) av s 0 0 A) (F0 m 27 ls []) := by
    intro q1 x4 d hf H locs ls hl G
    unfold k_X2_talkMore_27 at hf
    refine lv_aload_n hx hb dX2_talkMore_27 rfl (lv_at hl 0 rfl) ?_
    obtain ⟨v1, hv1, hf⟩ := x_ob hf
    refine xr_getI (ci := 4) (k := 1) S G hv1 rfl kw_317 dX2_talkMore_28 ?_
    refine lv_iload hx hb dX2_talkMore_31 (lv_at hl 1 rfl) ?_
    refine lv_isub hx hb dX2_talkMore_33 ?_
    cases hf
    exact xr_iret S G (fun _ => rfl) hr dX2_talkMore_34
  have K9 : ∀ (n : Nat) (q0 : Nat) (q1 : Nat) (x2 : Int32) (x3 : Int32) (x4 : Int32) (x5 : Int32) (d : xD), xloop (fun _ _ _ _ _ _ _ => none) (b_X2_talkMore_9 sh) n q0 q1 x2 x3 x4 x5 d = some (r, dz) → ∀ (H : Heap) (locs : List Loc) (ls : Array Slot), lv_has ls 6 [(0, .ref (b + q0)), (1, .ref (b + q1)), (2, .int x2), (3, .int x3), (4, .int x4), (5, .int x5)] → xG D cid b A sh d s H locs → W p l e (xRm 6 0 0) s m av below meth c H locs 0 0 (MQ below (xQ D cid b ex A (some (.int r)) sh dz) av s 0 0 A) (F0 m 9 ls []) := by
    intro n
    induction n with
    | zero =>
      intro q0 q1 x2 x3 x4 x5 d hf
      have hf : (none : Option (Int32 × xD)) = some (r, dz) := hf
      cases hf
    | succ n hrec9 =>
      intro q0 q1 x2 x3 x4 x5 d hf H locs ls hl G
      have hf : b_X2_talkMore_9 sh (xloop (fun _ _ _ _ _ _ _ => none) (b_X2_talkMore_9 sh) n) q0 q1 x2 x3 x4 x5 d = some (r, dz) := hf
      unfold b_X2_talkMore_9 at hf
      refine lv_iload hx hb dX2_talkMore_9 (lv_at hl 5 rfl) ?_
      refine lv_iload_n hx hb dX2_talkMore_11 rfl (lv_at hl 2 rfl) ?_
      refine lv_icmp_ge (tgt := 27) hx hb dX2_talkMore_12 (by decide) (fun c => ?_) (fun c => ?_)
      · have hf := x_pos c hf
        exact K27 q1 x4 d hf _ _ ls (lv_sub hl [1, 4] rfl) G
      · have hf := x_neg c hf
        refine lv_aload_n hx hb dX2_talkMore_15 rfl (lv_at hl 0 rfl) ?_
        refine lv_aload_n hx hb dX2_talkMore_16 rfl (lv_at hl 1 rfl) ?_
        refine lv_iload_n hx hb dX2_talkMore_17 rfl (lv_at hl 3 rfl) ?_
        obtain ⟨d2, hd2, hf⟩ := x_ob hf
        obtain ⟨hqd2, hd2⟩ := xon_of hd2
        refine xr_callV (ci := 2) (As := [.ref (b + q1), .int x3]) (rest := []) (st1 := []) S G hl.1 (fun _ => rfl) (mt_X2_oneMinute l D cid b ex sa sv B0 sh q0 q1 x3 d _ hd2) hqd2 (by decide) kw_835 kw_836 kw_837 kw_13 kw_838 hd_X2_oneMinute ⟨Nat.le_of_ble_eq_true rfl, Nat.le_of_ble_eq_true rfl⟩ rfl rfl rfl (Nat.le_of_ble_eq_true rfl) ⟨Nat.le_of_ble_eq_true rfl, Nat.le_of_ble_eq_true rfl⟩ dX2_talkMore_18 (fun H locs G => ?_)
        refine lv_iinc (v := (x5 + 1)) (lv' := [(5, .int (x5 + 1)), (0, .ref (b + q0)), (1, .ref (b + q1)), (2, .int x2), (3, .int x3), (4, .int x4)]) hx hb dX2_talkMore_21 hl (k := 5) rfl rfl (by decide) rfl (fun ls hl => ?_)
        refine lv_goto (tgt := 9) hx hb dX2_talkMore_24 (by decide) ?_
        exact hrec9 q0 q1 x2 x3 x4 (x5 + 1) d2 hf _ _ ls (lv_sub hl [1, 2, 3, 4, 5, 0] rfl) G
  unfold f_X2_talkMore at hf
  refine lv_aload_n hx hb dX2_talkMore_0 rfl (lv_at hl 1 rfl) ?_
  obtain ⟨v3, hv3, hf⟩ := x_ob hf
  refine xr_getI (ci := 4) (k := 1) S G hv3 rfl kw_317 dX2_talkMore_1 ?_
  refine lv_istore (lv' := [(4, .int v3), (0, .ref (b + q0)), (1, .ref (b + q1)), (2, .int x2), (3, .int x3)]) hx hb dX2_talkMore_4 hl (by decide) rfl (fun ls hl => ?_)
  refine lv_iconst (v := (0 : Int32)) hx hb dX2_talkMore_6 (by decide) ?_
  refine lv_istore (lv' := [(5, .int (0 : Int32)), (4, .int v3), (0, .ref (b + q0)), (1, .ref (b + q1)), (2, .int x2), (3, .int x3)]) hx hb dX2_talkMore_7 hl (by decide) rfl (fun ls hl => ?_)
  exact K9 xF q0 q1 x2 x3 v3 (0 : Int32) d hf _ _ ls (lv_sub hl [2, 3, 4, 5, 1, 0] rfl) G
-- java/util/Arrays.fill([II)V
theorem dJ7_fill_53178_0 : decode cJ7_fill_53178 0 = .ok (.iconst 0, 1) := by decide +kernel
theorem dJ7_fill_53178_1 : decode cJ7_fill_53178 1 = .ok (.istore_n 2, 1) := by decide +kernel
theorem dJ7_fill_53178_2 : decode cJ7_fill_53178 2 = .ok (.aload_n 0, 1) := by decide +kernel
theorem dJ7_fill_53178_3 : decode cJ7_fill_53178 3 = .ok (.arraylength, 1) := by decide +kernel
theorem dJ7_fill_53178_4 : decode cJ7_fill_53178 4 = .ok (.istore_n 3, 1) := by decide +kernel
theorem dJ7_fill_53178_5 : decode cJ7_fill_53178 5 = .ok (.iload_n 2, 1) := by decide +kernel
theorem dJ7_fill_53178_6 : decode cJ7_fill_53178 6 = .ok (.iload_n 3, 1) := by decide +kernel
theorem dJ7_fill_53178_7 : decode cJ7_fill_53178 7 = .ok (.if_icmp .ge 13, 3) := by decide +kernel
theorem dJ7_fill_53178_10 : decode cJ7_fill_53178 10 = .ok (.aload_n 0, 1) := by decide +kernel
theorem dJ7_fill_53178_11 : decode cJ7_fill_53178 11 = .ok (.iload_n 2, 1) := by decide +kernel
theorem dJ7_fill_53178_12 : decode cJ7_fill_53178 12 = .ok (.iload_n 1, 1) := by decide +kernel
theorem dJ7_fill_53178_13 : decode cJ7_fill_53178 13 = .ok (.iastore, 1) := by decide +kernel
theorem dJ7_fill_53178_14 : decode cJ7_fill_53178 14 = .ok (.iinc 2 1, 3) := by decide +kernel
theorem dJ7_fill_53178_17 : decode cJ7_fill_53178 17 = .ok (.goto (-12), 3) := by decide +kernel
theorem dJ7_fill_53178_20 : decode cJ7_fill_53178 20 = .ok (.return_, 1) := by decide +kernel
theorem hd_J7_fill_53178 : yJ7_fill_53178.cls ≠ "java/lang/invoke/MethodHandle" ∧ yJ7_fill_53178.cls ≠ "java/lang/invoke/VarHandle" ∧ (parseMethodDescriptor yJ7_fill_53178.desc).map (fun d => d.parameters.length) = some 2 := by decide +kernel
def k_J7_fill_53178_20 (sh : List xSh) (d : xD) : Option xD :=
  some d
def b_J7_fill_53178_5 (sh : List xSh) (rec5 : Nat → Int32 → Int32 → Int32 → xD → Option xD) (q0 : Nat) (x1 : Int32) (x2 : Int32) (x3 : Int32) (d : xD) : Option xD :=
  if x3 ≤ x2 then (k_J7_fill_53178_20 sh d) else ((xsI .int sh d q0 x2 x1).bind fun d1 => rec5 q0 x1 (x2 + 1) x3 d1)
def f_J7_fill_53178 (sh : List xSh) (q0 : Nat) (x1 : Int32) (d : xD) : Option xD :=
  (xlen .int sh q0).bind fun v2 => xloop (fun _ _ _ _ _ => none) (b_J7_fill_53178_5 sh) xF q0 x1 (0 : Int32) (nI v2) d
set_option maxHeartbeats 4000000 in
set_option maxRecDepth 100000 in
theorem mt_J7_fill_53178 (l : Launch) (D : va_G) (cid : FieldType → ClassId) (b : Nat) (ex : Bool) (sa sv B0 : Nat) (sh : List xSh) (q0 : Nat) (x1 : Int32) (d : xD) (dz : xD) (hf : f_J7_fill_53178 sh q0 x1 d = some dz) : xMet l yJ7_fill_53178 cJ7_fill_53178 4 none 0 0 0 D cid b ex sa sv B0 [.ref (b + q0), .int x1] sh d none sh dz := by
  refine xMet.of (by decide) (Nat.le_of_ble_eq_true rfl) ?_
  intro p e s m below meth c ls A S hr hin G hl
  have hl : lv_has ls 4 [(0, .ref (b + q0)), (1, .int x1)] := hl
  generalize ([.ref (b + q0), .int x1] : List Value).toArray = av at S ⊢
  have hx := S.1
  have hb := S.2.1
  have hml := S.2.2.1
  have hown := S.2.2.2.1
  have hts := S.2.2.2.2.1
  have K20 : ∀ (d : xD), k_J7_fill_53178_20 sh d = some dz → ∀ (H : Heap) (locs : List Loc) (ls : Array Slot), lv_has ls 4 [] → xG D cid b A sh d s H locs → W p l e (xRm 0 0 0) s m av below meth c H locs 0 0 (MQ below (xQ D cid b ex A none sh dz) av s 0 0 A) (F0 m 20 ls []) := by
    intro d hf H locs ls hl G
    unfold k_J7_fill_53178_20 at hf
    cases hf
    exact xr_vret S G (fun _ => rfl) hr dJ7_fill_53178_20
  have K5 : ∀ (n : Nat) (q0 : Nat) (x1 : Int32) (x2 : Int32) (x3 : Int32) (d : xD), xloop (fun _ _ _ _ _ => none) (b_J7_fill_53178_5 sh) n q0 x1 x2 x3 d = some dz → ∀ (H : Heap) (locs : List Loc) (ls : Array Slot), lv_has ls 4 [(0, .ref (b + q0)), (1, .int x1), (2, .int x2), (3, .int x3)] → xG D cid b A sh d s H locs → W p l e (xRm 0 0 0) s m av below meth c H locs 0 0 (MQ below (xQ D cid b ex A none sh dz) av s 0 0 A) (F0 m 5 ls []) := by
    intro n
    induction n with
    | zero =>
      intro q0 x1 x2 x3 d hf
      have hf : (none : Option xD) = some dz := hf
      cases hf
    | succ n hrec5 =>
      intro q0 x1 x2 x3 d hf H locs ls hl G
      have hf : b_J7_fill_53178_5 sh (xloop (fun _ _ _ _ _ => none) (b_J7_fill_53178_5 sh) n) q0 x1 x2 x3 d = some dz := hf
      unfold b_J7_fill_53178_5 at hf
      refine lv_iload_n hx hb dJ7_fill_53178_5 rfl (lv_at hl 2 rfl) ?_
      refine lv_iload_n hx hb dJ7_fill_53178_6 rfl (lv_at hl 3 rfl) ?_
      refine lv_icmp_ge (tgt := 20) hx hb dJ7_fill_53178_7 (by decide) (fun c => ?_) (fun c => ?_)
      · have hf := x_pos c hf
        exact K20 d hf _ _ ls (lv_sub hl [] rfl) G
      · have hf := x_neg c hf
        refine lv_aload_n hx hb dJ7_fill_53178_10 rfl (lv_at hl 0 rfl) ?_
        refine lv_iload_n hx hb dJ7_fill_53178_11 rfl (lv_at hl 2 rfl) ?_
        refine lv_iload_n hx hb dJ7_fill_53178_12 rfl (lv_at hl 1 rfl) ?_
        obtain ⟨d1, hd1, hf⟩ := x_ob hf
        refine xr_iast S G hd1 dJ7_fill_53178_13 (fun H locs G => ?_)
        refine lv_iinc (v := (x2 + 1)) (lv' := [(2, .int (x2 + 1)), (0, .ref (b + q0)), (1, .int x1), (3, .int x3)]) hx hb dJ7_fill_53178_14 hl (k := 2) rfl rfl (by decide) rfl (fun ls hl => ?_)
        refine lv_goto (tgt := 5) hx hb dJ7_fill_53178_17 (by decide) ?_
        exact hrec5 q0 x1 (x2 + 1) x3 d1 hf _ _ ls (lv_sub hl [1, 2, 0, 3] rfl) G
  unfold f_J7_fill_53178 at hf
  refine lv_iconst (v := (0 : Int32)) hx hb dJ7_fill_53178_0 (by decide) ?_
  refine lv_istore_n (lv' := [(2, .int (0 : Int32)), (0, .ref (b + q0)), (1, .int x1)]) hx hb dJ7_fill_53178_1 rfl hl (by decide) rfl (fun ls hl => ?_)
  refine lv_aload_n hx hb dJ7_fill_53178_2 rfl (lv_at hl 1 rfl) ?_
  obtain ⟨v2, hv2, hf⟩ := x_ob hf
  refine xr_ilen S G hv2 dJ7_fill_53178_3 ?_
  refine lv_istore_n (lv' := [(3, .int (nI v2)), (2, .int (0 : Int32)), (0, .ref (b + q0)), (1, .int x1)]) hx hb dJ7_fill_53178_4 rfl hl (by decide) rfl (fun ls hl => ?_)
  exact K5 xF q0 x1 (0 : Int32) (nI v2) d hf _ _ ls (lv_sub hl [2, 3, 1, 0] rfl) G
-- HalfLandings$Plan.clear()V
theorem dX3_clear_0 : decode cX3_clear 0 = .ok (.aload_n 0, 1) := by decide +kernel
theorem dX3_clear_1 : decode cX3_clear 1 = .ok (.bipush 20, 2) := by decide +kernel
theorem dX3_clear_3 : decode cX3_clear 3 = .ok (.putfield 9, 3) := by decide +kernel
theorem dX3_clear_6 : decode cX3_clear 6 = .ok (.aload_n 0, 1) := by decide +kernel
theorem dX3_clear_7 : decode cX3_clear 7 = .ok (.bipush (-2), 2) := by decide +kernel
theorem dX3_clear_9 : decode cX3_clear 9 = .ok (.putfield 15, 3) := by decide +kernel
theorem dX3_clear_12 : decode cX3_clear 12 = .ok (.aload_n 0, 1) := by decide +kernel
theorem dX3_clear_13 : decode cX3_clear 13 = .ok (.iconst 0, 1) := by decide +kernel
theorem dX3_clear_14 : decode cX3_clear 14 = .ok (.putfield 18, 3) := by decide +kernel
theorem dX3_clear_17 : decode cX3_clear 17 = .ok (.aload_n 0, 1) := by decide +kernel
theorem dX3_clear_18 : decode cX3_clear 18 = .ok (.iconst 0, 1) := by decide +kernel
theorem dX3_clear_19 : decode cX3_clear 19 = .ok (.putfield 21, 3) := by decide +kernel
theorem dX3_clear_22 : decode cX3_clear 22 = .ok (.aload_n 0, 1) := by decide +kernel
theorem dX3_clear_23 : decode cX3_clear 23 = .ok (.iconst 0, 1) := by decide +kernel
theorem dX3_clear_24 : decode cX3_clear 24 = .ok (.putfield 24, 3) := by decide +kernel
theorem dX3_clear_27 : decode cX3_clear 27 = .ok (.aload_n 0, 1) := by decide +kernel
theorem dX3_clear_28 : decode cX3_clear 28 = .ok (.iconst 0, 1) := by decide +kernel
theorem dX3_clear_29 : decode cX3_clear 29 = .ok (.putfield 40, 3) := by decide +kernel
theorem dX3_clear_32 : decode cX3_clear 32 = .ok (.aload_n 0, 1) := by decide +kernel
theorem dX3_clear_33 : decode cX3_clear 33 = .ok (.iconst 0, 1) := by decide +kernel
theorem dX3_clear_34 : decode cX3_clear 34 = .ok (.putfield 58, 3) := by decide +kernel
theorem dX3_clear_37 : decode cX3_clear 37 = .ok (.aload_n 0, 1) := by decide +kernel
theorem dX3_clear_38 : decode cX3_clear 38 = .ok (.getfield 37, 3) := by decide +kernel
theorem dX3_clear_41 : decode cX3_clear 41 = .ok (.iconst (-1), 1) := by decide +kernel
theorem dX3_clear_42 : decode cX3_clear 42 = .ok (.invokestatic 77, 3) := by decide +kernel
theorem dX3_clear_45 : decode cX3_clear 45 = .ok (.aload_n 0, 1) := by decide +kernel
theorem dX3_clear_46 : decode cX3_clear 46 = .ok (.getfield 73, 3) := by decide +kernel
theorem dX3_clear_49 : decode cX3_clear 49 = .ok (.invokevirtual 83, 3) := by decide +kernel
theorem dX3_clear_52 : decode cX3_clear 52 = .ok (.return_, 1) := by decide +kernel
theorem hd_X3_clear : yX3_clear.cls = xCn 3 ∧ yX3_clear.cls ≠ "java/lang/invoke/MethodHandle" ∧ yX3_clear.cls ≠ "java/lang/invoke/VarHandle" ∧ (parseMethodDescriptor yX3_clear.desc).map (fun d => d.parameters.length) = some 0 := by decide +kernel
def f_X3_clear (sh : List xSh) (q0 : Nat) (d : xD) : Option xD :=
  (xpI 3 sh d q0 0 (20 : Int32)).bind fun d1 => (xpI 3 sh d1 q0 1 (-2 : Int32)).bind fun d2 => (xpI 3 sh d2 q0 2 (0 : Int32)).bind fun d3 => (xpI 3 sh d3 q0 3 (0 : Int32)).bind fun d4 => (xpI 3 sh d4 q0 4 (0 : Int32)).bind fun d5 => (xpI 3 sh d5 q0 9 (0 : Int32)).bind fun d6 => (xpI 3 sh d6 q0 15 (0 : Int32)).bind fun d7 => (xgR 3 sh d7 q0 8).bind fun v8 => (f_J7_fill_53178 sh v8 (-1 : Int32) d7).bind fun d9 => (xgR 3 sh d9 q0 19).bind fun v10 => (xon 1 sh v10 (f_X1_clear sh v10 d9)).bind fun d11 => some d11
set_option maxHeartbeats 4000000 in
set_option maxRecDepth 100000 in
theorem mt_X3_clear (l : Launch) (D : va_G) (cid : FieldType → ClassId) (b : Nat) (ex : Bool) (sa sv B0 : Nat) (sh : List xSh) (q0 : Nat) (d : xD) (dz : xD) (hf : f_X3_clear sh q0 d = some dz) : xMet l yX3_clear cX3_clear 1 none 1 0 0 D cid b ex sa sv B0 [.ref (b + q0)] sh d none sh dz := by
  refine xMet.of (by decide) (Nat.le_of_ble_eq_true rfl) ?_
  intro p e s m below meth c ls A S hr hin G hl
  have hl : lv_has ls 1 [(0, .ref (b + q0))] := hl
  generalize ([.ref (b + q0)] : List Value).toArray = av at S ⊢
  have hx := S.1
  have hb := S.2.1
  have hml := S.2.2.1
  have hown := S.2.2.2.1
  have hts := S.2.2.2.2.1
  unfold f_X3_clear at hf
  refine lv_aload_n hx hb dX3_clear_0 rfl (lv_at hl 0 rfl) ?_
  refine lv_bipush (v := (20 : Int32)) hx hb dX3_clear_1 (by decide) ?_
  obtain ⟨d1, hd1, hf⟩ := x_ob hf
  refine xr_putI (ci := 3) (k := 0) S G hd1 rfl kw_78 dX3_clear_3 (fun H locs G => ?_)
  refine lv_aload_n hx hb dX3_clear_6 rfl (lv_at hl 0 rfl) ?_
  refine lv_bipush (v := (-2 : Int32)) hx hb dX3_clear_7 (by decide) ?_
  obtain ⟨d2, hd2, hf⟩ := x_ob hf
  refine xr_putI (ci := 3) (k := 1) S G hd2 rfl kw_82 dX3_clear_9 (fun H locs G => ?_)
  refine lv_aload_n hx hb dX3_clear_12 rfl (lv_at hl 0 rfl) ?_
  refine lv_iconst (v := (0 : Int32)) hx hb dX3_clear_13 (by decide) ?_
  obtain ⟨d3, hd3, hf⟩ := x_ob hf
  refine xr_putI (ci := 3) (k := 2) S G hd3 rfl kw_85 dX3_clear_14 (fun H locs G => ?_)
  refine lv_aload_n hx hb dX3_clear_17 rfl (lv_at hl 0 rfl) ?_
  refine lv_iconst (v := (0 : Int32)) hx hb dX3_clear_18 (by decide) ?_
  obtain ⟨d4, hd4, hf⟩ := x_ob hf
  refine xr_putI (ci := 3) (k := 3) S G hd4 rfl kw_89 dX3_clear_19 (fun H locs G => ?_)
  refine lv_aload_n hx hb dX3_clear_22 rfl (lv_at hl 0 rfl) ?_
  refine lv_iconst (v := (0 : Int32)) hx hb dX3_clear_23 (by decide) ?_
  obtain ⟨d5, hd5, hf⟩ := x_ob hf
  refine xr_putI (ci := 3) (k := 4) S G hd5 rfl kw_92 dX3_clear_24 (fun H locs G => ?_)
  refine lv_aload_n hx hb dX3_clear_27 rfl (lv_at hl 0 rfl) ?_
  refine lv_iconst (v := (0 : Int32)) hx hb dX3_clear_28 (by decide) ?_
  obtain ⟨d6, hd6, hf⟩ := x_ob hf
  refine xr_putI (ci := 3) (k := 9) S G hd6 rfl kw_102 dX3_clear_29 (fun H locs G => ?_)
  refine lv_aload_n hx hb dX3_clear_32 rfl (lv_at hl 0 rfl) ?_
  refine lv_iconst (v := (0 : Int32)) hx hb dX3_clear_33 (by decide) ?_
  obtain ⟨d7, hd7, hf⟩ := x_ob hf
  refine xr_putI (ci := 3) (k := 15) S G hd7 rfl kw_116 dX3_clear_34 (fun H locs G => ?_)
  refine lv_aload_n hx hb dX3_clear_37 rfl (lv_at hl 0 rfl) ?_
  obtain ⟨v8, hv8, hf⟩ := x_ob hf
  refine xr_getR (ci := 3) (k := 8) S G hv8 rfl kw_101 dX3_clear_38 ?_
  refine lv_iconst (v := (-1 : Int32)) hx hb dX3_clear_41 (by decide) ?_
  obtain ⟨d9, hd9, hf⟩ := x_ob hf
  refine xr_callS (As := [.ref (b + v8), .int (-1 : Int32)]) (rest := []) (st1 := []) S G hl.1 (fun _ => rfl) (mt_J7_fill_53178 l D cid b ex sa sv B0 sh v8 (-1 : Int32) d7 _ hd9) kw_75 kw_76 kw_4 kw_77 hd_J7_fill_53178 ⟨Nat.le_of_ble_eq_true rfl, Nat.le_of_ble_eq_true rfl⟩ rfl rfl rfl (Nat.le_of_ble_eq_true rfl) ⟨Nat.le_of_ble_eq_true rfl, Nat.le_of_ble_eq_true rfl⟩ dX3_clear_42 (fun H locs G => ?_)
  refine lv_aload_n hx hb dX3_clear_45 rfl (lv_at hl 0 rfl) ?_
  obtain ⟨v10, hv10, hf⟩ := x_ob hf
  refine xr_getR (ci := 3) (k := 19) S G hv10 rfl kw_126 dX3_clear_46 ?_
  obtain ⟨d11, hd11, hf⟩ := x_ob hf
  obtain ⟨hqd11, hd11⟩ := xon_of hd11
  refine xr_callV (ci := 1) (As := []) (rest := []) (st1 := []) S G hl.1 (fun _ => rfl) (mt_X1_clear l D cid b ex sa sv B0 sh v10 d9 _ hd11) hqd11 (by decide) kw_543 kw_544 kw_545 kw_3 kw_546 hd_X1_clear ⟨Nat.le_of_ble_eq_true rfl, Nat.le_of_ble_eq_true rfl⟩ rfl rfl rfl (Nat.le_of_ble_eq_true rfl) ⟨Nat.le_of_ble_eq_true rfl, Nat.le_of_ble_eq_true rfl⟩ dX3_clear_49 (fun H locs G => ?_)
  cases hf
  exact xr_vret S G (fun _ => rfl) hr dX3_clear_52
-- HalfLandings$Plan.hasBench(I)Z
theorem dX3_hasBench_0 : decode cX3_hasBench 0 = .ok (.iload_n 1, 1) := by decide +kernel
theorem dX3_hasBench_1 : decode cX3_hasBench 1 = .ok (.ifCond .lt 15, 3) := by decide +kernel
theorem dX3_hasBench_4 : decode cX3_hasBench 4 = .ok (.iload_n 1, 1) := by decide +kernel
theorem dX3_hasBench_5 : decode cX3_hasBench 5 = .ok (.aload_n 0, 1) := by decide +kernel
theorem dX3_hasBench_6 : decode cX3_hasBench 6 = .ok (.getfield 24, 3) := by decide +kernel
theorem dX3_hasBench_9 : decode cX3_hasBench 9 = .ok (.if_icmp .ge 7, 3) := by decide +kernel
theorem dX3_hasBench_12 : decode cX3_hasBench 12 = .ok (.iconst 1, 1) := by decide +kernel
theorem dX3_hasBench_13 : decode cX3_hasBench 13 = .ok (.goto 4, 3) := by decide +kernel
theorem dX3_hasBench_16 : decode cX3_hasBench 16 = .ok (.iconst 0, 1) := by decide +kernel
theorem dX3_hasBench_17 : decode cX3_hasBench 17 = .ok (.ireturn, 1) := by decide +kernel
theorem hd_X3_hasBench : yX3_hasBench.cls = xCn 3 ∧ yX3_hasBench.cls ≠ "java/lang/invoke/MethodHandle" ∧ yX3_hasBench.cls ≠ "java/lang/invoke/VarHandle" ∧ (parseMethodDescriptor yX3_hasBench.desc).map (fun d => d.parameters.length) = some 1 := by decide +kernel
def k_X3_hasBench_17 (sh : List xSh) (y0 : Int32) (d : xD) : Option (Int32 × xD) :=
  (xz y0).bind fun v1 => some (v1, d)
def k_X3_hasBench_16 (sh : List xSh) (d : xD) : Option (Int32 × xD) :=
  k_X3_hasBench_17 sh (0 : Int32) d
def f_X3_hasBench (sh : List xSh) (q0 : Nat) (x1 : Int32) (d : xD) : Option (Int32 × xD) :=
  if x1 < 0 then (k_X3_hasBench_16 sh d) else ((xgI 3 sh d q0 4).bind fun v2 => if v2 ≤ x1 then (k_X3_hasBench_16 sh d) else (k_X3_hasBench_17 sh (1 : Int32) d))
set_option maxHeartbeats 4000000 in
set_option maxRecDepth 100000 in
theorem mt_X3_hasBench (l : Launch) (D : va_G) (cid : FieldType → ClassId) (b : Nat) (ex : Bool) (sa sv B0 : Nat) (sh : List xSh) (q0 : Nat) (x1 : Int32) (d : xD) (r : Int32) (dz : xD) (hf : f_X3_hasBench sh q0 x1 d = some (r, dz)) : xMet l yX3_hasBench cX3_hasBench 2 (some .boolean) 0 0 0 D cid b ex sa sv B0 [.ref (b + q0), .int x1] sh d (some (.int r)) sh dz := by
  refine xMet.of (by decide) (Nat.le_of_ble_eq_true rfl) ?_
  intro p e s m below meth c ls A S hr hin G hl
  have hl : lv_has ls 2 [(0, .ref (b + q0)), (1, .int x1)] := hl
  generalize ([.ref (b + q0), .int x1] : List Value).toArray = av at S ⊢
  have hx := S.1
  have hb := S.2.1
  have hml := S.2.2.1
  have hown := S.2.2.2.1
  have hts := S.2.2.2.2.1
  have K17 : ∀ (y0 : Int32) (d : xD), k_X3_hasBench_17 sh y0 d = some (r, dz) → ∀ (H : Heap) (locs : List Loc) (ls : Array Slot), lv_has ls 2 [] → xG D cid b A sh d s H locs → W p l e (xRm 0 0 0) s m av below meth c H locs 0 0 (MQ below (xQ D cid b ex A (some (.int r)) sh dz) av s 0 0 A) (F0 m 17 ls [.int y0]) := by
    intro y0 d hf H locs ls hl G
    unfold k_X3_hasBench_17 at hf
    obtain ⟨v1, hv1, hf⟩ := x_ob hf
    cases hf
    exact xr_zret S G (fun _ => rfl) hr hv1 dX3_hasBench_17
  have K16 : ∀ (d : xD), k_X3_hasBench_16 sh d = some (r, dz) → ∀ (H : Heap) (locs : List Loc) (ls : Array Slot), lv_has ls 2 [] → xG D cid b A sh d s H locs → W p l e (xRm 0 0 0) s m av below meth c H locs 0 0 (MQ below (xQ D cid b ex A (some (.int r)) sh dz) av s 0 0 A) (F0 m 16 ls []) := by
    intro d hf H locs ls hl G
    unfold k_X3_hasBench_16 at hf
    refine lv_iconst (v := (0 : Int32)) hx hb dX3_hasBench_16 (by decide) ?_
    exact K17 (0 : Int32) d hf _ _ ls (lv_sub hl [] rfl) G
  unfold f_X3_hasBench at hf
  refine lv_iload_n hx hb dX3_hasBench_0 rfl (lv_at hl 1 rfl) ?_
  refine lv_if_lt (tgt := 16) hx hb dX3_hasBench_1 (by decide) (fun c => ?_) (fun c => ?_)
  · have hf := x_pos c hf
    exact K16 d hf _ _ ls (lv_sub hl [] rfl) G
  · have hf := x_neg c hf
    refine lv_iload_n hx hb dX3_hasBench_4 rfl (lv_at hl 1 rfl) ?_
    refine lv_aload_n hx hb dX3_hasBench_5 rfl (lv_at hl 0 rfl) ?_
    obtain ⟨v2, hv2, hf⟩ := x_ob hf
    refine xr_getI (ci := 3) (k := 4) S G hv2 rfl kw_92 dX3_hasBench_6 ?_
    refine lv_icmp_ge (tgt := 16) hx hb dX3_hasBench_9 (by decide) (fun c => ?_) (fun c => ?_)
    · have hf := x_pos c hf
      exact K16 d hf _ _ ls (lv_sub hl [] rfl) G
    · have hf := x_neg c hf
      refine lv_iconst (v := (1 : Int32)) hx hb dX3_hasBench_12 (by decide) ?_
      refine lv_goto (tgt := 17) hx hb dX3_hasBench_13 (by decide) ?_
      exact K17 (1 : Int32) d hf _ _ ls (lv_sub hl [] rfl) G
-- HalfLandings$Plan.hasWalker(I)Z
theorem dX3_hasWalker_0 : decode cX3_hasWalker 0 = .ok (.iload_n 1, 1) := by decide +kernel
theorem dX3_hasWalker_1 : decode cX3_hasWalker 1 = .ok (.ifCond .lt 15, 3) := by decide +kernel
theorem dX3_hasWalker_4 : decode cX3_hasWalker 4 = .ok (.iload_n 1, 1) := by decide +kernel
theorem dX3_hasWalker_5 : decode cX3_hasWalker 5 = .ok (.aload_n 0, 1) := by decide +kernel
theorem dX3_hasWalker_6 : decode cX3_hasWalker 6 = .ok (.getfield 40, 3) := by decide +kernel
theorem dX3_hasWalker_9 : decode cX3_hasWalker 9 = .ok (.if_icmp .ge 7, 3) := by decide +kernel
theorem dX3_hasWalker_12 : decode cX3_hasWalker 12 = .ok (.iconst 1, 1) := by decide +kernel
theorem dX3_hasWalker_13 : decode cX3_hasWalker 13 = .ok (.goto 4, 3) := by decide +kernel
theorem dX3_hasWalker_16 : decode cX3_hasWalker 16 = .ok (.iconst 0, 1) := by decide +kernel
theorem dX3_hasWalker_17 : decode cX3_hasWalker 17 = .ok (.ireturn, 1) := by decide +kernel
theorem hd_X3_hasWalker : yX3_hasWalker.cls = xCn 3 ∧ yX3_hasWalker.cls ≠ "java/lang/invoke/MethodHandle" ∧ yX3_hasWalker.cls ≠ "java/lang/invoke/VarHandle" ∧ (parseMethodDescriptor yX3_hasWalker.desc).map (fun d => d.parameters.length) = some 1 := by decide +kernel
def k_X3_hasWalker_17 (sh : List xSh) (y0 : Int32) (d : xD) : Option (Int32 × xD) :=
  (xz y0).bind fun v1 => some (v1, d)
def k_X3_hasWalker_16 (sh : List xSh) (d : xD) : Option (Int32 × xD) :=
  k_X3_hasWalker_17 sh (0 : Int32) d
def f_X3_hasWalker (sh : List xSh) (q0 : Nat) (x1 : Int32) (d : xD) : Option (Int32 × xD) :=
  if x1 < 0 then (k_X3_hasWalker_16 sh d) else ((xgI 3 sh d q0 9).bind fun v2 => if v2 ≤ x1 then (k_X3_hasWalker_16 sh d) else (k_X3_hasWalker_17 sh (1 : Int32) d))
set_option maxHeartbeats 4000000 in
set_option maxRecDepth 100000 in
theorem mt_X3_hasWalker (l : Launch) (D : va_G) (cid : FieldType → ClassId) (b : Nat) (ex : Bool) (sa sv B0 : Nat) (sh : List xSh) (q0 : Nat) (x1 : Int32) (d : xD) (r : Int32) (dz : xD) (hf : f_X3_hasWalker sh q0 x1 d = some (r, dz)) : xMet l yX3_hasWalker cX3_hasWalker 2 (some .boolean) 0 0 0 D cid b ex sa sv B0 [.ref (b + q0), .int x1] sh d (some (.int r)) sh dz := by
  refine xMet.of (by decide) (Nat.le_of_ble_eq_true rfl) ?_
  intro p e s m below meth c ls A S hr hin G hl
  have hl : lv_has ls 2 [(0, .ref (b + q0)), (1, .int x1)] := hl
  generalize ([.ref (b + q0), .int x1] : List Value).toArray = av at S ⊢
  have hx := S.1
  have hb := S.2.1
  have hml := S.2.2.1
  have hown := S.2.2.2.1
  have hts := S.2.2.2.2.1
  have K17 : ∀ (y0 : Int32) (d : xD), k_X3_hasWalker_17 sh y0 d = some (r, dz) → ∀ (H : Heap) (locs : List Loc) (ls : Array Slot), lv_has ls 2 [] → xG D cid b A sh d s H locs → W p l e (xRm 0 0 0) s m av below meth c H locs 0 0 (MQ below (xQ D cid b ex A (some (.int r)) sh dz) av s 0 0 A) (F0 m 17 ls [.int y0]) := by
    intro y0 d hf H locs ls hl G
    unfold k_X3_hasWalker_17 at hf
    obtain ⟨v1, hv1, hf⟩ := x_ob hf
    cases hf
    exact xr_zret S G (fun _ => rfl) hr hv1 dX3_hasWalker_17
  have K16 : ∀ (d : xD), k_X3_hasWalker_16 sh d = some (r, dz) → ∀ (H : Heap) (locs : List Loc) (ls : Array Slot), lv_has ls 2 [] → xG D cid b A sh d s H locs → W p l e (xRm 0 0 0) s m av below meth c H locs 0 0 (MQ below (xQ D cid b ex A (some (.int r)) sh dz) av s 0 0 A) (F0 m 16 ls []) := by
    intro d hf H locs ls hl G
    unfold k_X3_hasWalker_16 at hf
    refine lv_iconst (v := (0 : Int32)) hx hb dX3_hasWalker_16 (by decide) ?_
    exact K17 (0 : Int32) d hf _ _ ls (lv_sub hl [] rfl) G
  unfold f_X3_hasWalker at hf
  refine lv_iload_n hx hb dX3_hasWalker_0 rfl (lv_at hl 1 rfl) ?_
  refine lv_if_lt (tgt := 16) hx hb dX3_hasWalker_1 (by decide) (fun c => ?_) (fun c => ?_)
  · have hf := x_pos c hf
    exact K16 d hf _ _ ls (lv_sub hl [] rfl) G
  · have hf := x_neg c hf
    refine lv_iload_n hx hb dX3_hasWalker_4 rfl (lv_at hl 1 rfl) ?_
    refine lv_aload_n hx hb dX3_hasWalker_5 rfl (lv_at hl 0 rfl) ?_
    obtain ⟨v2, hv2, hf⟩ := x_ob hf
    refine xr_getI (ci := 3) (k := 9) S G hv2 rfl kw_102 dX3_hasWalker_6 ?_
    refine lv_icmp_ge (tgt := 16) hx hb dX3_hasWalker_9 (by decide) (fun c => ?_) (fun c => ?_)
    · have hf := x_pos c hf
      exact K16 d hf _ _ ls (lv_sub hl [] rfl) G
    · have hf := x_neg c hf
      refine lv_iconst (v := (1 : Int32)) hx hb dX3_hasWalker_12 (by decide) ?_
      refine lv_goto (tgt := 17) hx hb dX3_hasWalker_13 (by decide) ?_
      exact K17 (1 : Int32) d hf _ _ ls (lv_sub hl [] rfl) G
-- HalfLandings$Plan.indexOf([III)I
theorem dX3_indexOf_0 : decode cX3_indexOf 0 = .ok (.iconst 0, 1) := by decide +kernel
theorem dX3_indexOf_1 : decode cX3_indexOf 1 = .ok (.istore_n 3, 1) := by decide +kernel
theorem dX3_indexOf_2 : decode cX3_indexOf 2 = .ok (.iload_n 3, 1) := by decide +kernel
theorem dX3_indexOf_3 : decode cX3_indexOf 3 = .ok (.iload_n 1, 1) := by decide +kernel
theorem dX3_indexOf_4 : decode cX3_indexOf 4 = .ok (.if_icmp .ge 24, 3) := by decide +kernel
theorem dX3_indexOf_7 : decode cX3_indexOf 7 = .ok (.iload_n 3, 1) := by decide +kernel
theorem dX3_indexOf_8 : decode cX3_indexOf 8 = .ok (.aload_n 0, 1) := by decide +kernel
theorem dX3_indexOf_9 : decode cX3_indexOf 9 = .ok (.arraylength, 1) := by decide +kernel
theorem dX3_indexOf_10 : decode cX3_indexOf 10 = .ok (.if_icmp .ge 18, 3) := by decide +kernel
theorem dX3_indexOf_13 : decode cX3_indexOf 13 = .ok (.aload_n 0, 1) := by decide +kernel
theorem dX3_indexOf_14 : decode cX3_indexOf 14 = .ok (.iload_n 3, 1) := by decide +kernel
theorem dX3_indexOf_15 : decode cX3_indexOf 15 = .ok (.iaload, 1) := by decide +kernel
theorem dX3_indexOf_16 : decode cX3_indexOf 16 = .ok (.iload_n 2, 1) := by decide +kernel
theorem dX3_indexOf_17 : decode cX3_indexOf 17 = .ok (.if_icmp .ne 5, 3) := by decide +kernel
theorem dX3_indexOf_20 : decode cX3_indexOf 20 = .ok (.iload_n 3, 1) := by decide +kernel
theorem dX3_indexOf_21 : decode cX3_indexOf 21 = .ok (.ireturn, 1) := by decide +kernel
theorem dX3_indexOf_22 : decode cX3_indexOf 22 = .ok (.iinc 3 1, 3) := by decide +kernel
theorem dX3_indexOf_25 : decode cX3_indexOf 25 = .ok (.goto (-23), 3) := by decide +kernel
theorem dX3_indexOf_28 : decode cX3_indexOf 28 = .ok (.iconst (-1), 1) := by decide +kernel
theorem dX3_indexOf_29 : decode cX3_indexOf 29 = .ok (.ireturn, 1) := by decide +kernel
theorem hd_X3_indexOf : yX3_indexOf.cls ≠ "java/lang/invoke/MethodHandle" ∧ yX3_indexOf.cls ≠ "java/lang/invoke/VarHandle" ∧ (parseMethodDescriptor yX3_indexOf.desc).map (fun d => d.parameters.length) = some 3 := by decide +kernel
def k_X3_indexOf_28 (sh : List xSh) (d : xD) : Option (Int32 × xD) :=
  some ((-1 : Int32), d)
def k_X3_indexOf_20 (sh : List xSh) (x3 : Int32) (d : xD) : Option (Int32 × xD) :=
  some (x3, d)
def b_X3_indexOf_2 (sh : List xSh) (rec2 : Nat → Int32 → Int32 → Int32 → xD → Option (Int32 × xD)) (q0 : Nat) (x1 : Int32) (x2 : Int32) (x3 : Int32) (d : xD) : Option (Int32 × xD) :=
  if x1 ≤ x3 then (k_X3_indexOf_28 sh d) else ((xlen .int sh q0).bind fun v1 => if (nI v1) ≤ x3 then (k_X3_indexOf_28 sh d) else ((xaI .int sh d q0 x3).bind fun v2 => if v2 = x2 then (k_X3_indexOf_20 sh x3 d) else (rec2 q0 x1 x2 (x3 + 1) d)))
def f_X3_indexOf (sh : List xSh) (q0 : Nat) (x1 : Int32) (x2 : Int32) (d : xD) : Option (Int32 × xD) :=
  xloop (fun _ _ _ _ _ => none) (b_X3_indexOf_2 sh) xF q0 x1 x2 (0 : Int32) d
set_option maxHeartbeats 4000000 in
set_option maxRecDepth 100000 in
theorem mt_X3_indexOf (l : Launch) (D : va_G) (cid : FieldType → ClassId) (b : Nat) (ex : Bool) (sa sv B0 : Nat) (sh : List xSh) (q0 : Nat) (x1 : Int32) (x2 : Int32) (d : xD) (r : Int32) (dz : xD) (hf : f_X3_indexOf sh q0 x1 x2 d = some (r, dz)) : xMet l yX3_indexOf cX3_indexOf 4 (some .int) 0 0 0 D cid b ex sa sv B0 [.ref (b + q0), .int x1, .int x2] sh d (some (.int r)) sh dz := by
  refine xMet.of (by decide) (Nat.le_of_ble_eq_true rfl) ?_
  intro p e s m below meth c ls A S hr hin G hl
  have hl : lv_has ls 4 [(0, .ref (b + q0)), (1, .int x1), (2, .int x2)] := hl
  generalize ([.ref (b + q0), .int x1, .int x2] : List Value).toArray = av at S ⊢
  have hx := S.1
  have hb := S.2.1
  have hml := S.2.2.1
  have hown := S.2.2.2.1
  have hts := S.2.2.2.2.1
  have K28 : ∀ (d : xD), k_X3_indexOf_28 sh d = some (r, dz) → ∀ (H : Heap) (locs : List Loc) (ls : Array Slot), lv_has ls 4 [] → xG D cid b A sh d s H locs → W p l e (xRm 0 0 0) s m av below meth c H locs 0 0 (MQ below (xQ D cid b ex A (some (.int r)) sh dz) av s 0 0 A) (F0 m 28 ls []) := by
    intro d hf H locs ls hl G
    unfold k_X3_indexOf_28 at hf
    refine lv_iconst (v := (-1 : Int32)) hx hb dX3_indexOf_28 (by decide) ?_
    cases hf
    exact xr_iret S G (fun _ => rfl) hr dX3_indexOf_29
  have K20 : ∀ (x3 : Int32) (d : xD), k_X3_indexOf_20 sh x3 d = some (r, dz) → ∀ (H : Heap) (locs : List Loc) (ls : Array Slot), lv_has ls 4 [(3, .int x3)] → xG D cid b A sh d s H locs → W p l e (xRm 0 0 0) s m av below meth c H locs 0 0 (MQ below (xQ D cid b ex A (some (.int r)) sh dz) av s 0 0 A) (F0 m 20 ls []) := by
    intro x3 d hf H locs ls hl G
    unfold k_X3_indexOf_20 at hf
    refine lv_iload_n hx hb dX3_indexOf_20 rfl (lv_at hl 0 rfl) ?_
    cases hf
    exact xr_iret S G (fun _ => rfl) hr dX3_indexOf_21
  have K2 : ∀ (n : Nat) (q0 : Nat) (x1 : Int32) (x2 : Int32) (x3 : Int32) (d : xD), xloop (fun _ _ _ _ _ => none) (b_X3_indexOf_2 sh) n q0 x1 x2 x3 d = some (r, dz) → ∀ (H : Heap) (locs : List Loc) (ls : Array Slot), lv_has ls 4 [(0, .ref (b + q0)), (1, .int x1), (2, .int x2), (3, .int x3)] → xG D cid b A sh d s H locs → W p l e (xRm 0 0 0) s m av below meth c H locs 0 0 (MQ below (xQ D cid b ex A (some (.int r)) sh dz) av s 0 0 A) (F0 m 2 ls []) := by
    intro n
    induction n with
    | zero =>
      intro q0 x1 x2 x3 d hf
      have hf : (none : Option (Int32 × xD)) = some (r, dz) := hf
      cases hf
    | succ n hrec2 =>
      intro q0 x1 x2 x3 d hf H locs ls hl G
      have hf : b_X3_indexOf_2 sh (xloop (fun _ _ _ _ _ => none) (b_X3_indexOf_2 sh) n) q0 x1 x2 x3 d = some (r, dz) := hf
      unfold b_X3_indexOf_2 at hf
      refine lv_iload_n hx hb dX3_indexOf_2 rfl (lv_at hl 3 rfl) ?_
      refine lv_iload_n hx hb dX3_indexOf_3 rfl (lv_at hl 1 rfl) ?_
      refine lv_icmp_ge (tgt := 28) hx hb dX3_indexOf_4 (by decide) (fun c => ?_) (fun c => ?_)
      · have hf := x_pos c hf
        exact K28 d hf _ _ ls (lv_sub hl [] rfl) G
      · have hf := x_neg c hf
        refine lv_iload_n hx hb dX3_indexOf_7 rfl (lv_at hl 3 rfl) ?_
        refine lv_aload_n hx hb dX3_indexOf_8 rfl (lv_at hl 0 rfl) ?_
        obtain ⟨v1, hv1, hf⟩ := x_ob hf
        refine xr_ilen S G hv1 dX3_indexOf_9 ?_
        refine lv_icmp_ge (tgt := 28) hx hb dX3_indexOf_10 (by decide) (fun c => ?_) (fun c => ?_)
        · have hf := x_pos c hf
          exact K28 d hf _ _ ls (lv_sub hl [] rfl) G
        · have hf := x_neg c hf
          refine lv_aload_n hx hb dX3_indexOf_13 rfl (lv_at hl 0 rfl) ?_
          refine lv_iload_n hx hb dX3_indexOf_14 rfl (lv_at hl 3 rfl) ?_
          obtain ⟨v2, hv2, hf⟩ := x_ob hf
          refine xr_iald S G hv2 dX3_indexOf_15 ?_
          refine lv_iload_n hx hb dX3_indexOf_16 rfl (lv_at hl 2 rfl) ?_
          refine lv_icmp_ne (tgt := 22) hx hb dX3_indexOf_17 (by decide) (fun c => ?_) (fun c => ?_)
          · have hf := x_neg c hf
            refine lv_iinc (v := (x3 + 1)) (lv' := [(3, .int (x3 + 1)), (0, .ref (b + q0)), (1, .int x1), (2, .int x2)]) hx hb dX3_indexOf_22 hl (k := 3) rfl rfl (by decide) rfl (fun ls hl => ?_)
            refine lv_goto (tgt := 2) hx hb dX3_indexOf_25 (by decide) ?_
            exact hrec2 q0 x1 x2 (x3 + 1) d hf _ _ ls (lv_sub hl [1, 2, 3, 0] rfl) G
          · have hf := x_pos c hf
            exact K20 x3 d hf _ _ ls (lv_sub hl [3] rfl) G
  unfold f_X3_indexOf at hf
  refine lv_iconst (v := (0 : Int32)) hx hb dX3_indexOf_0 (by decide) ?_
  refine lv_istore_n (lv' := [(3, .int (0 : Int32)), (0, .ref (b + q0)), (1, .int x1), (2, .int x2)]) hx hb dX3_indexOf_1 rfl hl (by decide) rfl (fun ls hl => ?_)
  exact K2 xF q0 x1 x2 (0 : Int32) d hf _ _ ls (lv_sub hl [1, 2, 3, 0] rfl) G
-- HalfLandings$Plan.benchNamed(I)I
theorem dX3_benchNamed_0 : decode cX3_benchNamed 0 = .ok (.aload_n 0, 1) := by decide +kernel
theorem dX3_benchNamed_1 : decode cX3_benchNamed 1 = .ok (.getfield 27, 3) := by decide +kernel
theorem dX3_benchNamed_4 : decode cX3_benchNamed 4 = .ok (.aload_n 0, 1) := by decide +kernel
theorem dX3_benchNamed_5 : decode cX3_benchNamed 5 = .ok (.getfield 24, 3) := by decide +kernel
theorem dX3_benchNamed_8 : decode cX3_benchNamed 8 = .ok (.iload_n 1, 1) := by decide +kernel
theorem dX3_benchNamed_9 : decode cX3_benchNamed 9 = .ok (.invokestatic 86, 3) := by decide +kernel
theorem dX3_benchNamed_12 : decode cX3_benchNamed 12 = .ok (.ireturn, 1) := by decide +kernel
theorem hd_X3_benchNamed : yX3_benchNamed.cls = xCn 3 ∧ yX3_benchNamed.cls ≠ "java/lang/invoke/MethodHandle" ∧ yX3_benchNamed.cls ≠ "java/lang/invoke/VarHandle" ∧ (parseMethodDescriptor yX3_benchNamed.desc).map (fun d => d.parameters.length) = some 1 := by decide +kernel
def f_X3_benchNamed (sh : List xSh) (q0 : Nat) (x1 : Int32) (d : xD) : Option (Int32 × xD) :=
  (xgR 3 sh d q0 5).bind fun v1 => (xgI 3 sh d q0 4).bind fun v2 => (f_X3_indexOf sh v1 v2 x1 d).bind fun z3 => some (z3.1, z3.2)
set_option maxHeartbeats 4000000 in
set_option maxRecDepth 100000 in
theorem mt_X3_benchNamed (l : Launch) (D : va_G) (cid : FieldType → ClassId) (b : Nat) (ex : Bool) (sa sv B0 : Nat) (sh : List xSh) (q0 : Nat) (x1 : Int32) (d : xD) (r : Int32) (dz : xD) (hf : f_X3_benchNamed sh q0 x1 d = some (r, dz)) : xMet l yX3_benchNamed cX3_benchNamed 2 (some .int) 1 0 0 D cid b ex sa sv B0 [.ref (b + q0), .int x1] sh d (some (.int r)) sh dz := by
  refine xMet.of (by decide) (Nat.le_of_ble_eq_true rfl) ?_
  intro p e s m below meth c ls A S hr hin G hl
  have hl : lv_has ls 2 [(0, .ref (b + q0)), (1, .int x1)] := hl
  generalize ([.ref (b + q0), .int x1] : List Value).toArray = av at S ⊢
  have hx := S.1
  have hb := S.2.1
  have hml := S.2.2.1
  have hown := S.2.2.2.1
  have hts := S.2.2.2.2.1
  unfold f_X3_benchNamed at hf
  refine lv_aload_n hx hb dX3_benchNamed_0 rfl (lv_at hl 0 rfl) ?_
  obtain ⟨v1, hv1, hf⟩ := x_ob hf
  refine xr_getR (ci := 3) (k := 5) S G hv1 rfl kw_95 dX3_benchNamed_1 ?_
  refine lv_aload_n hx hb dX3_benchNamed_4 rfl (lv_at hl 0 rfl) ?_
  obtain ⟨v2, hv2, hf⟩ := x_ob hf
  refine xr_getI (ci := 3) (k := 4) S G hv2 rfl kw_92 dX3_benchNamed_5 ?_
  refine lv_iload_n hx hb dX3_benchNamed_8 rfl (lv_at hl 1 rfl) ?_
  obtain ⟨z3, hz3, hf⟩ := x_ob hf
  refine xr_callS (As := [.ref (b + v1), .int v2, .int x1]) (rest := []) (st1 := [.int z3.1]) S G hl.1 (fun _ => rfl) (mt_X3_indexOf l D cid b ex sa sv B0 sh v1 v2 x1 d _ _ hz3) kw_617 kw_618 kw_2 kw_619 hd_X3_indexOf ⟨Nat.le_of_ble_eq_true rfl, Nat.le_of_ble_eq_true rfl⟩ rfl rfl rfl (Nat.le_of_ble_eq_true rfl) ⟨Nat.le_of_ble_eq_true rfl, Nat.le_of_ble_eq_true rfl⟩ dX3_benchNamed_9 (fun H locs G => ?_)
  cases hf
  exact xr_iret S G (fun _ => rfl) hr dX3_benchNamed_12
-- HalfLandings$Plan.walkerNamed(I)I
theorem dX3_walkerNamed_0 : decode cX3_walkerNamed 0 = .ok (.aload_n 0, 1) := by decide +kernel
theorem dX3_walkerNamed_1 : decode cX3_walkerNamed 1 = .ok (.getfield 43, 3) := by decide +kernel
theorem dX3_walkerNamed_4 : decode cX3_walkerNamed 4 = .ok (.aload_n 0, 1) := by decide +kernel
theorem dX3_walkerNamed_5 : decode cX3_walkerNamed 5 = .ok (.getfield 40, 3) := by decide +kernel
theorem dX3_walkerNamed_8 : decode cX3_walkerNamed 8 = .ok (.iload_n 1, 1) := by decide +kernel
theorem dX3_walkerNamed_9 : decode cX3_walkerNamed 9 = .ok (.invokestatic 86, 3) := by decide +kernel
theorem dX3_walkerNamed_12 : decode cX3_walkerNamed 12 = .ok (.ireturn, 1) := by decide +kernel
theorem hd_X3_walkerNamed : yX3_walkerNamed.cls = xCn 3 ∧ yX3_walkerNamed.cls ≠ "java/lang/invoke/MethodHandle" ∧ yX3_walkerNamed.cls ≠ "java/lang/invoke/VarHandle" ∧ (parseMethodDescriptor yX3_walkerNamed.desc).map (fun d => d.parameters.length) = some 1 := by decide +kernel
def f_X3_walkerNamed (sh : List xSh) (q0 : Nat) (x1 : Int32) (d : xD) : Option (Int32 × xD) :=
  (xgR 3 sh d q0 10).bind fun v1 => (xgI 3 sh d q0 9).bind fun v2 => (f_X3_indexOf sh v1 v2 x1 d).bind fun z3 => some (z3.1, z3.2)
set_option maxHeartbeats 4000000 in
set_option maxRecDepth 100000 in
theorem mt_X3_walkerNamed (l : Launch) (D : va_G) (cid : FieldType → ClassId) (b : Nat) (ex : Bool) (sa sv B0 : Nat) (sh : List xSh) (q0 : Nat) (x1 : Int32) (d : xD) (r : Int32) (dz : xD) (hf : f_X3_walkerNamed sh q0 x1 d = some (r, dz)) : xMet l yX3_walkerNamed cX3_walkerNamed 2 (some .int) 1 0 0 D cid b ex sa sv B0 [.ref (b + q0), .int x1] sh d (some (.int r)) sh dz := by
  refine xMet.of (by decide) (Nat.le_of_ble_eq_true rfl) ?_
  intro p e s m below meth c ls A S hr hin G hl
  have hl : lv_has ls 2 [(0, .ref (b + q0)), (1, .int x1)] := hl
  generalize ([.ref (b + q0), .int x1] : List Value).toArray = av at S ⊢
  have hx := S.1
  have hb := S.2.1
  have hml := S.2.2.1
  have hown := S.2.2.2.1
  have hts := S.2.2.2.2.1
  unfold f_X3_walkerNamed at hf
  refine lv_aload_n hx hb dX3_walkerNamed_0 rfl (lv_at hl 0 rfl) ?_
  obtain ⟨v1, hv1, hf⟩ := x_ob hf
  refine xr_getR (ci := 3) (k := 10) S G hv1 rfl kw_107 dX3_walkerNamed_1 ?_
  refine lv_aload_n hx hb dX3_walkerNamed_4 rfl (lv_at hl 0 rfl) ?_
  obtain ⟨v2, hv2, hf⟩ := x_ob hf
  refine xr_getI (ci := 3) (k := 9) S G hv2 rfl kw_102 dX3_walkerNamed_5 ?_
  refine lv_iload_n hx hb dX3_walkerNamed_8 rfl (lv_at hl 1 rfl) ?_
  obtain ⟨z3, hz3, hf⟩ := x_ob hf
  refine xr_callS (As := [.ref (b + v1), .int v2, .int x1]) (rest := []) (st1 := [.int z3.1]) S G hl.1 (fun _ => rfl) (mt_X3_indexOf l D cid b ex sa sv B0 sh v1 v2 x1 d _ _ hz3) kw_617 kw_618 kw_2 kw_619 hd_X3_indexOf ⟨Nat.le_of_ble_eq_true rfl, Nat.le_of_ble_eq_true rfl⟩ rfl rfl rfl (Nat.le_of_ble_eq_true rfl) ⟨Nat.le_of_ble_eq_true rfl, Nat.le_of_ble_eq_true rfl⟩ dX3_walkerNamed_9 (fun H locs G => ?_)
  cases hf
  exact xr_iret S G (fun _ => rfl) hr dX3_walkerNamed_12
-- HalfLandings$Plan.addBench(III)V
theorem dX3_addBench_0 : decode cX3_addBench 0 = .ok (.aload_n 0, 1) := by decide +kernel
theorem dX3_addBench_1 : decode cX3_addBench 1 = .ok (.getfield 24, 3) := by decide +kernel
theorem dX3_addBench_4 : decode cX3_addBench 4 = .ok (.bipush 8, 2) := by decide +kernel
theorem dX3_addBench_6 : decode cX3_addBench 6 = .ok (.if_icmp .ge 13, 3) := by decide +kernel
theorem dX3_addBench_9 : decode cX3_addBench 9 = .ok (.iload_n 2, 1) := by decide +kernel
theorem dX3_addBench_10 : decode cX3_addBench 10 = .ok (.ifCond .lt 9, 3) := by decide +kernel
theorem dX3_addBench_13 : decode cX3_addBench 13 = .ok (.iload_n 2, 1) := by decide +kernel
theorem dX3_addBench_14 : decode cX3_addBench 14 = .ok (.bipush 60, 2) := by decide +kernel
theorem dX3_addBench_16 : decode cX3_addBench 16 = .ok (.if_icmp .le 4, 3) := by decide +kernel
theorem dX3_addBench_19 : decode cX3_addBench 19 = .ok (.return_, 1) := by decide +kernel
theorem dX3_addBench_20 : decode cX3_addBench 20 = .ok (.aload_n 0, 1) := by decide +kernel
theorem dX3_addBench_21 : decode cX3_addBench 21 = .ok (.getfield 27, 3) := by decide +kernel
theorem dX3_addBench_24 : decode cX3_addBench 24 = .ok (.aload_n 0, 1) := by decide +kernel
theorem dX3_addBench_25 : decode cX3_addBench 25 = .ok (.getfield 24, 3) := by decide +kernel
theorem dX3_addBench_28 : decode cX3_addBench 28 = .ok (.iload_n 1, 1) := by decide +kernel
theorem dX3_addBench_29 : decode cX3_addBench 29 = .ok (.iastore, 1) := by decide +kernel
theorem dX3_addBench_30 : decode cX3_addBench 30 = .ok (.aload_n 0, 1) := by decide +kernel
theorem dX3_addBench_31 : decode cX3_addBench 31 = .ok (.getfield 31, 3) := by decide +kernel
theorem dX3_addBench_34 : decode cX3_addBench 34 = .ok (.aload_n 0, 1) := by decide +kernel
theorem dX3_addBench_35 : decode cX3_addBench 35 = .ok (.getfield 24, 3) := by decide +kernel
theorem dX3_addBench_38 : decode cX3_addBench 38 = .ok (.iload_n 2, 1) := by decide +kernel
theorem dX3_addBench_39 : decode cX3_addBench 39 = .ok (.iastore, 1) := by decide +kernel
theorem dX3_addBench_40 : decode cX3_addBench 40 = .ok (.aload_n 0, 1) := by decide +kernel
theorem dX3_addBench_41 : decode cX3_addBench 41 = .ok (.getfield 34, 3) := by decide +kernel
theorem dX3_addBench_44 : decode cX3_addBench 44 = .ok (.aload_n 0, 1) := by decide +kernel
theorem dX3_addBench_45 : decode cX3_addBench 45 = .ok (.getfield 24, 3) := by decide +kernel
theorem dX3_addBench_48 : decode cX3_addBench 48 = .ok (.iload_n 3, 1) := by decide +kernel
theorem dX3_addBench_49 : decode cX3_addBench 49 = .ok (.iastore, 1) := by decide +kernel
theorem dX3_addBench_50 : decode cX3_addBench 50 = .ok (.aload_n 0, 1) := by decide +kernel
theorem dX3_addBench_51 : decode cX3_addBench 51 = .ok (.getfield 37, 3) := by decide +kernel
theorem dX3_addBench_54 : decode cX3_addBench 54 = .ok (.iload_n 2, 1) := by decide +kernel
theorem dX3_addBench_55 : decode cX3_addBench 55 = .ok (.aload_n 0, 1) := by decide +kernel
theorem dX3_addBench_56 : decode cX3_addBench 56 = .ok (.getfield 24, 3) := by decide +kernel
theorem dX3_addBench_59 : decode cX3_addBench 59 = .ok (.iastore, 1) := by decide +kernel
theorem dX3_addBench_60 : decode cX3_addBench 60 = .ok (.aload_n 0, 1) := by decide +kernel
theorem dX3_addBench_61 : decode cX3_addBench 61 = .ok (.dup, 1) := by decide +kernel
theorem dX3_addBench_62 : decode cX3_addBench 62 = .ok (.getfield 24, 3) := by decide +kernel
theorem dX3_addBench_65 : decode cX3_addBench 65 = .ok (.iconst 1, 1) := by decide +kernel
theorem dX3_addBench_66 : decode cX3_addBench 66 = .ok (.iadd, 1) := by decide +kernel
theorem dX3_addBench_67 : decode cX3_addBench 67 = .ok (.putfield 24, 3) := by decide +kernel
theorem dX3_addBench_70 : decode cX3_addBench 70 = .ok (.return_, 1) := by decide +kernel
theorem hd_X3_addBench : yX3_addBench.cls = xCn 3 ∧ yX3_addBench.cls ≠ "java/lang/invoke/MethodHandle" ∧ yX3_addBench.cls ≠ "java/lang/invoke/VarHandle" ∧ (parseMethodDescriptor yX3_addBench.desc).map (fun d => d.parameters.length) = some 3 := by decide +kernel
def k_X3_addBench_19 (sh : List xSh) (d : xD) : Option xD :=
  some d
def f_X3_addBench (sh : List xSh) (q0 : Nat) (x1 : Int32) (x2 : Int32) (x3 : Int32) (d : xD) : Option xD :=
  (xgI 3 sh d q0 4).bind fun v1 => if (8 : Int32) ≤ v1 then (k_X3_addBench_19 sh d) else (if x2 < 0 then (k_X3_addBench_19 sh d) else (if x2 ≤ (60 : Int32) then ((xgR 3 sh d q0 5).bind fun v2 => (xgI 3 sh d q0 4).bind fun v3 => (xsI .int sh d v2 v3 x1).bind fun d4 => (xgR 3 sh d4 q0 6).bind fun v5 => (xgI 3 sh d4 q0 4).bind fun v6 => (xsI .int sh d4 v5 v6 x2).bind fun d7 => (xgR 3 sh d7 q0 7).bind fun v8 => (xgI 3 sh d7 q0 4).bind fun v9 => (xsI .int sh d7 v8 v9 x3).bind fun d10 => (xgR 3 sh d10 q0 8).bind fun v11 => (xgI 3 sh d10 q0 4).bind fun v12 => (xsI .int sh d10 v11 x2 v12).bind fun d13 => (xgI 3 sh d13 q0 4).bind fun v14 => (xpI 3 sh d13 q0 4 (v14 + (1 : Int32))).bind fun d15 => some d15) else (k_X3_addBench_19 sh d)))
set_option maxHeartbeats 4000000 in
set_option maxRecDepth 100000 in
theorem mt_X3_addBench (l : Launch) (D : va_G) (cid : FieldType → ClassId) (b : Nat) (ex : Bool) (sa sv B0 : Nat) (sh : List xSh) (q0 : Nat) (x1 : Int32) (x2 : Int32) (x3 : Int32) (d : xD) (dz : xD) (hf : f_X3_addBench sh q0 x1 x2 x3 d = some dz) : xMet l yX3_addBench cX3_addBench 4 none 0 0 0 D cid b ex sa sv B0 [.ref (b + q0), .int x1, .int x2, .int x3] sh d none sh dz := by
  refine xMet.of (by decide) (Nat.le_of_ble_eq_true rfl) ?_
  intro p e s m below meth c ls A S hr hin G hl
  have hl : lv_has ls 4 [(0, .ref (b + q0)), (1, .int x1), (2, .int x2), (3, .int x3)] := hl
  generalize ([.ref (b + q0), .int x1, .int x2, .int x3] : List Value).toArray = av at S ⊢
  have hx := S.1
  have hb := S.2.1
  have hml := S.2.2.1
  have hown := S.2.2.2.1
  have hts := S.2.2.2.2.1
  have K19 : ∀ (d : xD), k_X3_addBench_19 sh d = some dz → ∀ (H : Heap) (locs : List Loc) (ls : Array Slot), lv_has ls 4 [] → xG D cid b A sh d s H locs → W p l e (xRm 0 0 0) s m av below meth c H locs 0 0 (MQ below (xQ D cid b ex A none sh dz) av s 0 0 A) (F0 m 19 ls []) := by
    intro d hf H locs ls hl G
    unfold k_X3_addBench_19 at hf
    cases hf
    exact xr_vret S G (fun _ => rfl) hr dX3_addBench_19
  unfold f_X3_addBench at hf
  refine lv_aload_n hx hb dX3_addBench_0 rfl (lv_at hl 0 rfl) ?_
  obtain ⟨v1, hv1, hf⟩ := x_ob hf
  refine xr_getI (ci := 3) (k := 4) S G hv1 rfl kw_92 dX3_addBench_1 ?_
  refine lv_bipush (v := (8 : Int32)) hx hb dX3_addBench_4 (by decide) ?_
  refine lv_icmp_ge (tgt := 19) hx hb dX3_addBench_6 (by decide) (fun c => ?_) (fun c => ?_)
  · have hf := x_pos c hf
    exact K19 d hf _ _ ls (lv_sub hl [] rfl) G
  · have hf := x_neg c hf
    refine lv_iload_n hx hb dX3_addBench_9 rfl (lv_at hl 2 rfl) ?_
    refine lv_if_lt (tgt := 19) hx hb dX3_addBench_10 (by decide) (fun c => ?_) (fun c => ?_)
    · have hf := x_pos c hf
      exact K19 d hf _ _ ls (lv_sub hl [] rfl) G
    · have hf := x_neg c hf
      refine lv_iload_n hx hb dX3_addBench_13 rfl (lv_at hl 2 rfl) ?_
      refine lv_bipush (v := (60 : Int32)) hx hb dX3_addBench_14 (by decide) ?_
      refine lv_icmp_le (tgt := 20) hx hb dX3_addBench_16 (by decide) (fun c => ?_) (fun c => ?_)
      · have hf := x_pos c hf
        refine lv_aload_n hx hb dX3_addBench_20 rfl (lv_at hl 0 rfl) ?_
        obtain ⟨v2, hv2, hf⟩ := x_ob hf
        refine xr_getR (ci := 3) (k := 5) S G hv2 rfl kw_95 dX3_addBench_21 ?_
        refine lv_aload_n hx hb dX3_addBench_24 rfl (lv_at hl 0 rfl) ?_
        obtain ⟨v3, hv3, hf⟩ := x_ob hf
        refine xr_getI (ci := 3) (k := 4) S G hv3 rfl kw_92 dX3_addBench_25 ?_
        refine lv_iload_n hx hb dX3_addBench_28 rfl (lv_at hl 1 rfl) ?_
        obtain ⟨d4, hd4, hf⟩ := x_ob hf
        refine xr_iast S G hd4 dX3_addBench_29 (fun H locs G => ?_)
        refine lv_aload_n hx hb dX3_addBench_30 rfl (lv_at hl 0 rfl) ?_
        obtain ⟨v5, hv5, hf⟩ := x_ob hf
        refine xr_getR (ci := 3) (k := 6) S G hv5 rfl kw_96 dX3_addBench_31 ?_
        refine lv_aload_n hx hb dX3_addBench_34 rfl (lv_at hl 0 rfl) ?_
        obtain ⟨v6, hv6, hf⟩ := x_ob hf
        refine xr_getI (ci := 3) (k := 4) S G hv6 rfl kw_92 dX3_addBench_35 ?_
        refine lv_iload_n hx hb dX3_addBench_38 rfl (lv_at hl 2 rfl) ?_
        obtain ⟨d7, hd7, hf⟩ := x_ob hf
        refine xr_iast S G hd7 dX3_addBench_39 (fun H locs G => ?_)
        refine lv_aload_n hx hb dX3_addBench_40 rfl (lv_at hl 0 rfl) ?_
        obtain ⟨v8, hv8, hf⟩ := x_ob hf
        refine xr_getR (ci := 3) (k := 7) S G hv8 rfl kw_99 dX3_addBench_41 ?_
        refine lv_aload_n hx hb dX3_addBench_44 rfl (lv_at hl 0 rfl) ?_
        obtain ⟨v9, hv9, hf⟩ := x_ob hf
        refine xr_getI (ci := 3) (k := 4) S G hv9 rfl kw_92 dX3_addBench_45 ?_
        refine lv_iload_n hx hb dX3_addBench_48 rfl (lv_at hl 3 rfl) ?_
        obtain ⟨d10, hd10, hf⟩ := x_ob hf
        refine xr_iast S G hd10 dX3_addBench_49 (fun H locs G => ?_)
        refine lv_aload_n hx hb dX3_addBench_50 rfl (lv_at hl 0 rfl) ?_
        obtain ⟨v11, hv11, hf⟩ := x_ob hf
        refine xr_getR (ci := 3) (k := 8) S G hv11 rfl kw_101 dX3_addBench_51 ?_
        refine lv_iload_n hx hb dX3_addBench_54 rfl (lv_at hl 2 rfl) ?_
        refine lv_aload_n hx hb dX3_addBench_55 rfl (lv_at hl 0 rfl) ?_
        obtain ⟨v12, hv12, hf⟩ := x_ob hf
        refine xr_getI (ci := 3) (k := 4) S G hv12 rfl kw_92 dX3_addBench_56 ?_
        obtain ⟨d13, hd13, hf⟩ := x_ob hf
        refine xr_iast S G hd13 dX3_addBench_59 (fun H locs G => ?_)
        refine lv_aload_n hx hb dX3_addBench_60 rfl (lv_at hl 0 rfl) ?_
        refine lv_dup hx hb dX3_addBench_61 rfl ?_
        obtain ⟨v14, hv14, hf⟩ := x_ob hf
        refine xr_getI (ci := 3) (k := 4) S G hv14 rfl kw_92 dX3_addBench_62 ?_
        refine lv_iconst (v := (1 : Int32)) hx hb dX3_addBench_65 (by decide) ?_
        refine lv_iadd hx hb dX3_addBench_66 ?_
        obtain ⟨d15, hd15, hf⟩ := x_ob hf
        refine xr_putI (ci := 3) (k := 4) S G hd15 rfl kw_92 dX3_addBench_67 (fun H locs G => ?_)
        cases hf
        exact xr_vret S G (fun _ => rfl) hr dX3_addBench_70
      · have hf := x_neg c hf
        exact K19 d hf _ _ ls (lv_sub hl [] rfl) G
-- HalfLandings$Plan.addWalker(IIIII)V
theorem dX3_addWalker_0 : decode cX3_addWalker 0 = .ok (.aload_n 0, 1) := by decide +kernel
theorem dX3_addWalker_1 : decode cX3_addWalker 1 = .ok (.getfield 40, 3) := by decide +kernel
theorem dX3_addWalker_4 : decode cX3_addWalker 4 = .ok (.bipush 6, 2) := by decide +kernel
theorem dX3_addWalker_6 : decode cX3_addWalker 6 = .ok (.if_icmp .lt 4, 3) := by decide +kernel
theorem dX3_addWalker_9 : decode cX3_addWalker 9 = .ok (.return_, 1) := by decide +kernel
theorem dX3_addWalker_10 : decode cX3_addWalker 10 = .ok (.aload_n 0, 1) := by decide +kernel
theorem dX3_addWalker_11 : decode cX3_addWalker 11 = .ok (.getfield 43, 3) := by decide +kernel
theorem dX3_addWalker_14 : decode cX3_addWalker 14 = .ok (.aload_n 0, 1) := by decide +kernel
theorem dX3_addWalker_15 : decode cX3_addWalker 15 = .ok (.getfield 40, 3) := by decide +kernel
theorem dX3_addWalker_18 : decode cX3_addWalker 18 = .ok (.iload_n 1, 1) := by decide +kernel
theorem dX3_addWalker_19 : decode cX3_addWalker 19 = .ok (.iastore, 1) := by decide +kernel
theorem dX3_addWalker_20 : decode cX3_addWalker 20 = .ok (.aload_n 0, 1) := by decide +kernel
theorem dX3_addWalker_21 : decode cX3_addWalker 21 = .ok (.getfield 46, 3) := by decide +kernel
theorem dX3_addWalker_24 : decode cX3_addWalker 24 = .ok (.aload_n 0, 1) := by decide +kernel
theorem dX3_addWalker_25 : decode cX3_addWalker 25 = .ok (.getfield 40, 3) := by decide +kernel
theorem dX3_addWalker_28 : decode cX3_addWalker 28 = .ok (.iload_n 2, 1) := by decide +kernel
theorem dX3_addWalker_29 : decode cX3_addWalker 29 = .ok (.iastore, 1) := by decide +kernel
theorem dX3_addWalker_30 : decode cX3_addWalker 30 = .ok (.aload_n 0, 1) := by decide +kernel
theorem dX3_addWalker_31 : decode cX3_addWalker 31 = .ok (.getfield 49, 3) := by decide +kernel
theorem dX3_addWalker_34 : decode cX3_addWalker 34 = .ok (.aload_n 0, 1) := by decide +kernel
theorem dX3_addWalker_35 : decode cX3_addWalker 35 = .ok (.getfield 40, 3) := by decide +kernel
theorem dX3_addWalker_38 : decode cX3_addWalker 38 = .ok (.iload_n 3, 1) := by decide +kernel
theorem dX3_addWalker_39 : decode cX3_addWalker 39 = .ok (.iastore, 1) := by decide +kernel
theorem dX3_addWalker_40 : decode cX3_addWalker 40 = .ok (.aload_n 0, 1) := by decide +kernel
theorem dX3_addWalker_41 : decode cX3_addWalker 41 = .ok (.getfield 52, 3) := by decide +kernel
theorem dX3_addWalker_44 : decode cX3_addWalker 44 = .ok (.aload_n 0, 1) := by decide +kernel
theorem dX3_addWalker_45 : decode cX3_addWalker 45 = .ok (.getfield 40, 3) := by decide +kernel
theorem dX3_addWalker_48 : decode cX3_addWalker 48 = .ok (.iload 4, 2) := by decide +kernel
theorem dX3_addWalker_50 : decode cX3_addWalker 50 = .ok (.iastore, 1) := by decide +kernel
theorem dX3_addWalker_51 : decode cX3_addWalker 51 = .ok (.aload_n 0, 1) := by decide +kernel
theorem dX3_addWalker_52 : decode cX3_addWalker 52 = .ok (.getfield 55, 3) := by decide +kernel
theorem dX3_addWalker_55 : decode cX3_addWalker 55 = .ok (.aload_n 0, 1) := by decide +kernel
theorem dX3_addWalker_56 : decode cX3_addWalker 56 = .ok (.getfield 40, 3) := by decide +kernel
theorem dX3_addWalker_59 : decode cX3_addWalker 59 = .ok (.iload 5, 2) := by decide +kernel
theorem dX3_addWalker_61 : decode cX3_addWalker 61 = .ok (.iastore, 1) := by decide +kernel
theorem dX3_addWalker_62 : decode cX3_addWalker 62 = .ok (.aload_n 0, 1) := by decide +kernel
theorem dX3_addWalker_63 : decode cX3_addWalker 63 = .ok (.dup, 1) := by decide +kernel
theorem dX3_addWalker_64 : decode cX3_addWalker 64 = .ok (.getfield 40, 3) := by decide +kernel
theorem dX3_addWalker_67 : decode cX3_addWalker 67 = .ok (.iconst 1, 1) := by decide +kernel
theorem dX3_addWalker_68 : decode cX3_addWalker 68 = .ok (.iadd, 1) := by decide +kernel
theorem dX3_addWalker_69 : decode cX3_addWalker 69 = .ok (.putfield 40, 3) := by decide +kernel
theorem dX3_addWalker_72 : decode cX3_addWalker 72 = .ok (.return_, 1) := by decide +kernel
theorem hd_X3_addWalker : yX3_addWalker.cls = xCn 3 ∧ yX3_addWalker.cls ≠ "java/lang/invoke/MethodHandle" ∧ yX3_addWalker.cls ≠ "java/lang/invoke/VarHandle" ∧ (parseMethodDescriptor yX3_addWalker.desc).map (fun d => d.parameters.length) = some 5 := by decide +kernel
def f_X3_addWalker (sh : List xSh) (q0 : Nat) (x1 : Int32) (x2 : Int32) (x3 : Int32) (x4 : Int32) (x5 : Int32) (d : xD) : Option xD :=
  (xgI 3 sh d q0 9).bind fun v1 => if v1 < (6 : Int32) then ((xgR 3 sh d q0 10).bind fun v2 => (xgI 3 sh d q0 9).bind fun v3 => (xsI .int sh d v2 v3 x1).bind fun d4 => (xgR 3 sh d4 q0 11).bind fun v5 => (xgI 3 sh d4 q0 9).bind fun v6 => (xsI .int sh d4 v5 v6 x2).bind fun d7 => (xgR 3 sh d7 q0 12).bind fun v8 => (xgI 3 sh d7 q0 9).bind fun v9 => (xsI .int sh d7 v8 v9 x3).bind fun d10 => (xgR 3 sh d10 q0 13).bind fun v11 => (xgI 3 sh d10 q0 9).bind fun v12 => (xsI .int sh d10 v11 v12 x4).bind fun d13 => (xgR 3 sh d13 q0 14).bind fun v14 => (xgI 3 sh d13 q0 9).bind fun v15 => (xsI .int sh d13 v14 v15 x5).bind fun d16 => (xgI 3 sh d16 q0 9).bind fun v17 => (xpI 3 sh d16 q0 9 (v17 + (1 : Int32))).bind fun d18 => some d18) else (some d)
set_option maxHeartbeats 4000000 in
set_option maxRecDepth 100000 in
theorem mt_X3_addWalker (l : Launch) (D : va_G) (cid : FieldType → ClassId) (b : Nat) (ex : Bool) (sa sv B0 : Nat) (sh : List xSh) (q0 : Nat) (x1 : Int32) (x2 : Int32) (x3 : Int32) (x4 : Int32) (x5 : Int32) (d : xD) (dz : xD) (hf : f_X3_addWalker sh q0 x1 x2 x3 x4 x5 d = some dz) : xMet l yX3_addWalker cX3_addWalker 6 none 0 0 0 D cid b ex sa sv B0 [.ref (b + q0), .int x1, .int x2, .int x3, .int x4, .int x5] sh d none sh dz := by
  refine xMet.of (by decide) (Nat.le_of_ble_eq_true rfl) ?_
  intro p e s m below meth c ls A S hr hin G hl
  have hl : lv_has ls 6 [(0, .ref (b + q0)), (1, .int x1), (2, .int x2), (3, .int x3), (4, .int x4), (5, .int x5)] := hl
  generalize ([.ref (b + q0), .int x1, .int x2, .int x3, .int x4, .int x5] : List Value).toArray = av at S ⊢
  have hx := S.1
  have hb := S.2.1
  have hml := S.2.2.1
  have hown := S.2.2.2.1
  have hts := S.2.2.2.2.1
  unfold f_X3_addWalker at hf
  refine lv_aload_n hx hb dX3_addWalker_0 rfl (lv_at hl 0 rfl) ?_
  obtain ⟨v1, hv1, hf⟩ := x_ob hf
  refine xr_getI (ci := 3) (k := 9) S G hv1 rfl kw_102 dX3_addWalker_1 ?_
  refine lv_bipush (v := (6 : Int32)) hx hb dX3_addWalker_4 (by decide) ?_
  refine lv_icmp_lt (tgt := 10) hx hb dX3_addWalker_6 (by decide) (fun c => ?_) (fun c => ?_)
  · have hf := x_pos c hf
    refine lv_aload_n hx hb dX3_addWalker_10 rfl (lv_at hl 0 rfl) ?_
    obtain ⟨v2, hv2, hf⟩ := x_ob hf
    refine xr_getR (ci := 3) (k := 10) S G hv2 rfl kw_107 dX3_addWalker_11 ?_
    refine lv_aload_n hx hb dX3_addWalker_14 rfl (lv_at hl 0 rfl) ?_
    obtain ⟨v3, hv3, hf⟩ := x_ob hf
    refine xr_getI (ci := 3) (k := 9) S G hv3 rfl kw_102 dX3_addWalker_15 ?_
    refine lv_iload_n hx hb dX3_addWalker_18 rfl (lv_at hl 1 rfl) ?_
    obtain ⟨d4, hd4, hf⟩ := x_ob hf
    refine xr_iast S G hd4 dX3_addWalker_19 (fun H locs G => ?_)
    refine lv_aload_n hx hb dX3_addWalker_20 rfl (lv_at hl 0 rfl) ?_
    obtain ⟨v5, hv5, hf⟩ := x_ob hf
    refine xr_getR (ci := 3) (k := 11) S G hv5 rfl kw_108 dX3_addWalker_21 ?_
    refine lv_aload_n hx hb dX3_addWalker_24 rfl (lv_at hl 0 rfl) ?_
    obtain ⟨v6, hv6, hf⟩ := x_ob hf
    refine xr_getI (ci := 3) (k := 9) S G hv6 rfl kw_102 dX3_addWalker_25 ?_
    refine lv_iload_n hx hb dX3_addWalker_28 rfl (lv_at hl 2 rfl) ?_
    obtain ⟨d7, hd7, hf⟩ := x_ob hf
    refine xr_iast S G hd7 dX3_addWalker_29 (fun H locs G => ?_)
    refine lv_aload_n hx hb dX3_addWalker_30 rfl (lv_at hl 0 rfl) ?_
    obtain ⟨v8, hv8, hf⟩ := x_ob hf
    refine xr_getR (ci := 3) (k := 12) S G hv8 rfl kw_110 dX3_addWalker_31 ?_
    refine lv_aload_n hx hb dX3_addWalker_34 rfl (lv_at hl 0 rfl) ?_
    obtain ⟨v9, hv9, hf⟩ := x_ob hf
    refine xr_getI (ci := 3) (k := 9) S G hv9 rfl kw_102 dX3_addWalker_35 ?_
    refine lv_iload_n hx hb dX3_addWalker_38 rfl (lv_at hl 3 rfl) ?_
    obtain ⟨d10, hd10, hf⟩ := x_ob hf
    refine xr_iast S G hd10 dX3_addWalker_39 (fun H locs G => ?_)
    refine lv_aload_n hx hb dX3_addWalker_40 rfl (lv_at hl 0 rfl) ?_
    obtain ⟨v11, hv11, hf⟩ := x_ob hf
    refine xr_getR (ci := 3) (k := 13) S G hv11 rfl kw_112 dX3_addWalker_41 ?_
    refine lv_aload_n hx hb dX3_addWalker_44 rfl (lv_at hl 0 rfl) ?_
    obtain ⟨v12, hv12, hf⟩ := x_ob hf
    refine xr_getI (ci := 3) (k := 9) S G hv12 rfl kw_102 dX3_addWalker_45 ?_
    refine lv_iload hx hb dX3_addWalker_48 (lv_at hl 4 rfl) ?_
    obtain ⟨d13, hd13, hf⟩ := x_ob hf
    refine xr_iast S G hd13 dX3_addWalker_50 (fun H locs G => ?_)
    refine lv_aload_n hx hb dX3_addWalker_51 rfl (lv_at hl 0 rfl) ?_
    obtain ⟨v14, hv14, hf⟩ := x_ob hf
    refine xr_getR (ci := 3) (k := 14) S G hv14 rfl kw_114 dX3_addWalker_52 ?_
    refine lv_aload_n hx hb dX3_addWalker_55 rfl (lv_at hl 0 rfl) ?_
    obtain ⟨v15, hv15, hf⟩ := x_ob hf
    refine xr_getI (ci := 3) (k := 9) S G hv15 rfl kw_102 dX3_addWalker_56 ?_
    refine lv_iload hx hb dX3_addWalker_59 (lv_at hl 5 rfl) ?_
    obtain ⟨d16, hd16, hf⟩ := x_ob hf
    refine xr_iast S G hd16 dX3_addWalker_61 (fun H locs G => ?_)
    refine lv_aload_n hx hb dX3_addWalker_62 rfl (lv_at hl 0 rfl) ?_
    refine lv_dup hx hb dX3_addWalker_63 rfl ?_
    obtain ⟨v17, hv17, hf⟩ := x_ob hf
    refine xr_getI (ci := 3) (k := 9) S G hv17 rfl kw_102 dX3_addWalker_64 ?_
    refine lv_iconst (v := (1 : Int32)) hx hb dX3_addWalker_67 (by decide) ?_
    refine lv_iadd hx hb dX3_addWalker_68 ?_
    obtain ⟨d18, hd18, hf⟩ := x_ob hf
    refine xr_putI (ci := 3) (k := 9) S G hd18 rfl kw_102 dX3_addWalker_69 (fun H locs G => ?_)
    cases hf
    exact xr_vret S G (fun _ => rfl) hr dX3_addWalker_72
  · have hf := x_neg c hf
    cases hf
    exact xr_vret S G (fun _ => rfl) hr dX3_addWalker_9
-- HalfLandings$Plan.addRest(III)V
theorem dX3_addRest_0 : decode cX3_addRest 0 = .ok (.aload_n 0, 1) := by decide +kernel
theorem dX3_addRest_1 : decode cX3_addRest 1 = .ok (.getfield 58, 3) := by decide +kernel
theorem dX3_addRest_4 : decode cX3_addRest 4 = .ok (.bipush 12, 2) := by decide +kernel
theorem dX3_addRest_6 : decode cX3_addRest 6 = .ok (.if_icmp .lt 4, 3) := by decide +kernel
theorem dX3_addRest_9 : decode cX3_addRest 9 = .ok (.return_, 1) := by decide +kernel
theorem dX3_addRest_10 : decode cX3_addRest 10 = .ok (.aload_n 0, 1) := by decide +kernel
theorem dX3_addRest_11 : decode cX3_addRest 11 = .ok (.getfield 61, 3) := by decide +kernel
theorem dX3_addRest_14 : decode cX3_addRest 14 = .ok (.aload_n 0, 1) := by decide +kernel
theorem dX3_addRest_15 : decode cX3_addRest 15 = .ok (.getfield 58, 3) := by decide +kernel
theorem dX3_addRest_18 : decode cX3_addRest 18 = .ok (.iload_n 1, 1) := by decide +kernel
theorem dX3_addRest_19 : decode cX3_addRest 19 = .ok (.iastore, 1) := by decide +kernel
theorem dX3_addRest_20 : decode cX3_addRest 20 = .ok (.aload_n 0, 1) := by decide +kernel
theorem dX3_addRest_21 : decode cX3_addRest 21 = .ok (.getfield 64, 3) := by decide +kernel
theorem dX3_addRest_24 : decode cX3_addRest 24 = .ok (.aload_n 0, 1) := by decide +kernel
theorem dX3_addRest_25 : decode cX3_addRest 25 = .ok (.getfield 58, 3) := by decide +kernel
theorem dX3_addRest_28 : decode cX3_addRest 28 = .ok (.iload_n 2, 1) := by decide +kernel
theorem dX3_addRest_29 : decode cX3_addRest 29 = .ok (.iastore, 1) := by decide +kernel
theorem dX3_addRest_30 : decode cX3_addRest 30 = .ok (.aload_n 0, 1) := by decide +kernel
theorem dX3_addRest_31 : decode cX3_addRest 31 = .ok (.getfield 67, 3) := by decide +kernel
theorem dX3_addRest_34 : decode cX3_addRest 34 = .ok (.aload_n 0, 1) := by decide +kernel
theorem dX3_addRest_35 : decode cX3_addRest 35 = .ok (.getfield 58, 3) := by decide +kernel
theorem dX3_addRest_38 : decode cX3_addRest 38 = .ok (.iload_n 3, 1) := by decide +kernel
theorem dX3_addRest_39 : decode cX3_addRest 39 = .ok (.iastore, 1) := by decide +kernel
theorem dX3_addRest_40 : decode cX3_addRest 40 = .ok (.aload_n 0, 1) := by decide +kernel
theorem dX3_addRest_41 : decode cX3_addRest 41 = .ok (.dup, 1) := by decide +kernel
theorem dX3_addRest_42 : decode cX3_addRest 42 = .ok (.getfield 58, 3) := by decide +kernel
theorem dX3_addRest_45 : decode cX3_addRest 45 = .ok (.iconst 1, 1) := by decide +kernel
theorem dX3_addRest_46 : decode cX3_addRest 46 = .ok (.iadd, 1) := by decide +kernel
theorem dX3_addRest_47 : decode cX3_addRest 47 = .ok (.putfield 58, 3) := by decide +kernel
theorem dX3_addRest_50 : decode cX3_addRest 50 = .ok (.return_, 1) := by decide +kernel
theorem hd_X3_addRest : yX3_addRest.cls = xCn 3 ∧ yX3_addRest.cls ≠ "java/lang/invoke/MethodHandle" ∧ yX3_addRest.cls ≠ "java/lang/invoke/VarHandle" ∧ (parseMethodDescriptor yX3_addRest.desc).map (fun d => d.parameters.length) = some 3 := by decide +kernel
def f_X3_addRest (sh : List xSh) (q0 : Nat) (x1 : Int32) (x2 : Int32) (x3 : Int32) (d : xD) : Option xD :=
  (xgI 3 sh d q0 15).bind fun v1 => if v1 < (12 : Int32) then ((xgR 3 sh d q0 16).bind fun v2 => (xgI 3 sh d q0 15).bind fun v3 => (xsI .int sh d v2 v3 x1).bind fun d4 => (xgR 3 sh d4 q0 17).bind fun v5 => (xgI 3 sh d4 q0 15).bind fun v6 => (xsI .int sh d4 v5 v6 x2).bind fun d7 => (xgR 3 sh d7 q0 18).bind fun v8 => (xgI 3 sh d7 q0 15).bind fun v9 => (xsI .int sh d7 v8 v9 x3).bind fun d10 => (xgI 3 sh d10 q0 15).bind fun v11 => (xpI 3 sh d10 q0 15 (v11 + (1 : Int32))).bind fun d12 => some d12) else (some d)
set_option maxHeartbeats 4000000 in
set_option maxRecDepth 100000 in
theorem mt_X3_addRest (l : Launch) (D : va_G) (cid : FieldType → ClassId) (b : Nat) (ex : Bool) (sa sv B0 : Nat) (sh : List xSh) (q0 : Nat) (x1 : Int32) (x2 : Int32) (x3 : Int32) (d : xD) (dz : xD) (hf : f_X3_addRest sh q0 x1 x2 x3 d = some dz) : xMet l yX3_addRest cX3_addRest 4 none 0 0 0 D cid b ex sa sv B0 [.ref (b + q0), .int x1, .int x2, .int x3] sh d none sh dz := by
  refine xMet.of (by decide) (Nat.le_of_ble_eq_true rfl) ?_
  intro p e s m below meth c ls A S hr hin G hl
  have hl : lv_has ls 4 [(0, .ref (b + q0)), (1, .int x1), (2, .int x2), (3, .int x3)] := hl
  generalize ([.ref (b + q0), .int x1, .int x2, .int x3] : List Value).toArray = av at S ⊢
  have hx := S.1
  have hb := S.2.1
  have hml := S.2.2.1
  have hown := S.2.2.2.1
  have hts := S.2.2.2.2.1
  unfold f_X3_addRest at hf
  refine lv_aload_n hx hb dX3_addRest_0 rfl (lv_at hl 0 rfl) ?_
  obtain ⟨v1, hv1, hf⟩ := x_ob hf
  refine xr_getI (ci := 3) (k := 15) S G hv1 rfl kw_116 dX3_addRest_1 ?_
  refine lv_bipush (v := (12 : Int32)) hx hb dX3_addRest_4 (by decide) ?_
  refine lv_icmp_lt (tgt := 10) hx hb dX3_addRest_6 (by decide) (fun c => ?_) (fun c => ?_)
  · have hf := x_pos c hf
    refine lv_aload_n hx hb dX3_addRest_10 rfl (lv_at hl 0 rfl) ?_
    obtain ⟨v2, hv2, hf⟩ := x_ob hf
    refine xr_getR (ci := 3) (k := 16) S G hv2 rfl kw_120 dX3_addRest_11 ?_
    refine lv_aload_n hx hb dX3_addRest_14 rfl (lv_at hl 0 rfl) ?_
    obtain ⟨v3, hv3, hf⟩ := x_ob hf
    refine xr_getI (ci := 3) (k := 15) S G hv3 rfl kw_116 dX3_addRest_15 ?_
    refine lv_iload_n hx hb dX3_addRest_18 rfl (lv_at hl 1 rfl) ?_
    obtain ⟨d4, hd4, hf⟩ := x_ob hf
    refine xr_iast S G hd4 dX3_addRest_19 (fun H locs G => ?_)
    refine lv_aload_n hx hb dX3_addRest_20 rfl (lv_at hl 0 rfl) ?_
    obtain ⟨v5, hv5, hf⟩ := x_ob hf
    refine xr_getR (ci := 3) (k := 17) S G hv5 rfl kw_122 dX3_addRest_21 ?_
    refine lv_aload_n hx hb dX3_addRest_24 rfl (lv_at hl 0 rfl) ?_
    obtain ⟨v6, hv6, hf⟩ := x_ob hf
    refine xr_getI (ci := 3) (k := 15) S G hv6 rfl kw_116 dX3_addRest_25 ?_
    refine lv_iload_n hx hb dX3_addRest_28 rfl (lv_at hl 2 rfl) ?_
    obtain ⟨d7, hd7, hf⟩ := x_ob hf
    refine xr_iast S G hd7 dX3_addRest_29 (fun H locs G => ?_)
    refine lv_aload_n hx hb dX3_addRest_30 rfl (lv_at hl 0 rfl) ?_
    obtain ⟨v8, hv8, hf⟩ := x_ob hf
    refine xr_getR (ci := 3) (k := 18) S G hv8 rfl kw_124 dX3_addRest_31 ?_
    refine lv_aload_n hx hb dX3_addRest_34 rfl (lv_at hl 0 rfl) ?_
    obtain ⟨v9, hv9, hf⟩ := x_ob hf
    refine xr_getI (ci := 3) (k := 15) S G hv9 rfl kw_116 dX3_addRest_35 ?_
    refine lv_iload_n hx hb dX3_addRest_38 rfl (lv_at hl 3 rfl) ?_
    obtain ⟨d10, hd10, hf⟩ := x_ob hf
    refine xr_iast S G hd10 dX3_addRest_39 (fun H locs G => ?_)
    refine lv_aload_n hx hb dX3_addRest_40 rfl (lv_at hl 0 rfl) ?_
    refine lv_dup hx hb dX3_addRest_41 rfl ?_
    obtain ⟨v11, hv11, hf⟩ := x_ob hf
    refine xr_getI (ci := 3) (k := 15) S G hv11 rfl kw_116 dX3_addRest_42 ?_
    refine lv_iconst (v := (1 : Int32)) hx hb dX3_addRest_45 (by decide) ?_
    refine lv_iadd hx hb dX3_addRest_46 ?_
    obtain ⟨d12, hd12, hf⟩ := x_ob hf
    refine xr_putI (ci := 3) (k := 15) S G hd12 rfl kw_116 dX3_addRest_47 (fun H locs G => ?_)
    cases hf
    exact xr_vret S G (fun _ => rfl) hr dX3_addRest_50
  · have hf := x_neg c hf
    cases hf
    exact xr_vret S G (fun _ => rfl) hr dX3_addRest_9
-- HalfLandings$Scene.addRest(III)V
theorem dX4_addRest_0 : decode cX4_addRest 0 = .ok (.aload_n 0, 1) := by decide +kernel
theorem dX4_addRest_1 : decode cX4_addRest 1 = .ok (.getfield 56, 3) := by decide +kernel
theorem dX4_addRest_4 : decode cX4_addRest 4 = .ok (.bipush 12, 2) := by decide +kernel
theorem dX4_addRest_6 : decode cX4_addRest 6 = .ok (.if_icmp .le 4, 3) := by decide +kernel
theorem dX4_addRest_9 : decode cX4_addRest 9 = .ok (.return_, 1) := by decide +kernel
theorem dX4_addRest_10 : decode cX4_addRest 10 = .ok (.aload_n 0, 1) := by decide +kernel
theorem dX4_addRest_11 : decode cX4_addRest 11 = .ok (.getfield 59, 3) := by decide +kernel
theorem dX4_addRest_14 : decode cX4_addRest 14 = .ok (.aload_n 0, 1) := by decide +kernel
theorem dX4_addRest_15 : decode cX4_addRest 15 = .ok (.getfield 56, 3) := by decide +kernel
theorem dX4_addRest_18 : decode cX4_addRest 18 = .ok (.iload_n 1, 1) := by decide +kernel
theorem dX4_addRest_19 : decode cX4_addRest 19 = .ok (.iastore, 1) := by decide +kernel
theorem dX4_addRest_20 : decode cX4_addRest 20 = .ok (.aload_n 0, 1) := by decide +kernel
theorem dX4_addRest_21 : decode cX4_addRest 21 = .ok (.getfield 62, 3) := by decide +kernel
theorem dX4_addRest_24 : decode cX4_addRest 24 = .ok (.aload_n 0, 1) := by decide +kernel
theorem dX4_addRest_25 : decode cX4_addRest 25 = .ok (.getfield 56, 3) := by decide +kernel
theorem dX4_addRest_28 : decode cX4_addRest 28 = .ok (.iload_n 2, 1) := by decide +kernel
theorem dX4_addRest_29 : decode cX4_addRest 29 = .ok (.iastore, 1) := by decide +kernel
theorem dX4_addRest_30 : decode cX4_addRest 30 = .ok (.aload_n 0, 1) := by decide +kernel
theorem dX4_addRest_31 : decode cX4_addRest 31 = .ok (.getfield 65, 3) := by decide +kernel
theorem dX4_addRest_34 : decode cX4_addRest 34 = .ok (.aload_n 0, 1) := by decide +kernel
theorem dX4_addRest_35 : decode cX4_addRest 35 = .ok (.getfield 56, 3) := by decide +kernel
theorem dX4_addRest_38 : decode cX4_addRest 38 = .ok (.iload_n 3, 1) := by decide +kernel
theorem dX4_addRest_39 : decode cX4_addRest 39 = .ok (.iastore, 1) := by decide +kernel
theorem dX4_addRest_40 : decode cX4_addRest 40 = .ok (.aload_n 0, 1) := by decide +kernel
theorem dX4_addRest_41 : decode cX4_addRest 41 = .ok (.getfield 68, 3) := by decide +kernel
theorem dX4_addRest_44 : decode cX4_addRest 44 = .ok (.aload_n 0, 1) := by decide +kernel
theorem dX4_addRest_45 : decode cX4_addRest 45 = .ok (.getfield 56, 3) := by decide +kernel
theorem dX4_addRest_48 : decode cX4_addRest 48 = .ok (.iconst 0, 1) := by decide +kernel
theorem dX4_addRest_49 : decode cX4_addRest 49 = .ok (.iastore, 1) := by decide +kernel
theorem dX4_addRest_50 : decode cX4_addRest 50 = .ok (.aload_n 0, 1) := by decide +kernel
theorem dX4_addRest_51 : decode cX4_addRest 51 = .ok (.dup, 1) := by decide +kernel
theorem dX4_addRest_52 : decode cX4_addRest 52 = .ok (.getfield 56, 3) := by decide +kernel
theorem dX4_addRest_55 : decode cX4_addRest 55 = .ok (.iconst 1, 1) := by decide +kernel
theorem dX4_addRest_56 : decode cX4_addRest 56 = .ok (.iadd, 1) := by decide +kernel
theorem dX4_addRest_57 : decode cX4_addRest 57 = .ok (.putfield 56, 3) := by decide +kernel
theorem dX4_addRest_60 : decode cX4_addRest 60 = .ok (.return_, 1) := by decide +kernel
theorem hd_X4_addRest : yX4_addRest.cls = xCn 4 ∧ yX4_addRest.cls ≠ "java/lang/invoke/MethodHandle" ∧ yX4_addRest.cls ≠ "java/lang/invoke/VarHandle" ∧ (parseMethodDescriptor yX4_addRest.desc).map (fun d => d.parameters.length) = some 3 := by decide +kernel
def f_X4_addRest (sh : List xSh) (q0 : Nat) (x1 : Int32) (x2 : Int32) (x3 : Int32) (d : xD) : Option xD :=
  (xgI 4 sh d q0 14).bind fun v1 => if v1 ≤ (12 : Int32) then ((xgR 4 sh d q0 15).bind fun v2 => (xgI 4 sh d q0 14).bind fun v3 => (xsI .int sh d v2 v3 x1).bind fun d4 => (xgR 4 sh d4 q0 16).bind fun v5 => (xgI 4 sh d4 q0 14).bind fun v6 => (xsI .int sh d4 v5 v6 x2).bind fun d7 => (xgR 4 sh d7 q0 17).bind fun v8 => (xgI 4 sh d7 q0 14).bind fun v9 => (xsI .int sh d7 v8 v9 x3).bind fun d10 => (xgR 4 sh d10 q0 18).bind fun v11 => (xgI 4 sh d10 q0 14).bind fun v12 => (xsI .int sh d10 v11 v12 (0 : Int32)).bind fun d13 => (xgI 4 sh d13 q0 14).bind fun v14 => (xpI 4 sh d13 q0 14 (v14 + (1 : Int32))).bind fun d15 => some d15) else (some d)
set_option maxHeartbeats 4000000 in
set_option maxRecDepth 100000 in
theorem mt_X4_addRest (l : Launch) (D : va_G) (cid : FieldType → ClassId) (b : Nat) (ex : Bool) (sa sv B0 : Nat) (sh : List xSh) (q0 : Nat) (x1 : Int32) (x2 : Int32) (x3 : Int32) (d : xD) (dz : xD) (hf : f_X4_addRest sh q0 x1 x2 x3 d = some dz) : xMet l yX4_addRest cX4_addRest 4 none 0 0 0 D cid b ex sa sv B0 [.ref (b + q0), .int x1, .int x2, .int x3] sh d none sh dz := by
  refine xMet.of (by decide) (Nat.le_of_ble_eq_true rfl) ?_
  intro p e s m below meth c ls A S hr hin G hl
  have hl : lv_has ls 4 [(0, .ref (b + q0)), (1, .int x1), (2, .int x2), (3, .int x3)] := hl
  generalize ([.ref (b + q0), .int x1, .int x2, .int x3] : List Value).toArray = av at S ⊢
  have hx := S.1
  have hb := S.2.1
  have hml := S.2.2.1
  have hown := S.2.2.2.1
  have hts := S.2.2.2.2.1
  unfold f_X4_addRest at hf
  refine lv_aload_n hx hb dX4_addRest_0 rfl (lv_at hl 0 rfl) ?_
  obtain ⟨v1, hv1, hf⟩ := x_ob hf
  refine xr_getI (ci := 4) (k := 14) S G hv1 rfl kw_353 dX4_addRest_1 ?_
  refine lv_bipush (v := (12 : Int32)) hx hb dX4_addRest_4 (by decide) ?_
  refine lv_icmp_le (tgt := 10) hx hb dX4_addRest_6 (by decide) (fun c => ?_) (fun c => ?_)
  · have hf := x_pos c hf
    refine lv_aload_n hx hb dX4_addRest_10 rfl (lv_at hl 0 rfl) ?_
    obtain ⟨v2, hv2, hf⟩ := x_ob hf
    refine xr_getR (ci := 4) (k := 15) S G hv2 rfl kw_355 dX4_addRest_11 ?_
    refine lv_aload_n hx hb dX4_addRest_14 rfl (lv_at hl 0 rfl) ?_
    obtain ⟨v3, hv3, hf⟩ := x_ob hf
    refine xr_getI (ci := 4) (k := 14) S G hv3 rfl kw_353 dX4_addRest_15 ?_
    refine lv_iload_n hx hb dX4_addRest_18 rfl (lv_at hl 1 rfl) ?_
    obtain ⟨d4, hd4, hf⟩ := x_ob hf
    refine xr_iast S G hd4 dX4_addRest_19 (fun H locs G => ?_)
    refine lv_aload_n hx hb dX4_addRest_20 rfl (lv_at hl 0 rfl) ?_
    obtain ⟨v5, hv5, hf⟩ := x_ob hf
    refine xr_getR (ci := 4) (k := 16) S G hv5 rfl kw_357 dX4_addRest_21 ?_
    refine lv_aload_n hx hb dX4_addRest_24 rfl (lv_at hl 0 rfl) ?_
    obtain ⟨v6, hv6, hf⟩ := x_ob hf
    refine xr_getI (ci := 4) (k := 14) S G hv6 rfl kw_353 dX4_addRest_25 ?_
    refine lv_iload_n hx hb dX4_addRest_28 rfl (lv_at hl 2 rfl) ?_
    obtain ⟨d7, hd7, hf⟩ := x_ob hf
    refine xr_iast S G hd7 dX4_addRest_29 (fun H locs G => ?_)
    refine lv_aload_n hx hb dX4_addRest_30 rfl (lv_at hl 0 rfl) ?_
    obtain ⟨v8, hv8, hf⟩ := x_ob hf
    refine xr_getR (ci := 4) (k := 17) S G hv8 rfl kw_359 dX4_addRest_31 ?_
    refine lv_aload_n hx hb dX4_addRest_34 rfl (lv_at hl 0 rfl) ?_
    obtain ⟨v9, hv9, hf⟩ := x_ob hf
    refine xr_getI (ci := 4) (k := 14) S G hv9 rfl kw_353 dX4_addRest_35 ?_
    refine lv_iload_n hx hb dX4_addRest_38 rfl (lv_at hl 3 rfl) ?_
    obtain ⟨d10, hd10, hf⟩ := x_ob hf
    refine xr_iast S G hd10 dX4_addRest_39 (fun H locs G => ?_)
    refine lv_aload_n hx hb dX4_addRest_40 rfl (lv_at hl 0 rfl) ?_
    obtain ⟨v11, hv11, hf⟩ := x_ob hf
    refine xr_getR (ci := 4) (k := 18) S G hv11 rfl kw_362 dX4_addRest_41 ?_
    refine lv_aload_n hx hb dX4_addRest_44 rfl (lv_at hl 0 rfl) ?_
    obtain ⟨v12, hv12, hf⟩ := x_ob hf
    refine xr_getI (ci := 4) (k := 14) S G hv12 rfl kw_353 dX4_addRest_45 ?_
    refine lv_iconst (v := (0 : Int32)) hx hb dX4_addRest_48 (by decide) ?_
    obtain ⟨d13, hd13, hf⟩ := x_ob hf
    refine xr_iast S G hd13 dX4_addRest_49 (fun H locs G => ?_)
    refine lv_aload_n hx hb dX4_addRest_50 rfl (lv_at hl 0 rfl) ?_
    refine lv_dup hx hb dX4_addRest_51 rfl ?_
    obtain ⟨v14, hv14, hf⟩ := x_ob hf
    refine xr_getI (ci := 4) (k := 14) S G hv14 rfl kw_353 dX4_addRest_52 ?_
    refine lv_iconst (v := (1 : Int32)) hx hb dX4_addRest_55 (by decide) ?_
    refine lv_iadd hx hb dX4_addRest_56 ?_
    obtain ⟨d15, hd15, hf⟩ := x_ob hf
    refine xr_putI (ci := 4) (k := 14) S G hd15 rfl kw_353 dX4_addRest_57 (fun H locs G => ?_)
    cases hf
    exact xr_vret S G (fun _ => rfl) hr dX4_addRest_60
  · have hf := x_neg c hf
    cases hf
    exact xr_vret S G (fun _ => rfl) hr dX4_addRest_9
-- HalfLandings$Scene.begin(LHalfLandings$Plan;)V
theorem dX4_begin_0 : decode cX4_begin 0 = .ok (.aload_n 0, 1) := by decide +kernel
theorem dX4_begin_1 : decode cX4_begin 1 = .ok (.iconst 0, 1) := by decide +kernel
theorem dX4_begin_2 : decode cX4_begin 2 = .ok (.putfield 9, 3) := by decide +kernel
theorem dX4_begin_5 : decode cX4_begin 5 = .ok (.aload_n 0, 1) := by decide +kernel
theorem dX4_begin_6 : decode cX4_begin 6 = .ok (.iconst 0, 1) := by decide +kernel
theorem dX4_begin_7 : decode cX4_begin 7 = .ok (.putfield 15, 3) := by decide +kernel
theorem dX4_begin_10 : decode cX4_begin 10 = .ok (.aload_n 0, 1) := by decide +kernel
theorem dX4_begin_11 : decode cX4_begin 11 = .ok (.aload_n 1, 1) := by decide +kernel
theorem dX4_begin_12 : decode cX4_begin 12 = .ok (.getfield 71, 3) := by decide +kernel
theorem dX4_begin_15 : decode cX4_begin 15 = .ok (.putfield 18, 3) := by decide +kernel
theorem dX4_begin_18 : decode cX4_begin 18 = .ok (.aload_n 0, 1) := by decide +kernel
theorem dX4_begin_19 : decode cX4_begin 19 = .ok (.aload_n 1, 1) := by decide +kernel
theorem dX4_begin_20 : decode cX4_begin 20 = .ok (.getfield 74, 3) := by decide +kernel
theorem dX4_begin_23 : decode cX4_begin 23 = .ok (.i2l, 1) := by decide +kernel
theorem dX4_begin_24 : decode cX4_begin 24 = .ok (.putfield 21, 3) := by decide +kernel
theorem dX4_begin_27 : decode cX4_begin 27 = .ok (.aload_n 0, 1) := by decide +kernel
theorem dX4_begin_28 : decode cX4_begin 28 = .ok (.aload_n 1, 1) := by decide +kernel
theorem dX4_begin_29 : decode cX4_begin 29 = .ok (.getfield 77, 3) := by decide +kernel
theorem dX4_begin_32 : decode cX4_begin 32 = .ok (.putfield 25, 3) := by decide +kernel
theorem dX4_begin_35 : decode cX4_begin 35 = .ok (.aload_n 0, 1) := by decide +kernel
theorem dX4_begin_36 : decode cX4_begin 36 = .ok (.getfield 28, 3) := by decide +kernel
theorem dX4_begin_39 : decode cX4_begin 39 = .ok (.iconst 0, 1) := by decide +kernel
theorem dX4_begin_40 : decode cX4_begin 40 = .ok (.invokestatic 78, 3) := by decide +kernel
theorem dX4_begin_43 : decode cX4_begin 43 = .ok (.aload_n 1, 1) := by decide +kernel
theorem dX4_begin_44 : decode cX4_begin 44 = .ok (.getfield 84, 3) := by decide +kernel
theorem dX4_begin_47 : decode cX4_begin 47 = .ok (.iconst 0, 1) := by decide +kernel
theorem dX4_begin_48 : decode cX4_begin 48 = .ok (.aload_n 0, 1) := by decide +kernel
theorem dX4_begin_49 : decode cX4_begin 49 = .ok (.getfield 32, 3) := by decide +kernel
theorem dX4_begin_52 : decode cX4_begin 52 = .ok (.iconst 0, 1) := by decide +kernel
theorem dX4_begin_53 : decode cX4_begin 53 = .ok (.bipush 6, 2) := by decide +kernel
theorem dX4_begin_55 : decode cX4_begin 55 = .ok (.invokestatic 87, 3) := by decide +kernel
theorem dX4_begin_58 : decode cX4_begin 58 = .ok (.aload_n 1, 1) := by decide +kernel
theorem dX4_begin_59 : decode cX4_begin 59 = .ok (.getfield 93, 3) := by decide +kernel
theorem dX4_begin_62 : decode cX4_begin 62 = .ok (.iconst 0, 1) := by decide +kernel
theorem dX4_begin_63 : decode cX4_begin 63 = .ok (.aload_n 0, 1) := by decide +kernel
theorem dX4_begin_64 : decode cX4_begin 64 = .ok (.getfield 35, 3) := by decide +kernel
theorem dX4_begin_67 : decode cX4_begin 67 = .ok (.iconst 0, 1) := by decide +kernel
theorem dX4_begin_68 : decode cX4_begin 68 = .ok (.bipush 6, 2) := by decide +kernel
theorem dX4_begin_70 : decode cX4_begin 70 = .ok (.invokestatic 87, 3) := by decide +kernel
theorem dX4_begin_73 : decode cX4_begin 73 = .ok (.aload_n 1, 1) := by decide +kernel
theorem dX4_begin_74 : decode cX4_begin 74 = .ok (.getfield 96, 3) := by decide +kernel
theorem dX4_begin_77 : decode cX4_begin 77 = .ok (.iconst 0, 1) := by decide +kernel
theorem dX4_begin_78 : decode cX4_begin 78 = .ok (.aload_n 0, 1) := by decide +kernel
theorem dX4_begin_79 : decode cX4_begin 79 = .ok (.getfield 38, 3) := by decide +kernel
theorem dX4_begin_82 : decode cX4_begin 82 = .ok (.iconst 0, 1) := by decide +kernel
theorem dX4_begin_83 : decode cX4_begin 83 = .ok (.bipush 6, 2) := by decide +kernel
theorem dX4_begin_85 : decode cX4_begin 85 = .ok (.invokestatic 87, 3) := by decide +kernel
theorem dX4_begin_88 : decode cX4_begin 88 = .ok (.aload_n 0, 1) := by decide +kernel
theorem dX4_begin_89 : decode cX4_begin 89 = .ok (.getfield 41, 3) := by decide +kernel
theorem dX4_begin_92 : decode cX4_begin 92 = .ok (.iconst 0, 1) := by decide +kernel
theorem dX4_begin_93 : decode cX4_begin 93 = .ok (.invokestatic 78, 3) := by decide +kernel
theorem dX4_begin_96 : decode cX4_begin 96 = .ok (.aload_n 0, 1) := by decide +kernel
theorem dX4_begin_97 : decode cX4_begin 97 = .ok (.getfield 44, 3) := by decide +kernel
theorem dX4_begin_100 : decode cX4_begin 100 = .ok (.iconst 0, 1) := by decide +kernel
theorem dX4_begin_101 : decode cX4_begin 101 = .ok (.invokestatic 78, 3) := by decide +kernel
theorem dX4_begin_104 : decode cX4_begin 104 = .ok (.aload_n 0, 1) := by decide +kernel
theorem dX4_begin_105 : decode cX4_begin 105 = .ok (.getfield 47, 3) := by decide +kernel
theorem dX4_begin_108 : decode cX4_begin 108 = .ok (.iconst 0, 1) := by decide +kernel
theorem dX4_begin_109 : decode cX4_begin 109 = .ok (.invokestatic 78, 3) := by decide +kernel
theorem dX4_begin_112 : decode cX4_begin 112 = .ok (.aload_n 1, 1) := by decide +kernel
theorem dX4_begin_113 : decode cX4_begin 113 = .ok (.getfield 99, 3) := by decide +kernel
theorem dX4_begin_116 : decode cX4_begin 116 = .ok (.iconst 0, 1) := by decide +kernel
theorem dX4_begin_117 : decode cX4_begin 117 = .ok (.aload_n 0, 1) := by decide +kernel
theorem dX4_begin_118 : decode cX4_begin 118 = .ok (.getfield 50, 3) := by decide +kernel
theorem dX4_begin_121 : decode cX4_begin 121 = .ok (.iconst 0, 1) := by decide +kernel
theorem dX4_begin_122 : decode cX4_begin 122 = .ok (.bipush 8, 2) := by decide +kernel
theorem dX4_begin_124 : decode cX4_begin 124 = .ok (.invokestatic 87, 3) := by decide +kernel
theorem dX4_begin_127 : decode cX4_begin 127 = .ok (.aload_n 0, 1) := by decide +kernel
theorem dX4_begin_128 : decode cX4_begin 128 = .ok (.getfield 53, 3) := by decide +kernel
theorem dX4_begin_131 : decode cX4_begin 131 = .ok (.iconst 0, 1) := by decide +kernel
theorem dX4_begin_132 : decode cX4_begin 132 = .ok (.invokestatic 78, 3) := by decide +kernel
theorem dX4_begin_135 : decode cX4_begin 135 = .ok (.aload_n 0, 1) := by decide +kernel
theorem dX4_begin_136 : decode cX4_begin 136 = .ok (.iconst 0, 1) := by decide +kernel
theorem dX4_begin_137 : decode cX4_begin 137 = .ok (.putfield 56, 3) := by decide +kernel
theorem dX4_begin_140 : decode cX4_begin 140 = .ok (.iconst 0, 1) := by decide +kernel
theorem dX4_begin_141 : decode cX4_begin 141 = .ok (.istore_n 2, 1) := by decide +kernel
theorem dX4_begin_142 : decode cX4_begin 142 = .ok (.iload_n 2, 1) := by decide +kernel
theorem dX4_begin_143 : decode cX4_begin 143 = .ok (.aload_n 1, 1) := by decide +kernel
theorem dX4_begin_144 : decode cX4_begin 144 = .ok (.getfield 102, 3) := by decide +kernel
theorem dX4_begin_147 : decode cX4_begin 147 = .ok (.if_icmp .ge 37, 3) := by decide +kernel
theorem dX4_begin_150 : decode cX4_begin 150 = .ok (.iload_n 2, 1) := by decide +kernel
theorem dX4_begin_151 : decode cX4_begin 151 = .ok (.bipush 12, 2) := by decide +kernel
theorem dX4_begin_153 : decode cX4_begin 153 = .ok (.if_icmp .ge 31, 3) := by decide +kernel
theorem dX4_begin_156 : decode cX4_begin 156 = .ok (.aload_n 0, 1) := by decide +kernel
theorem dX4_begin_157 : decode cX4_begin 157 = .ok (.aload_n 1, 1) := by decide +kernel
theorem dX4_begin_158 : decode cX4_begin 158 = .ok (.getfield 105, 3) := by decide +kernel
theorem dX4_begin_161 : decode cX4_begin 161 = .ok (.iload_n 2, 1) := by decide +kernel
theorem dX4_begin_162 : decode cX4_begin 162 = .ok (.iaload, 1) := by decide +kernel
theorem dX4_begin_163 : decode cX4_begin 163 = .ok (.aload_n 1, 1) := by decide +kernel
theorem dX4_begin_164 : decode cX4_begin 164 = .ok (.getfield 106, 3) := by decide +kernel
theorem dX4_begin_167 : decode cX4_begin 167 = .ok (.iload_n 2, 1) := by decide +kernel
theorem dX4_begin_168 : decode cX4_begin 168 = .ok (.iaload, 1) := by decide +kernel
theorem dX4_begin_169 : decode cX4_begin 169 = .ok (.aload_n 1, 1) := by decide +kernel
theorem dX4_begin_170 : decode cX4_begin 170 = .ok (.getfield 107, 3) := by decide +kernel
theorem dX4_begin_173 : decode cX4_begin 173 = .ok (.iload_n 2, 1) := by decide +kernel
theorem dX4_begin_174 : decode cX4_begin 174 = .ok (.iaload, 1) := by decide +kernel
theorem dX4_begin_175 : decode cX4_begin 175 = .ok (.invokevirtual 108, 3) := by decide +kernel
theorem dX4_begin_178 : decode cX4_begin 178 = .ok (.iinc 2 1, 3) := by decide +kernel
theorem dX4_begin_181 : decode cX4_begin 181 = .ok (.goto (-39), 3) := by decide +kernel
theorem dX4_begin_184 : decode cX4_begin 184 = .ok (.return_, 1) := by decide +kernel
theorem hd_X4_begin : yX4_begin.cls = xCn 4 ∧ yX4_begin.cls ≠ "java/lang/invoke/MethodHandle" ∧ yX4_begin.cls ≠ "java/lang/invoke/VarHandle" ∧ (parseMethodDescriptor yX4_begin.desc).map (fun d => d.parameters.length) = some 1 := by decide +kernel
def k_X4_begin_184 (sh : List xSh) (d : xD) : Option xD :=
  some d
def b_X4_begin_142 (sh : List xSh) (rec142 : Nat → Nat → Int32 → xD → Option xD) (q0 : Nat) (q1 : Nat) (x2 : Int32) (d : xD) : Option xD :=
  (xgI 3 sh d q1 15).bind fun v1 => if v1 ≤ x2 then (k_X4_begin_184 sh d) else (if (12 : Int32) ≤ x2 then (k_X4_begin_184 sh d) else ((xgR 3 sh d q1 16).bind fun v2 => (xaI .int sh d v2 x2).bind fun v3 => (xgR 3 sh d q1 17).bind fun v4 => (xaI .int sh d v4 x2).bind fun v5 => (xgR 3 sh d q1 18).bind fun v6 => (xaI .int sh d v6 x2).bind fun v7 => (xon 4 sh q0 (f_X4_addRest sh q0 v3 v5 v7 d)).bind fun d8 => rec142 q0 q1 (x2 + 1) d8))
def f_X4_begin (sh : List xSh) (q0 : Nat) (q1 : Nat) (d : xD) : Option xD :=
  (xpI 4 sh d q0 0 (0 : Int32)).bind fun d9 => (xpI 4 sh d9 q0 1 (0 : Int32)).bind fun d10 => (xgI 3 sh d10 q1 1).bind fun v11 => (xpI 4 sh d10 q0 2 v11).bind fun d12 => (xgI 3 sh d12 q1 3).bind fun v13 => (xpL 4 sh d12 q0 3 ((v13).toInt64)).bind fun d14 => (xgI 3 sh d14 q1 9).bind fun v15 => (xpI 4 sh d14 q0 4 v15).bind fun d16 => (xgR 4 sh d16 q0 5).bind fun v17 => (f_J7_fill_53178 sh v17 (0 : Int32) d16).bind fun d18 => (xgR 3 sh d18 q1 11).bind fun v19 => (xgR 4 sh d18 q0 6).bind fun v20 => (xcp sh d18 v19 (0 : Int32) v20 (0 : Int32) (6 : Int32)).bind fun d21 => (xgR 3 sh d21 q1 12).bind fun v22 => (xgR 4 sh d21 q0 7).bind fun v23 => (xcp sh d21 v22 (0 : Int32) v23 (0 : Int32) (6 : Int32)).bind fun d24 => (xgR 3 sh d24 q1 13).bind fun v25 => (xgR 4 sh d24 q0 8).bind fun v26 => (xcp sh d24 v25 (0 : Int32) v26 (0 : Int32) (6 : Int32)).bind fun d27 => (xgR 4 sh d27 q0 9).bind fun v28 => (f_J7_fill_53178 sh v28 (0 : Int32) d27).bind fun d29 => (xgR 4 sh d29 q0 10).bind fun v30 => (f_J7_fill_53178 sh v30 (0 : Int32) d29).bind fun d31 => (xgR 4 sh d31 q0 11).bind fun v32 => (f_J7_fill_53178 sh v32 (0 : Int32) d31).bind fun d33 => (xgR 3 sh d33 q1 7).bind fun v34 => (xgR 4 sh d33 q0 12).bind fun v35 => (xcp sh d33 v34 (0 : Int32) v35 (0 : Int32) (8 : Int32)).bind fun d36 => (xgR 4 sh d36 q0 13).bind fun v37 => (f_J7_fill_53178 sh v37 (0 : Int32) d36).bind fun d38 => (xpI 4 sh d38 q0 14 (0 : Int32)).bind fun d39 => xloop (fun _ _ _ _ => none) (b_X4_begin_142 sh) xF q0 q1 (0 : Int32) d39
set_option maxHeartbeats 4000000 in
set_option maxRecDepth 100000 in
theorem mt_X4_begin (l : Launch) (D : va_G) (cid : FieldType → ClassId) (b : Nat) (ex : Bool) (sa sv B0 : Nat) (sh : List xSh) (q0 : Nat) (q1 : Nat) (d : xD) (dz : xD) (hf : f_X4_begin sh q0 q1 d = some dz) : xMet l yX4_begin cX4_begin 3 none 1 0 0 D cid b ex sa sv B0 [.ref (b + q0), .ref (b + q1)] sh d none sh dz := by
  refine xMet.of (by decide) (Nat.le_of_ble_eq_true rfl) ?_
  intro p e s m below meth c ls A S hr hin G hl
  have hl : lv_has ls 3 [(0, .ref (b + q0)), (1, .ref (b + q1))] := hl
  generalize ([.ref (b + q0), .ref (b + q1)] : List Value).toArray = av at S ⊢
  have hx := S.1
  have hb := S.2.1
  have hml := S.2.2.1
  have hown := S.2.2.2.1
  have hts := S.2.2.2.2.1
  have K184 : ∀ (d : xD), k_X4_begin_184 sh d = some dz → ∀ (H : Heap) (locs : List Loc) (ls : Array Slot), lv_has ls 3 [] → xG D cid b A sh d s H locs → W p l e (xRm 1 0 0) s m av below meth c H locs 0 0 (MQ below (xQ D cid b ex A none sh dz) av s 0 0 A) (F0 m 184 ls []) := by
    intro d hf H locs ls hl G
    unfold k_X4_begin_184 at hf
    cases hf
    exact xr_vret S G (fun _ => rfl) hr dX4_begin_184
  have K142 : ∀ (n : Nat) (q0 : Nat) (q1 : Nat) (x2 : Int32) (d : xD), xloop (fun _ _ _ _ => none) (b_X4_begin_142 sh) n q0 q1 x2 d = some dz → ∀ (H : Heap) (locs : List Loc) (ls : Array Slot), lv_has ls 3 [(0, .ref (b + q0)), (1, .ref (b + q1)), (2, .int x2)] → xG D cid b A sh d s H locs → W p l e (xRm 1 0 0) s m av below meth c H locs 0 0 (MQ below (xQ D cid b ex A none sh dz) av s 0 0 A) (F0 m 142 ls []) := by
    intro n
    induction n with
    | zero =>
      intro q0 q1 x2 d hf
      have hf : (none : Option xD) = some dz := hf
      cases hf
    | succ n hrec142 =>
      intro q0 q1 x2 d hf H locs ls hl G
      have hf : b_X4_begin_142 sh (xloop (fun _ _ _ _ => none) (b_X4_begin_142 sh) n) q0 q1 x2 d = some dz := hf
      unfold b_X4_begin_142 at hf
      refine lv_iload_n hx hb dX4_begin_142 rfl (lv_at hl 2 rfl) ?_
      refine lv_aload_n hx hb dX4_begin_143 rfl (lv_at hl 1 rfl) ?_
      obtain ⟨v1, hv1, hf⟩ := x_ob hf
      refine xr_getI (ci := 3) (k := 15) S G hv1 rfl kw_117 dX4_begin_144 ?_
      refine lv_icmp_ge (tgt := 184) hx hb dX4_begin_147 (by decide) (fun c => ?_) (fun c => ?_)
      · have hf := x_pos c hf
        exact K184 d hf _ _ ls (lv_sub hl [] rfl) G
      · have hf := x_neg c hf
        refine lv_iload_n hx hb dX4_begin_150 rfl (lv_at hl 2 rfl) ?_
        refine lv_bipush (v := (12 : Int32)) hx hb dX4_begin_151 (by decide) ?_
        refine lv_icmp_ge (tgt := 184) hx hb dX4_begin_153 (by decide) (fun c => ?_) (fun c => ?_)
        · have hf := x_pos c hf
          exact K184 d hf _ _ ls (lv_sub hl [] rfl) G
        · have hf := x_neg c hf
          refine lv_aload_n hx hb dX4_begin_156 rfl (lv_at hl 0 rfl) ?_
          refine lv_aload_n hx hb dX4_begin_157 rfl (lv_at hl 1 rfl) ?_
          obtain ⟨v2, hv2, hf⟩ := x_ob hf
          refine xr_getR (ci := 3) (k := 16) S G hv2 rfl kw_121 dX4_begin_158 ?_
          refine lv_iload_n hx hb dX4_begin_161 rfl (lv_at hl 2 rfl) ?_
          obtain ⟨v3, hv3, hf⟩ := x_ob hf
          refine xr_iald S G hv3 dX4_begin_162 ?_
          refine lv_aload_n hx hb dX4_begin_163 rfl (lv_at hl 1 rfl) ?_
          obtain ⟨v4, hv4, hf⟩ := x_ob hf
          refine xr_getR (ci := 3) (k := 17) S G hv4 rfl kw_123 dX4_begin_164 ?_
          refine lv_iload_n hx hb dX4_begin_167 rfl (lv_at hl 2 rfl) ?_
          obtain ⟨v5, hv5, hf⟩ := x_ob hf
          refine xr_iald S G hv5 dX4_begin_168 ?_
          refine lv_aload_n hx hb dX4_begin_169 rfl (lv_at hl 1 rfl) ?_
          obtain ⟨v6, hv6, hf⟩ := x_ob hf
          refine xr_getR (ci := 3) (k := 18) S G hv6 rfl kw_125 dX4_begin_170 ?_
          refine lv_iload_n hx hb dX4_begin_173 rfl (lv_at hl 2 rfl) ?_
          obtain ⟨v7, hv7, hf⟩ := x_ob hf
          refine xr_iald S G hv7 dX4_begin_174 ?_
          obtain ⟨d8, hd8, hf⟩ := x_ob hf
          obtain ⟨hqd8, hd8⟩ := xon_of hd8
          refine xr_callV (ci := 4) (As := [.int v3, .int v5, .int v7]) (rest := []) (st1 := []) S G hl.1 (fun _ => rfl) (mt_X4_addRest l D cid b ex sa sv B0 sh q0 v3 v5 v7 d _ hd8) hqd8 (by decide) kw_477 kw_478 kw_479 kw_12 kw_480 hd_X4_addRest ⟨Nat.le_of_ble_eq_true rfl, Nat.le_of_ble_eq_true rfl⟩ rfl rfl rfl (Nat.le_of_ble_eq_true rfl) ⟨Nat.le_of_ble_eq_true rfl, Nat.le_of_ble_eq_true rfl⟩ dX4_begin_175 (fun H locs G => ?_)
          refine lv_iinc (v := (x2 + 1)) (lv' := [(2, .int (x2 + 1)), (0, .ref (b + q0)), (1, .ref (b + q1))]) hx hb dX4_begin_178 hl (k := 2) rfl rfl (by decide) rfl (fun ls hl => ?_)
          refine lv_goto (tgt := 142) hx hb dX4_begin_181 (by decide) ?_
          exact hrec142 q0 q1 (x2 + 1) d8 hf _ _ ls (lv_sub hl [1, 2, 0] rfl) G
  unfold f_X4_begin at hf
  refine lv_aload_n hx hb dX4_begin_0 rfl (lv_at hl 0 rfl) ?_
  refine lv_iconst (v := (0 : Int32)) hx hb dX4_begin_1 (by decide) ?_
  obtain ⟨d9, hd9, hf⟩ := x_ob hf
  refine xr_putI (ci := 4) (k := 0) S G hd9 rfl kw_313 dX4_begin_2 (fun H locs G => ?_)
  refine lv_aload_n hx hb dX4_begin_5 rfl (lv_at hl 0 rfl) ?_
  refine lv_iconst (v := (0 : Int32)) hx hb dX4_begin_6 (by decide) ?_
  obtain ⟨d10, hd10, hf⟩ := x_ob hf
  refine xr_putI (ci := 4) (k := 1) S G hd10 rfl kw_316 dX4_begin_7 (fun H locs G => ?_)
  refine lv_aload_n hx hb dX4_begin_10 rfl (lv_at hl 0 rfl) ?_
  refine lv_aload_n hx hb dX4_begin_11 rfl (lv_at hl 1 rfl) ?_
  obtain ⟨v11, hv11, hf⟩ := x_ob hf
  refine xr_getI (ci := 3) (k := 1) S G hv11 rfl kw_83 dX4_begin_12 ?_
  obtain ⟨d12, hd12, hf⟩ := x_ob hf
  refine xr_putI (ci := 4) (k := 2) S G hd12 rfl kw_319 dX4_begin_15 (fun H locs G => ?_)
  refine lv_aload_n hx hb dX4_begin_18 rfl (lv_at hl 0 rfl) ?_
  refine lv_aload_n hx hb dX4_begin_19 rfl (lv_at hl 1 rfl) ?_
  obtain ⟨v13, hv13, hf⟩ := x_ob hf
  refine xr_getI (ci := 3) (k := 3) S G hv13 rfl kw_90 dX4_begin_20 ?_
  refine lv_i2l (v := (v13).toInt64) hx hb dX4_begin_23 rfl ?_
  obtain ⟨d14, hd14, hf⟩ := x_ob hf
  refine xr_putL (ci := 4) (k := 3) S G hd14 rfl kw_323 dX4_begin_24 (fun H locs G => ?_)
  refine lv_aload_n hx hb dX4_begin_27 rfl (lv_at hl 0 rfl) ?_
  refine lv_aload_n hx hb dX4_begin_28 rfl (lv_at hl 1 rfl) ?_
  obtain ⟨v15, hv15, hf⟩ := x_ob hf
  refine xr_getI (ci := 3) (k := 9) S G hv15 rfl kw_103 dX4_begin_29 ?_
  obtain ⟨d16, hd16, hf⟩ := x_ob hf
  refine xr_putI (ci := 4) (k := 4) S G hd16 rfl kw_326 dX4_begin_32 (fun H locs G => ?_)
  refine lv_aload_n hx hb dX4_begin_35 rfl (lv_at hl 0 rfl) ?_
  obtain ⟨v17, hv17, hf⟩ := x_ob hf
  refine xr_getR (ci := 4) (k := 5) S G hv17 rfl kw_327 dX4_begin_36 ?_
  refine lv_iconst (v := (0 : Int32)) hx hb dX4_begin_39 (by decide) ?_
  obtain ⟨d18, hd18, hf⟩ := x_ob hf
  refine xr_callS (As := [.ref (b + v17), .int (0 : Int32)]) (rest := []) (st1 := []) S G hl.1 (fun _ => rfl) (mt_J7_fill_53178 l D cid b ex sa sv B0 sh v17 (0 : Int32) d16 _ hd18) kw_473 kw_76 kw_4 kw_77 hd_J7_fill_53178 ⟨Nat.le_of_ble_eq_true rfl, Nat.le_of_ble_eq_true rfl⟩ rfl rfl rfl (Nat.le_of_ble_eq_true rfl) ⟨Nat.le_of_ble_eq_true rfl, Nat.le_of_ble_eq_true rfl⟩ dX4_begin_40 (fun H locs G => ?_)
  refine lv_aload_n hx hb dX4_begin_43 rfl (lv_at hl 1 rfl) ?_
  obtain ⟨v19, hv19, hf⟩ := x_ob hf
  refine xr_getR (ci := 3) (k := 11) S G hv19 rfl kw_109 dX4_begin_44 ?_
  refine lv_iconst (v := (0 : Int32)) hx hb dX4_begin_47 (by decide) ?_
  refine lv_aload_n hx hb dX4_begin_48 rfl (lv_at hl 0 rfl) ?_
  obtain ⟨v20, hv20, hf⟩ := x_ob hf
  refine xr_getR (ci := 4) (k := 6) S G hv20 rfl kw_330 dX4_begin_49 ?_
  refine lv_iconst (v := (0 : Int32)) hx hb dX4_begin_52 (by decide) ?_
  refine lv_bipush (v := (6 : Int32)) hx hb dX4_begin_53 (by decide) ?_
  obtain ⟨d21, hd21, hf⟩ := x_ob hf
  refine xr_copy S G hl.1 hd21 kw_474 (Nat.le_of_ble_eq_true rfl) (Nat.le_of_ble_eq_true rfl) dX4_begin_55 (fun H locs G => ?_)
  refine lv_aload_n hx hb dX4_begin_58 rfl (lv_at hl 1 rfl) ?_
  obtain ⟨v22, hv22, hf⟩ := x_ob hf
  refine xr_getR (ci := 3) (k := 12) S G hv22 rfl kw_111 dX4_begin_59 ?_
  refine lv_iconst (v := (0 : Int32)) hx hb dX4_begin_62 (by decide) ?_
  refine lv_aload_n hx hb dX4_begin_63 rfl (lv_at hl 0 rfl) ?_
  obtain ⟨v23, hv23, hf⟩ := x_ob hf
  refine xr_getR (ci := 4) (k := 7) S G hv23 rfl kw_333 dX4_begin_64 ?_
  refine lv_iconst (v := (0 : Int32)) hx hb dX4_begin_67 (by decide) ?_
  refine lv_bipush (v := (6 : Int32)) hx hb dX4_begin_68 (by decide) ?_
  obtain ⟨d24, hd24, hf⟩ := x_ob hf
  refine xr_copy S G hl.1 hd24 kw_474 (Nat.le_of_ble_eq_true rfl) (Nat.le_of_ble_eq_true rfl) dX4_begin_70 (fun H locs G => ?_)
  refine lv_aload_n hx hb dX4_begin_73 rfl (lv_at hl 1 rfl) ?_
  obtain ⟨v25, hv25, hf⟩ := x_ob hf
  refine xr_getR (ci := 3) (k := 13) S G hv25 rfl kw_113 dX4_begin_74 ?_
  refine lv_iconst (v := (0 : Int32)) hx hb dX4_begin_77 (by decide) ?_
  refine lv_aload_n hx hb dX4_begin_78 rfl (lv_at hl 0 rfl) ?_
  obtain ⟨v26, hv26, hf⟩ := x_ob hf
  refine xr_getR (ci := 4) (k := 8) S G hv26 rfl kw_336 dX4_begin_79 ?_
  refine lv_iconst (v := (0 : Int32)) hx hb dX4_begin_82 (by decide) ?_
  refine lv_bipush (v := (6 : Int32)) hx hb dX4_begin_83 (by decide) ?_
  obtain ⟨d27, hd27, hf⟩ := x_ob hf
  refine xr_copy S G hl.1 hd27 kw_474 (Nat.le_of_ble_eq_true rfl) (Nat.le_of_ble_eq_true rfl) dX4_begin_85 (fun H locs G => ?_)
  refine lv_aload_n hx hb dX4_begin_88 rfl (lv_at hl 0 rfl) ?_
  obtain ⟨v28, hv28, hf⟩ := x_ob hf
  refine xr_getR (ci := 4) (k := 9) S G hv28 rfl kw_339 dX4_begin_89 ?_
  refine lv_iconst (v := (0 : Int32)) hx hb dX4_begin_92 (by decide) ?_
  obtain ⟨d29, hd29, hf⟩ := x_ob hf
  refine xr_callS (As := [.ref (b + v28), .int (0 : Int32)]) (rest := []) (st1 := []) S G hl.1 (fun _ => rfl) (mt_J7_fill_53178 l D cid b ex sa sv B0 sh v28 (0 : Int32) d27 _ hd29) kw_473 kw_76 kw_4 kw_77 hd_J7_fill_53178 ⟨Nat.le_of_ble_eq_true rfl, Nat.le_of_ble_eq_true rfl⟩ rfl rfl rfl (Nat.le_of_ble_eq_true rfl) ⟨Nat.le_of_ble_eq_true rfl, Nat.le_of_ble_eq_true rfl⟩ dX4_begin_93 (fun H locs G => ?_)
  refine lv_aload_n hx hb dX4_begin_96 rfl (lv_at hl 0 rfl) ?_
  obtain ⟨v30, hv30, hf⟩ := x_ob hf
  refine xr_getR (ci := 4) (k := 10) S G hv30 rfl kw_342 dX4_begin_97 ?_
  refine lv_iconst (v := (0 : Int32)) hx hb dX4_begin_100 (by decide) ?_
  obtain ⟨d31, hd31, hf⟩ := x_ob hf
  refine xr_callS (As := [.ref (b + v30), .int (0 : Int32)]) (rest := []) (st1 := []) S G hl.1 (fun _ => rfl) (mt_J7_fill_53178 l D cid b ex sa sv B0 sh v30 (0 : Int32) d29 _ hd31) kw_473 kw_76 kw_4 kw_77 hd_J7_fill_53178 ⟨Nat.le_of_ble_eq_true rfl, Nat.le_of_ble_eq_true rfl⟩ rfl rfl rfl (Nat.le_of_ble_eq_true rfl) ⟨Nat.le_of_ble_eq_true rfl, Nat.le_of_ble_eq_true rfl⟩ dX4_begin_101 (fun H locs G => ?_)
  refine lv_aload_n hx hb dX4_begin_104 rfl (lv_at hl 0 rfl) ?_
  obtain ⟨v32, hv32, hf⟩ := x_ob hf
  refine xr_getR (ci := 4) (k := 11) S G hv32 rfl kw_345 dX4_begin_105 ?_
  refine lv_iconst (v := (0 : Int32)) hx hb dX4_begin_108 (by decide) ?_
  obtain ⟨d33, hd33, hf⟩ := x_ob hf
  refine xr_callS (As := [.ref (b + v32), .int (0 : Int32)]) (rest := []) (st1 := []) S G hl.1 (fun _ => rfl) (mt_J7_fill_53178 l D cid b ex sa sv B0 sh v32 (0 : Int32) d31 _ hd33) kw_473 kw_76 kw_4 kw_77 hd_J7_fill_53178 ⟨Nat.le_of_ble_eq_true rfl, Nat.le_of_ble_eq_true rfl⟩ rfl rfl rfl (Nat.le_of_ble_eq_true rfl) ⟨Nat.le_of_ble_eq_true rfl, Nat.le_of_ble_eq_true rfl⟩ dX4_begin_109 (fun H locs G => ?_)
  refine lv_aload_n hx hb dX4_begin_112 rfl (lv_at hl 1 rfl) ?_
  obtain ⟨v34, hv34, hf⟩ := x_ob hf
  refine xr_getR (ci := 3) (k := 7) S G hv34 rfl kw_100 dX4_begin_113 ?_
  refine lv_iconst (v := (0 : Int32)) hx hb dX4_begin_116 (by decide) ?_
  refine lv_aload_n hx hb dX4_begin_117 rfl (lv_at hl 0 rfl) ?_
  obtain ⟨v35, hv35, hf⟩ := x_ob hf
  refine xr_getR (ci := 4) (k := 12) S G hv35 rfl kw_348 dX4_begin_118 ?_
  refine lv_iconst (v := (0 : Int32)) hx hb dX4_begin_121 (by decide) ?_
  refine lv_bipush (v := (8 : Int32)) hx hb dX4_begin_122 (by decide) ?_
  obtain ⟨d36, hd36, hf⟩ := x_ob hf
  refine xr_copy S G hl.1 hd36 kw_474 (Nat.le_of_ble_eq_true rfl) (Nat.le_of_ble_eq_true rfl) dX4_begin_124 (fun H locs G => ?_)
  refine lv_aload_n hx hb dX4_begin_127 rfl (lv_at hl 0 rfl) ?_
  obtain ⟨v37, hv37, hf⟩ := x_ob hf
  refine xr_getR (ci := 4) (k := 13) S G hv37 rfl kw_350 dX4_begin_128 ?_
  refine lv_iconst (v := (0 : Int32)) hx hb dX4_begin_131 (by decide) ?_
  obtain ⟨d38, hd38, hf⟩ := x_ob hf
  refine xr_callS (As := [.ref (b + v37), .int (0 : Int32)]) (rest := []) (st1 := []) S G hl.1 (fun _ => rfl) (mt_J7_fill_53178 l D cid b ex sa sv B0 sh v37 (0 : Int32) d36 _ hd38) kw_473 kw_76 kw_4 kw_77 hd_J7_fill_53178 ⟨Nat.le_of_ble_eq_true rfl, Nat.le_of_ble_eq_true rfl⟩ rfl rfl rfl (Nat.le_of_ble_eq_true rfl) ⟨Nat.le_of_ble_eq_true rfl, Nat.le_of_ble_eq_true rfl⟩ dX4_begin_132 (fun H locs G => ?_)
  refine lv_aload_n hx hb dX4_begin_135 rfl (lv_at hl 0 rfl) ?_
  refine lv_iconst (v := (0 : Int32)) hx hb dX4_begin_136 (by decide) ?_
  obtain ⟨d39, hd39, hf⟩ := x_ob hf
  refine xr_putI (ci := 4) (k := 14) S G hd39 rfl kw_353 dX4_begin_137 (fun H locs G => ?_)
  refine lv_iconst (v := (0 : Int32)) hx hb dX4_begin_140 (by decide) ?_
  refine lv_istore_n (lv' := [(2, .int (0 : Int32)), (0, .ref (b + q0)), (1, .ref (b + q1))]) hx hb dX4_begin_141 rfl hl (by decide) rfl (fun ls hl => ?_)
  exact K142 xF q0 q1 (0 : Int32) d39 hf _ _ ls (lv_sub hl [1, 2, 0] rfl) G
-- HalfLandings$Scene.become(LHalfLandings$Scene;)V
theorem dX4_become_0 : decode cX4_become 0 = .ok (.aload_n 0, 1) := by decide +kernel
theorem dX4_become_1 : decode cX4_become 1 = .ok (.aload_n 1, 1) := by decide +kernel
theorem dX4_become_2 : decode cX4_become 2 = .ok (.getfield 9, 3) := by decide +kernel
theorem dX4_become_5 : decode cX4_become 5 = .ok (.putfield 9, 3) := by decide +kernel
theorem dX4_become_8 : decode cX4_become 8 = .ok (.aload_n 0, 1) := by decide +kernel
theorem dX4_become_9 : decode cX4_become 9 = .ok (.aload_n 1, 1) := by decide +kernel
theorem dX4_become_10 : decode cX4_become 10 = .ok (.getfield 15, 3) := by decide +kernel
theorem dX4_become_13 : decode cX4_become 13 = .ok (.putfield 15, 3) := by decide +kernel
theorem dX4_become_16 : decode cX4_become 16 = .ok (.aload_n 0, 1) := by decide +kernel
theorem dX4_become_17 : decode cX4_become 17 = .ok (.aload_n 1, 1) := by decide +kernel
theorem dX4_become_18 : decode cX4_become 18 = .ok (.getfield 18, 3) := by decide +kernel
theorem dX4_become_21 : decode cX4_become 21 = .ok (.putfield 18, 3) := by decide +kernel
theorem dX4_become_24 : decode cX4_become 24 = .ok (.aload_n 0, 1) := by decide +kernel
theorem dX4_become_25 : decode cX4_become 25 = .ok (.aload_n 1, 1) := by decide +kernel
theorem dX4_become_26 : decode cX4_become 26 = .ok (.getfield 21, 3) := by decide +kernel
theorem dX4_become_29 : decode cX4_become 29 = .ok (.putfield 21, 3) := by decide +kernel
theorem dX4_become_32 : decode cX4_become 32 = .ok (.aload_n 0, 1) := by decide +kernel
theorem dX4_become_33 : decode cX4_become 33 = .ok (.aload_n 1, 1) := by decide +kernel
theorem dX4_become_34 : decode cX4_become 34 = .ok (.getfield 25, 3) := by decide +kernel
theorem dX4_become_37 : decode cX4_become 37 = .ok (.putfield 25, 3) := by decide +kernel
theorem dX4_become_40 : decode cX4_become 40 = .ok (.aload_n 1, 1) := by decide +kernel
theorem dX4_become_41 : decode cX4_become 41 = .ok (.getfield 28, 3) := by decide +kernel
theorem dX4_become_44 : decode cX4_become 44 = .ok (.iconst 0, 1) := by decide +kernel
theorem dX4_become_45 : decode cX4_become 45 = .ok (.aload_n 0, 1) := by decide +kernel
theorem dX4_become_46 : decode cX4_become 46 = .ok (.getfield 28, 3) := by decide +kernel
theorem dX4_become_49 : decode cX4_become 49 = .ok (.iconst 0, 1) := by decide +kernel
theorem dX4_become_50 : decode cX4_become 50 = .ok (.bipush 6, 2) := by decide +kernel
theorem dX4_become_52 : decode cX4_become 52 = .ok (.invokestatic 87, 3) := by decide +kernel
theorem dX4_become_55 : decode cX4_become 55 = .ok (.aload_n 1, 1) := by decide +kernel
theorem dX4_become_56 : decode cX4_become 56 = .ok (.getfield 32, 3) := by decide +kernel
theorem dX4_become_59 : decode cX4_become 59 = .ok (.iconst 0, 1) := by decide +kernel
theorem dX4_become_60 : decode cX4_become 60 = .ok (.aload_n 0, 1) := by decide +kernel
theorem dX4_become_61 : decode cX4_become 61 = .ok (.getfield 32, 3) := by decide +kernel
theorem dX4_become_64 : decode cX4_become 64 = .ok (.iconst 0, 1) := by decide +kernel
theorem dX4_become_65 : decode cX4_become 65 = .ok (.bipush 6, 2) := by decide +kernel
theorem dX4_become_67 : decode cX4_become 67 = .ok (.invokestatic 87, 3) := by decide +kernel
theorem dX4_become_70 : decode cX4_become 70 = .ok (.aload_n 1, 1) := by decide +kernel
theorem dX4_become_71 : decode cX4_become 71 = .ok (.getfield 35, 3) := by decide +kernel
theorem dX4_become_74 : decode cX4_become 74 = .ok (.iconst 0, 1) := by decide +kernel
theorem dX4_become_75 : decode cX4_become 75 = .ok (.aload_n 0, 1) := by decide +kernel
theorem dX4_become_76 : decode cX4_become 76 = .ok (.getfield 35, 3) := by decide +kernel
theorem dX4_become_79 : decode cX4_become 79 = .ok (.iconst 0, 1) := by decide +kernel
theorem dX4_become_80 : decode cX4_become 80 = .ok (.bipush 6, 2) := by decide +kernel
theorem dX4_become_82 : decode cX4_become 82 = .ok (.invokestatic 87, 3) := by decide +kernel
theorem dX4_become_85 : decode cX4_become 85 = .ok (.aload_n 1, 1) := by decide +kernel
theorem dX4_become_86 : decode cX4_become 86 = .ok (.getfield 38, 3) := by decide +kernel
theorem dX4_become_89 : decode cX4_become 89 = .ok (.iconst 0, 1) := by decide +kernel
theorem dX4_become_90 : decode cX4_become 90 = .ok (.aload_n 0, 1) := by decide +kernel
theorem dX4_become_91 : decode cX4_become 91 = .ok (.getfield 38, 3) := by decide +kernel
theorem dX4_become_94 : decode cX4_become 94 = .ok (.iconst 0, 1) := by decide +kernel
theorem dX4_become_95 : decode cX4_become 95 = .ok (.bipush 6, 2) := by decide +kernel
theorem dX4_become_97 : decode cX4_become 97 = .ok (.invokestatic 87, 3) := by decide +kernel
theorem dX4_become_100 : decode cX4_become 100 = .ok (.aload_n 1, 1) := by decide +kernel
theorem dX4_become_101 : decode cX4_become 101 = .ok (.getfield 41, 3) := by decide +kernel
theorem dX4_become_104 : decode cX4_become 104 = .ok (.iconst 0, 1) := by decide +kernel
theorem dX4_become_105 : decode cX4_become 105 = .ok (.aload_n 0, 1) := by decide +kernel
theorem dX4_become_106 : decode cX4_become 106 = .ok (.getfield 41, 3) := by decide +kernel
theorem dX4_become_109 : decode cX4_become 109 = .ok (.iconst 0, 1) := by decide +kernel
theorem dX4_become_110 : decode cX4_become 110 = .ok (.bipush 6, 2) := by decide +kernel
theorem dX4_become_112 : decode cX4_become 112 = .ok (.invokestatic 87, 3) := by decide +kernel
theorem dX4_become_115 : decode cX4_become 115 = .ok (.aload_n 1, 1) := by decide +kernel
theorem dX4_become_116 : decode cX4_become 116 = .ok (.getfield 44, 3) := by decide +kernel
theorem dX4_become_119 : decode cX4_become 119 = .ok (.iconst 0, 1) := by decide +kernel
theorem dX4_become_120 : decode cX4_become 120 = .ok (.aload_n 0, 1) := by decide +kernel
theorem dX4_become_121 : decode cX4_become 121 = .ok (.getfield 44, 3) := by decide +kernel
theorem dX4_become_124 : decode cX4_become 124 = .ok (.iconst 0, 1) := by decide +kernel
theorem dX4_become_125 : decode cX4_become 125 = .ok (.bipush 6, 2) := by decide +kernel
theorem dX4_become_127 : decode cX4_become 127 = .ok (.invokestatic 87, 3) := by decide +kernel
theorem dX4_become_130 : decode cX4_become 130 = .ok (.aload_n 1, 1) := by decide +kernel
theorem dX4_become_131 : decode cX4_become 131 = .ok (.getfield 47, 3) := by decide +kernel
theorem dX4_become_134 : decode cX4_become 134 = .ok (.iconst 0, 1) := by decide +kernel
theorem dX4_become_135 : decode cX4_become 135 = .ok (.aload_n 0, 1) := by decide +kernel
theorem dX4_become_136 : decode cX4_become 136 = .ok (.getfield 47, 3) := by decide +kernel
theorem dX4_become_139 : decode cX4_become 139 = .ok (.iconst 0, 1) := by decide +kernel
theorem dX4_become_140 : decode cX4_become 140 = .ok (.bipush 6, 2) := by decide +kernel
theorem dX4_become_142 : decode cX4_become 142 = .ok (.invokestatic 87, 3) := by decide +kernel
theorem dX4_become_145 : decode cX4_become 145 = .ok (.aload_n 1, 1) := by decide +kernel
theorem dX4_become_146 : decode cX4_become 146 = .ok (.getfield 50, 3) := by decide +kernel
theorem dX4_become_149 : decode cX4_become 149 = .ok (.iconst 0, 1) := by decide +kernel
theorem dX4_become_150 : decode cX4_become 150 = .ok (.aload_n 0, 1) := by decide +kernel
theorem dX4_become_151 : decode cX4_become 151 = .ok (.getfield 50, 3) := by decide +kernel
theorem dX4_become_154 : decode cX4_become 154 = .ok (.iconst 0, 1) := by decide +kernel
theorem dX4_become_155 : decode cX4_become 155 = .ok (.bipush 8, 2) := by decide +kernel
theorem dX4_become_157 : decode cX4_become 157 = .ok (.invokestatic 87, 3) := by decide +kernel
theorem dX4_become_160 : decode cX4_become 160 = .ok (.aload_n 1, 1) := by decide +kernel
theorem dX4_become_161 : decode cX4_become 161 = .ok (.getfield 53, 3) := by decide +kernel
theorem dX4_become_164 : decode cX4_become 164 = .ok (.iconst 0, 1) := by decide +kernel
theorem dX4_become_165 : decode cX4_become 165 = .ok (.aload_n 0, 1) := by decide +kernel
theorem dX4_become_166 : decode cX4_become 166 = .ok (.getfield 53, 3) := by decide +kernel
theorem dX4_become_169 : decode cX4_become 169 = .ok (.iconst 0, 1) := by decide +kernel
theorem dX4_become_170 : decode cX4_become 170 = .ok (.bipush 8, 2) := by decide +kernel
theorem dX4_become_172 : decode cX4_become 172 = .ok (.invokestatic 87, 3) := by decide +kernel
theorem dX4_become_175 : decode cX4_become 175 = .ok (.aload_n 0, 1) := by decide +kernel
theorem dX4_become_176 : decode cX4_become 176 = .ok (.aload_n 1, 1) := by decide +kernel
theorem dX4_become_177 : decode cX4_become 177 = .ok (.getfield 56, 3) := by decide +kernel
theorem dX4_become_180 : decode cX4_become 180 = .ok (.putfield 56, 3) := by decide +kernel
theorem dX4_become_183 : decode cX4_become 183 = .ok (.aload_n 1, 1) := by decide +kernel
theorem dX4_become_184 : decode cX4_become 184 = .ok (.getfield 59, 3) := by decide +kernel
theorem dX4_become_187 : decode cX4_become 187 = .ok (.iconst 0, 1) := by decide +kernel
theorem dX4_become_188 : decode cX4_become 188 = .ok (.aload_n 0, 1) := by decide +kernel
theorem dX4_become_189 : decode cX4_become 189 = .ok (.getfield 59, 3) := by decide +kernel
theorem dX4_become_192 : decode cX4_become 192 = .ok (.iconst 0, 1) := by decide +kernel
theorem dX4_become_193 : decode cX4_become 193 = .ok (.bipush 13, 2) := by decide +kernel
theorem dX4_become_195 : decode cX4_become 195 = .ok (.invokestatic 87, 3) := by decide +kernel
theorem dX4_become_198 : decode cX4_become 198 = .ok (.aload_n 1, 1) := by decide +kernel
theorem dX4_become_199 : decode cX4_become 199 = .ok (.getfield 62, 3) := by decide +kernel
theorem dX4_become_202 : decode cX4_become 202 = .ok (.iconst 0, 1) := by decide +kernel
theorem dX4_become_203 : decode cX4_become 203 = .ok (.aload_n 0, 1) := by decide +kernel
theorem dX4_become_204 : decode cX4_become 204 = .ok (.getfield 62, 3) := by decide +kernel
theorem dX4_become_207 : decode cX4_become 207 = .ok (.iconst 0, 1) := by decide +kernel
theorem dX4_become_208 : decode cX4_become 208 = .ok (.bipush 13, 2) := by decide +kernel
theorem dX4_become_210 : decode cX4_become 210 = .ok (.invokestatic 87, 3) := by decide +kernel
theorem dX4_become_213 : decode cX4_become 213 = .ok (.aload_n 1, 1) := by decide +kernel
theorem dX4_become_214 : decode cX4_become 214 = .ok (.getfield 65, 3) := by decide +kernel
theorem dX4_become_217 : decode cX4_become 217 = .ok (.iconst 0, 1) := by decide +kernel
theorem dX4_become_218 : decode cX4_become 218 = .ok (.aload_n 0, 1) := by decide +kernel
theorem dX4_become_219 : decode cX4_become 219 = .ok (.getfield 65, 3) := by decide +kernel
theorem dX4_become_222 : decode cX4_become 222 = .ok (.iconst 0, 1) := by decide +kernel
theorem dX4_become_223 : decode cX4_become 223 = .ok (.bipush 13, 2) := by decide +kernel
theorem dX4_become_225 : decode cX4_become 225 = .ok (.invokestatic 87, 3) := by decide +kernel
theorem dX4_become_228 : decode cX4_become 228 = .ok (.aload_n 1, 1) := by decide +kernel
theorem dX4_become_229 : decode cX4_become 229 = .ok (.getfield 68, 3) := by decide +kernel
theorem dX4_become_232 : decode cX4_become 232 = .ok (.iconst 0, 1) := by decide +kernel
theorem dX4_become_233 : decode cX4_become 233 = .ok (.aload_n 0, 1) := by decide +kernel
theorem dX4_become_234 : decode cX4_become 234 = .ok (.getfield 68, 3) := by decide +kernel
theorem dX4_become_237 : decode cX4_become 237 = .ok (.iconst 0, 1) := by decide +kernel
theorem dX4_become_238 : decode cX4_become 238 = .ok (.bipush 13, 2) := by decide +kernel
theorem dX4_become_240 : decode cX4_become 240 = .ok (.invokestatic 87, 3) := by decide +kernel
theorem dX4_become_243 : decode cX4_become 243 = .ok (.return_, 1) := by decide +kernel
theorem hd_X4_become : yX4_become.cls = xCn 4 ∧ yX4_become.cls ≠ "java/lang/invoke/MethodHandle" ∧ yX4_become.cls ≠ "java/lang/invoke/VarHandle" ∧ (parseMethodDescriptor yX4_become.desc).map (fun d => d.parameters.length) = some 1 := by decide +kernel
def f_X4_become (sh : List xSh) (q0 : Nat) (q1 : Nat) (d : xD) : Option xD :=
  (xgI 4 sh d q1 0).bind fun v1 => (xpI 4 sh d q0 0 v1).bind fun d2 => (xgI 4 sh d2 q1 1).bind fun v3 => (xpI 4 sh d2 q0 1 v3).bind fun d4 => (xgI 4 sh d4 q1 2).bind fun v5 => (xpI 4 sh d4 q0 2 v5).bind fun d6 => (xgL 4 sh d6 q1 3).bind fun v7 => (xpL 4 sh d6 q0 3 v7).bind fun d8 => (xgI 4 sh d8 q1 4).bind fun v9 => (xpI 4 sh d8 q0 4 v9).bind fun d10 => (xgR 4 sh d10 q1 5).bind fun v11 => (xgR 4 sh d10 q0 5).bind fun v12 => (xcp sh d10 v11 (0 : Int32) v12 (0 : Int32) (6 : Int32)).bind fun d13 => (xgR 4 sh d13 q1 6).bind fun v14 => (xgR 4 sh d13 q0 6).bind fun v15 => (xcp sh d13 v14 (0 : Int32) v15 (0 : Int32) (6 : Int32)).bind fun d16 => (xgR 4 sh d16 q1 7).bind fun v17 => (xgR 4 sh d16 q0 7).bind fun v18 => (xcp sh d16 v17 (0 : Int32) v18 (0 : Int32) (6 : Int32)).bind fun d19 => (xgR 4 sh d19 q1 8).bind fun v20 => (xgR 4 sh d19 q0 8).bind fun v21 => (xcp sh d19 v20 (0 : Int32) v21 (0 : Int32) (6 : Int32)).bind fun d22 => (xgR 4 sh d22 q1 9).bind fun v23 => (xgR 4 sh d22 q0 9).bind fun v24 => (xcp sh d22 v23 (0 : Int32) v24 (0 : Int32) (6 : Int32)).bind fun d25 => (xgR 4 sh d25 q1 10).bind fun v26 => (xgR 4 sh d25 q0 10).bind fun v27 => (xcp sh d25 v26 (0 : Int32) v27 (0 : Int32) (6 : Int32)).bind fun d28 => (xgR 4 sh d28 q1 11).bind fun v29 => (xgR 4 sh d28 q0 11).bind fun v30 => (xcp sh d28 v29 (0 : Int32) v30 (0 : Int32) (6 : Int32)).bind fun d31 => (xgR 4 sh d31 q1 12).bind fun v32 => (xgR 4 sh d31 q0 12).bind fun v33 => (xcp sh d31 v32 (0 : Int32) v33 (0 : Int32) (8 : Int32)).bind fun d34 => (xgR 4 sh d34 q1 13).bind fun v35 => (xgR 4 sh d34 q0 13).bind fun v36 => (xcp sh d34 v35 (0 : Int32) v36 (0 : Int32) (8 : Int32)).bind fun d37 => (xgI 4 sh d37 q1 14).bind fun v38 => (xpI 4 sh d37 q0 14 v38).bind fun d39 => (xgR 4 sh d39 q1 15).bind fun v40 => (xgR 4 sh d39 q0 15).bind fun v41 => (xcp sh d39 v40 (0 : Int32) v41 (0 : Int32) (13 : Int32)).bind fun d42 => (xgR 4 sh d42 q1 16).bind fun v43 => (xgR 4 sh d42 q0 16).bind fun v44 => (xcp sh d42 v43 (0 : Int32) v44 (0 : Int32) (13 : Int32)).bind fun d45 => (xgR 4 sh d45 q1 17).bind fun v46 => (xgR 4 sh d45 q0 17).bind fun v47 => (xcp sh d45 v46 (0 : Int32) v47 (0 : Int32) (13 : Int32)).bind fun d48 => (xgR 4 sh d48 q1 18).bind fun v49 => (xgR 4 sh d48 q0 18).bind fun v50 => (xcp sh d48 v49 (0 : Int32) v50 (0 : Int32) (13 : Int32)).bind fun d51 => some d51
set_option maxHeartbeats 4000000 in
set_option maxRecDepth 100000 in
theorem mt_X4_become (l : Launch) (D : va_G) (cid : FieldType → ClassId) (b : Nat) (ex : Bool) (sa sv B0 : Nat) (sh : List xSh) (q0 : Nat) (q1 : Nat) (d : xD) (dz : xD) (hf : f_X4_become sh q0 q1 d = some dz) : xMet l yX4_become cX4_become 2 none 1 0 0 D cid b ex sa sv B0 [.ref (b + q0), .ref (b + q1)] sh d none sh dz := by
  refine xMet.of (by decide) (Nat.le_of_ble_eq_true rfl) ?_
  intro p e s m below meth c ls A S hr hin G hl
  have hl : lv_has ls 2 [(0, .ref (b + q0)), (1, .ref (b + q1))] := hl
  generalize ([.ref (b + q0), .ref (b + q1)] : List Value).toArray = av at S ⊢
  have hx := S.1
  have hb := S.2.1
  have hml := S.2.2.1
  have hown := S.2.2.2.1
  have hts := S.2.2.2.2.1
  unfold f_X4_become at hf
  refine lv_aload_n hx hb dX4_become_0 rfl (lv_at hl 0 rfl) ?_
  refine lv_aload_n hx hb dX4_become_1 rfl (lv_at hl 1 rfl) ?_
  obtain ⟨v1, hv1, hf⟩ := x_ob hf
  refine xr_getI (ci := 4) (k := 0) S G hv1 rfl kw_313 dX4_become_2 ?_
  obtain ⟨d2, hd2, hf⟩ := x_ob hf
  refine xr_putI (ci := 4) (k := 0) S G hd2 rfl kw_313 dX4_become_5 (fun H locs G => ?_)
  refine lv_aload_n hx hb dX4_become_8 rfl (lv_at hl 0 rfl) ?_
  refine lv_aload_n hx hb dX4_become_9 rfl (lv_at hl 1 rfl) ?_
  obtain ⟨v3, hv3, hf⟩ := x_ob hf
  refine xr_getI (ci := 4) (k := 1) S G hv3 rfl kw_316 dX4_become_10 ?_
  obtain ⟨d4, hd4, hf⟩ := x_ob hf
  refine xr_putI (ci := 4) (k := 1) S G hd4 rfl kw_316 dX4_become_13 (fun H locs G => ?_)
  refine lv_aload_n hx hb dX4_become_16 rfl (lv_at hl 0 rfl) ?_
  refine lv_aload_n hx hb dX4_become_17 rfl (lv_at hl 1 rfl) ?_
  obtain ⟨v5, hv5, hf⟩ := x_ob hf
  refine xr_getI (ci := 4) (k := 2) S G hv5 rfl kw_319 dX4_become_18 ?_
  obtain ⟨d6, hd6, hf⟩ := x_ob hf
  refine xr_putI (ci := 4) (k := 2) S G hd6 rfl kw_319 dX4_become_21 (fun H locs G => ?_)
  refine lv_aload_n hx hb dX4_become_24 rfl (lv_at hl 0 rfl) ?_
  refine lv_aload_n hx hb dX4_become_25 rfl (lv_at hl 1 rfl) ?_
  obtain ⟨v7, hv7, hf⟩ := x_ob hf
  refine xr_getL (ci := 4) (k := 3) S G hv7 rfl kw_323 dX4_become_26 ?_
  obtain ⟨d8, hd8, hf⟩ := x_ob hf
  refine xr_putL (ci := 4) (k := 3) S G hd8 rfl kw_323 dX4_become_29 (fun H locs G => ?_)
  refine lv_aload_n hx hb dX4_become_32 rfl (lv_at hl 0 rfl) ?_
  refine lv_aload_n hx hb dX4_become_33 rfl (lv_at hl 1 rfl) ?_
  obtain ⟨v9, hv9, hf⟩ := x_ob hf
  refine xr_getI (ci := 4) (k := 4) S G hv9 rfl kw_326 dX4_become_34 ?_
  obtain ⟨d10, hd10, hf⟩ := x_ob hf
  refine xr_putI (ci := 4) (k := 4) S G hd10 rfl kw_326 dX4_become_37 (fun H locs G => ?_)
  refine lv_aload_n hx hb dX4_become_40 rfl (lv_at hl 1 rfl) ?_
  obtain ⟨v11, hv11, hf⟩ := x_ob hf
  refine xr_getR (ci := 4) (k := 5) S G hv11 rfl kw_327 dX4_become_41 ?_
  refine lv_iconst (v := (0 : Int32)) hx hb dX4_become_44 (by decide) ?_
  refine lv_aload_n hx hb dX4_become_45 rfl (lv_at hl 0 rfl) ?_
  obtain ⟨v12, hv12, hf⟩ := x_ob hf
  refine xr_getR (ci := 4) (k := 5) S G hv12 rfl kw_327 dX4_become_46 ?_
  refine lv_iconst (v := (0 : Int32)) hx hb dX4_become_49 (by decide) ?_
  refine lv_bipush (v := (6 : Int32)) hx hb dX4_become_50 (by decide) ?_
  obtain ⟨d13, hd13, hf⟩ := x_ob hf
  refine xr_copy S G hl.1 hd13 kw_474 (Nat.le_of_ble_eq_true rfl) (Nat.le_of_ble_eq_true rfl) dX4_become_52 (fun H locs G => ?_)
  refine lv_aload_n hx hb dX4_become_55 rfl (lv_at hl 1 rfl) ?_
  obtain ⟨v14, hv14, hf⟩ := x_ob hf
  refine xr_getR (ci := 4) (k := 6) S G hv14 rfl kw_330 dX4_become_56 ?_
  refine lv_iconst (v := (0 : Int32)) hx hb dX4_become_59 (by decide) ?_
  refine lv_aload_n hx hb dX4_become_60 rfl (lv_at hl 0 rfl) ?_
  obtain ⟨v15, hv15, hf⟩ := x_ob hf
  refine xr_getR (ci := 4) (k := 6) S G hv15 rfl kw_330 dX4_become_61 ?_
  refine lv_iconst (v := (0 : Int32)) hx hb dX4_become_64 (by decide) ?_
  refine lv_bipush (v := (6 : Int32)) hx hb dX4_become_65 (by decide) ?_
  obtain ⟨d16, hd16, hf⟩ := x_ob hf
  refine xr_copy S G hl.1 hd16 kw_474 (Nat.le_of_ble_eq_true rfl) (Nat.le_of_ble_eq_true rfl) dX4_become_67 (fun H locs G => ?_)
  refine lv_aload_n hx hb dX4_become_70 rfl (lv_at hl 1 rfl) ?_
  obtain ⟨v17, hv17, hf⟩ := x_ob hf
  refine xr_getR (ci := 4) (k := 7) S G hv17 rfl kw_333 dX4_become_71 ?_
  refine lv_iconst (v := (0 : Int32)) hx hb dX4_become_74 (by decide) ?_
  refine lv_aload_n hx hb dX4_become_75 rfl (lv_at hl 0 rfl) ?_
  obtain ⟨v18, hv18, hf⟩ := x_ob hf
  refine xr_getR (ci := 4) (k := 7) S G hv18 rfl kw_333 dX4_become_76 ?_
  refine lv_iconst (v := (0 : Int32)) hx hb dX4_become_79 (by decide) ?_
  refine lv_bipush (v := (6 : Int32)) hx hb dX4_become_80 (by decide) ?_
  obtain ⟨d19, hd19, hf⟩ := x_ob hf
  refine xr_copy S G hl.1 hd19 kw_474 (Nat.le_of_ble_eq_true rfl) (Nat.le_of_ble_eq_true rfl) dX4_become_82 (fun H locs G => ?_)
  refine lv_aload_n hx hb dX4_become_85 rfl (lv_at hl 1 rfl) ?_
  obtain ⟨v20, hv20, hf⟩ := x_ob hf
  refine xr_getR (ci := 4) (k := 8) S G hv20 rfl kw_336 dX4_become_86 ?_
  refine lv_iconst (v := (0 : Int32)) hx hb dX4_become_89 (by decide) ?_
  refine lv_aload_n hx hb dX4_become_90 rfl (lv_at hl 0 rfl) ?_
  obtain ⟨v21, hv21, hf⟩ := x_ob hf
  refine xr_getR (ci := 4) (k := 8) S G hv21 rfl kw_336 dX4_become_91 ?_
  refine lv_iconst (v := (0 : Int32)) hx hb dX4_become_94 (by decide) ?_
  refine lv_bipush (v := (6 : Int32)) hx hb dX4_become_95 (by decide) ?_
  obtain ⟨d22, hd22, hf⟩ := x_ob hf
  refine xr_copy S G hl.1 hd22 kw_474 (Nat.le_of_ble_eq_true rfl) (Nat.le_of_ble_eq_true rfl) dX4_become_97 (fun H locs G => ?_)
  refine lv_aload_n hx hb dX4_become_100 rfl (lv_at hl 1 rfl) ?_
  obtain ⟨v23, hv23, hf⟩ := x_ob hf
  refine xr_getR (ci := 4) (k := 9) S G hv23 rfl kw_339 dX4_become_101 ?_
  refine lv_iconst (v := (0 : Int32)) hx hb dX4_become_104 (by decide) ?_
  refine lv_aload_n hx hb dX4_become_105 rfl (lv_at hl 0 rfl) ?_
  obtain ⟨v24, hv24, hf⟩ := x_ob hf
  refine xr_getR (ci := 4) (k := 9) S G hv24 rfl kw_339 dX4_become_106 ?_
  refine lv_iconst (v := (0 : Int32)) hx hb dX4_become_109 (by decide) ?_
  refine lv_bipush (v := (6 : Int32)) hx hb dX4_become_110 (by decide) ?_
  obtain ⟨d25, hd25, hf⟩ := x_ob hf
  refine xr_copy S G hl.1 hd25 kw_474 (Nat.le_of_ble_eq_true rfl) (Nat.le_of_ble_eq_true rfl) dX4_become_112 (fun H locs G => ?_)
  refine lv_aload_n hx hb dX4_become_115 rfl (lv_at hl 1 rfl) ?_
  obtain ⟨v26, hv26, hf⟩ := x_ob hf
  refine xr_getR (ci := 4) (k := 10) S G hv26 rfl kw_342 dX4_become_116 ?_
  refine lv_iconst (v := (0 : Int32)) hx hb dX4_become_119 (by decide) ?_
  refine lv_aload_n hx hb dX4_become_120 rfl (lv_at hl 0 rfl) ?_
  obtain ⟨v27, hv27, hf⟩ := x_ob hf
  refine xr_getR (ci := 4) (k := 10) S G hv27 rfl kw_342 dX4_become_121 ?_
  refine lv_iconst (v := (0 : Int32)) hx hb dX4_become_124 (by decide) ?_
  refine lv_bipush (v := (6 : Int32)) hx hb dX4_become_125 (by decide) ?_
  obtain ⟨d28, hd28, hf⟩ := x_ob hf
  refine xr_copy S G hl.1 hd28 kw_474 (Nat.le_of_ble_eq_true rfl) (Nat.le_of_ble_eq_true rfl) dX4_become_127 (fun H locs G => ?_)
  refine lv_aload_n hx hb dX4_become_130 rfl (lv_at hl 1 rfl) ?_
  obtain ⟨v29, hv29, hf⟩ := x_ob hf
  refine xr_getR (ci := 4) (k := 11) S G hv29 rfl kw_345 dX4_become_131 ?_
  refine lv_iconst (v := (0 : Int32)) hx hb dX4_become_134 (by decide) ?_
  refine lv_aload_n hx hb dX4_become_135 rfl (lv_at hl 0 rfl) ?_
  obtain ⟨v30, hv30, hf⟩ := x_ob hf
  refine xr_getR (ci := 4) (k := 11) S G hv30 rfl kw_345 dX4_become_136 ?_
  refine lv_iconst (v := (0 : Int32)) hx hb dX4_become_139 (by decide) ?_
  refine lv_bipush (v := (6 : Int32)) hx hb dX4_become_140 (by decide) ?_
  obtain ⟨d31, hd31, hf⟩ := x_ob hf
  refine xr_copy S G hl.1 hd31 kw_474 (Nat.le_of_ble_eq_true rfl) (Nat.le_of_ble_eq_true rfl) dX4_become_142 (fun H locs G => ?_)
  refine lv_aload_n hx hb dX4_become_145 rfl (lv_at hl 1 rfl) ?_
  obtain ⟨v32, hv32, hf⟩ := x_ob hf
  refine xr_getR (ci := 4) (k := 12) S G hv32 rfl kw_348 dX4_become_146 ?_
  refine lv_iconst (v := (0 : Int32)) hx hb dX4_become_149 (by decide) ?_
  refine lv_aload_n hx hb dX4_become_150 rfl (lv_at hl 0 rfl) ?_
  obtain ⟨v33, hv33, hf⟩ := x_ob hf
  refine xr_getR (ci := 4) (k := 12) S G hv33 rfl kw_348 dX4_become_151 ?_
  refine lv_iconst (v := (0 : Int32)) hx hb dX4_become_154 (by decide) ?_
  refine lv_bipush (v := (8 : Int32)) hx hb dX4_become_155 (by decide) ?_
  obtain ⟨d34, hd34, hf⟩ := x_ob hf
  refine xr_copy S G hl.1 hd34 kw_474 (Nat.le_of_ble_eq_true rfl) (Nat.le_of_ble_eq_true rfl) dX4_become_157 (fun H locs G => ?_)
  refine lv_aload_n hx hb dX4_become_160 rfl (lv_at hl 1 rfl) ?_
  obtain ⟨v35, hv35, hf⟩ := x_ob hf
  refine xr_getR (ci := 4) (k := 13) S G hv35 rfl kw_350 dX4_become_161 ?_
  refine lv_iconst (v := (0 : Int32)) hx hb dX4_become_164 (by decide) ?_
  refine lv_aload_n hx hb dX4_become_165 rfl (lv_at hl 0 rfl) ?_
  obtain ⟨v36, hv36, hf⟩ := x_ob hf
  refine xr_getR (ci := 4) (k := 13) S G hv36 rfl kw_350 dX4_become_166 ?_
  refine lv_iconst (v := (0 : Int32)) hx hb dX4_become_169 (by decide) ?_
  refine lv_bipush (v := (8 : Int32)) hx hb dX4_become_170 (by decide) ?_
  obtain ⟨d37, hd37, hf⟩ := x_ob hf
  refine xr_copy S G hl.1 hd37 kw_474 (Nat.le_of_ble_eq_true rfl) (Nat.le_of_ble_eq_true rfl) dX4_become_172 (fun H locs G => ?_)
  refine lv_aload_n hx hb dX4_become_175 rfl (lv_at hl 0 rfl) ?_
  refine lv_aload_n hx hb dX4_become_176 rfl (lv_at hl 1 rfl) ?_
  obtain ⟨v38, hv38, hf⟩ := x_ob hf
  refine xr_getI (ci := 4) (k := 14) S G hv38 rfl kw_353 dX4_become_177 ?_
  obtain ⟨d39, hd39, hf⟩ := x_ob hf
  refine xr_putI (ci := 4) (k := 14) S G hd39 rfl kw_353 dX4_become_180 (fun H locs G => ?_)
  refine lv_aload_n hx hb dX4_become_183 rfl (lv_at hl 1 rfl) ?_
  obtain ⟨v40, hv40, hf⟩ := x_ob hf
  refine xr_getR (ci := 4) (k := 15) S G hv40 rfl kw_355 dX4_become_184 ?_
  refine lv_iconst (v := (0 : Int32)) hx hb dX4_become_187 (by decide) ?_
  refine lv_aload_n hx hb dX4_become_188 rfl (lv_at hl 0 rfl) ?_
  obtain ⟨v41, hv41, hf⟩ := x_ob hf
  refine xr_getR (ci := 4) (k := 15) S G hv41 rfl kw_355 dX4_become_189 ?_
  refine lv_iconst (v := (0 : Int32)) hx hb dX4_become_192 (by decide) ?_
  refine lv_bipush (v := (13 : Int32)) hx hb dX4_become_193 (by decide) ?_
  obtain ⟨d42, hd42, hf⟩ := x_ob hf
  refine xr_copy S G hl.1 hd42 kw_474 (Nat.le_of_ble_eq_true rfl) (Nat.le_of_ble_eq_true rfl) dX4_become_195 (fun H locs G => ?_)
  refine lv_aload_n hx hb dX4_become_198 rfl (lv_at hl 1 rfl) ?_
  obtain ⟨v43, hv43, hf⟩ := x_ob hf
  refine xr_getR (ci := 4) (k := 16) S G hv43 rfl kw_357 dX4_become_199 ?_
  refine lv_iconst (v := (0 : Int32)) hx hb dX4_become_202 (by decide) ?_
  refine lv_aload_n hx hb dX4_become_203 rfl (lv_at hl 0 rfl) ?_
  obtain ⟨v44, hv44, hf⟩ := x_ob hf
  refine xr_getR (ci := 4) (k := 16) S G hv44 rfl kw_357 dX4_become_204 ?_
  refine lv_iconst (v := (0 : Int32)) hx hb dX4_become_207 (by decide) ?_
  refine lv_bipush (v := (13 : Int32)) hx hb dX4_become_208 (by decide) ?_
  obtain ⟨d45, hd45, hf⟩ := x_ob hf
  refine xr_copy S G hl.1 hd45 kw_474 (Nat.le_of_ble_eq_true rfl) (Nat.le_of_ble_eq_true rfl) dX4_become_210 (fun H locs G => ?_)
  refine lv_aload_n hx hb dX4_become_213 rfl (lv_at hl 1 rfl) ?_
  obtain ⟨v46, hv46, hf⟩ := x_ob hf
  refine xr_getR (ci := 4) (k := 17) S G hv46 rfl kw_359 dX4_become_214 ?_
  refine lv_iconst (v := (0 : Int32)) hx hb dX4_become_217 (by decide) ?_
  refine lv_aload_n hx hb dX4_become_218 rfl (lv_at hl 0 rfl) ?_
  obtain ⟨v47, hv47, hf⟩ := x_ob hf
  refine xr_getR (ci := 4) (k := 17) S G hv47 rfl kw_359 dX4_become_219 ?_
  refine lv_iconst (v := (0 : Int32)) hx hb dX4_become_222 (by decide) ?_
  refine lv_bipush (v := (13 : Int32)) hx hb dX4_become_223 (by decide) ?_
  obtain ⟨d48, hd48, hf⟩ := x_ob hf
  refine xr_copy S G hl.1 hd48 kw_474 (Nat.le_of_ble_eq_true rfl) (Nat.le_of_ble_eq_true rfl) dX4_become_225 (fun H locs G => ?_)
  refine lv_aload_n hx hb dX4_become_228 rfl (lv_at hl 1 rfl) ?_
  obtain ⟨v49, hv49, hf⟩ := x_ob hf
  refine xr_getR (ci := 4) (k := 18) S G hv49 rfl kw_362 dX4_become_229 ?_
  refine lv_iconst (v := (0 : Int32)) hx hb dX4_become_232 (by decide) ?_
  refine lv_aload_n hx hb dX4_become_233 rfl (lv_at hl 0 rfl) ?_
  obtain ⟨v50, hv50, hf⟩ := x_ob hf
  refine xr_getR (ci := 4) (k := 18) S G hv50 rfl kw_362 dX4_become_234 ?_
  refine lv_iconst (v := (0 : Int32)) hx hb dX4_become_237 (by decide) ?_
  refine lv_bipush (v := (13 : Int32)) hx hb dX4_become_238 (by decide) ?_
  obtain ⟨d51, hd51, hf⟩ := x_ob hf
  refine xr_copy S G hl.1 hd51 kw_474 (Nat.le_of_ble_eq_true rfl) (Nat.le_of_ble_eq_true rfl) dX4_become_240 (fun H locs G => ?_)
  cases hf
  exact xr_vret S G (fun _ => rfl) hr dX4_become_243

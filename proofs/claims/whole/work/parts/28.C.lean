-- HalfLandings.go(I)I
theorem dX9_go_0 : decode cX9_go 0 = .ok (.iload_n 1, 1) := by decide +kernel
theorem dX9_go_1 : decode cX9_go 1 = .ok (.ifCond .lt 25, 3) := by decide +kernel
theorem dX9_go_4 : decode cX9_go 4 = .ok (.iload_n 1, 1) := by decide +kernel
theorem dX9_go_5 : decode cX9_go 5 = .ok (.sipush 200, 3) := by decide +kernel
theorem dX9_go_8 : decode cX9_go 8 = .ok (.if_icmp .gt 18, 3) := by decide +kernel
theorem dX9_go_11 : decode cX9_go 11 = .ok (.aload_n 0, 1) := by decide +kernel
theorem dX9_go_12 : decode cX9_go 12 = .ok (.getfield 56, 3) := by decide +kernel
theorem dX9_go_15 : decode cX9_go 15 = .ok (.getfield 226, 3) := by decide +kernel
theorem dX9_go_18 : decode cX9_go 18 = .ok (.iload_n 1, 1) := by decide +kernel
theorem dX9_go_19 : decode cX9_go 19 = .ok (.iadd, 1) := by decide +kernel
theorem dX9_go_20 : decode cX9_go 20 = .ok (.sipush 9800, 3) := by decide +kernel
theorem dX9_go_23 : decode cX9_go 23 = .ok (.if_icmp .le 5, 3) := by decide +kernel
theorem dX9_go_26 : decode cX9_go 26 = .ok (.iconst (-1), 1) := by decide +kernel
theorem dX9_go_27 : decode cX9_go 27 = .ok (.ireturn, 1) := by decide +kernel
theorem dX9_go_28 : decode cX9_go 28 = .ok (.iload_n 1, 1) := by decide +kernel
theorem dX9_go_29 : decode cX9_go 29 = .ok (.ifCond .le 10, 3) := by decide +kernel
theorem dX9_go_32 : decode cX9_go 32 = .ok (.aload_n 0, 1) := by decide +kernel
theorem dX9_go_33 : decode cX9_go 33 = .ok (.getfield 82, 3) := by decide +kernel
theorem dX9_go_36 : decode cX9_go 36 = .ok (.invokevirtual 112, 3) := by decide +kernel
theorem dX9_go_39 : decode cX9_go 39 = .ok (.aload_n 0, 1) := by decide +kernel
theorem dX9_go_40 : decode cX9_go 40 = .ok (.getfield 75, 3) := by decide +kernel
theorem dX9_go_43 : decode cX9_go 43 = .ok (.aload_n 0, 1) := by decide +kernel
theorem dX9_go_44 : decode cX9_go 44 = .ok (.getfield 56, 3) := by decide +kernel
theorem dX9_go_47 : decode cX9_go 47 = .ok (.iload_n 1, 1) := by decide +kernel
theorem dX9_go_48 : decode cX9_go 48 = .ok (.iconst 2, 1) := by decide +kernel
theorem dX9_go_49 : decode cX9_go 49 = .ok (.invokevirtual 229, 3) := by decide +kernel
theorem dX9_go_52 : decode cX9_go 52 = .ok (.pop, 1) := by decide +kernel
theorem dX9_go_53 : decode cX9_go 53 = .ok (.aload_n 0, 1) := by decide +kernel
theorem dX9_go_54 : decode cX9_go 54 = .ok (.getfield 56, 3) := by decide +kernel
theorem dX9_go_57 : decode cX9_go 57 = .ok (.getfield 226, 3) := by decide +kernel
theorem dX9_go_60 : decode cX9_go 60 = .ok (.ireturn, 1) := by decide +kernel
theorem hd_X9_go : yX9_go.cls = xCn 9 ∧ yX9_go.cls ≠ "java/lang/invoke/MethodHandle" ∧ yX9_go.cls ≠ "java/lang/invoke/VarHandle" ∧ (parseMethodDescriptor yX9_go.desc).map (fun d => d.parameters.length) = some 1 := by decide +kernel
def k_X9_go_26 (sh : List xSh) (d : xD) : Option (Int32 × xD) :=
  some ((-1 : Int32), d)
def k_X9_go_39 (sh : List xSh) (q0 : Nat) (x1 : Int32) (d : xD) : Option (Int32 × xD) :=
  (xgR 9 sh d q0 12).bind fun v1 => (xgR 9 sh d q0 8).bind fun v2 => (xon 2 sh v1 (f_X2_talkMore sh v1 v2 x1 (2 : Int32) d)).bind fun z3 => (xgR 9 sh z3.2 q0 8).bind fun v4 => (xgI 4 sh z3.2 v4 0).bind fun v5 => some (v5, z3.2)
def f_X9_go (sh : List xSh) (q0 : Nat) (x1 : Int32) (d : xD) : Option (Int32 × xD) :=
  if x1 < 0 then (k_X9_go_26 sh d) else (if (200 : Int32) < x1 then (k_X9_go_26 sh d) else ((xgR 9 sh d q0 8).bind fun v6 => (xgI 4 sh d v6 0).bind fun v7 => if (v7 + x1) ≤ (9800 : Int32) then (if x1 ≤ 0 then (k_X9_go_39 sh q0 x1 d) else ((xgR 9 sh d q0 13).bind fun v8 => (xon 8 sh v8 (f_X8_clear sh v8 d)).bind fun d9 => k_X9_go_39 sh q0 x1 d9)) else (k_X9_go_26 sh d)))
set_option maxHeartbeats 4000000 in
set_option maxRecDepth 100000 in
theorem mt_X9_go (l : Launch) (D : va_G) (cid : FieldType → ClassId) (b : Nat) (ex : Bool) (sa sv B0 : Nat) (sh : List xSh) (q0 : Nat) (x1 : Int32) (d : xD) (r : Int32) (dz : xD) (hf : f_X9_go sh q0 x1 d = some (r, dz)) : xMet l yX9_go cX9_go 2 (some .int) 7 0 0 D cid b ex sa sv B0 [.ref (b + q0), .int x1] sh d (some (.int r)) sh dz := by
  refine xMet.of (by decide) (Nat.le_of_ble_eq_true rfl) ?_
  intro p e s m below meth c ls A S hr hin G hl
  have hl : lv_has ls 2 [(0, .ref (b + q0)), (1, .int x1)] := hl
  generalize ([.ref (b + q0), .int x1] : List Value).toArray = av at S ⊢
  have hx := S.1
  have hb := S.2.1
  have hml := S.2.2.1
  have hown := S.2.2.2.1
  have hts := S.2.2.2.2.1
  have K26 : ∀ (d : xD), k_X9_go_26 sh d = some (r, dz) → ∀ (H : Heap) (locs : List Loc) (ls : Array Slot), lv_has ls 2 [] → xG D cid b A sh d s H locs → W p l e (xRm 7 0 0) s m av below meth c H locs 0 0 (MQ below (xQ D cid b ex A (some (.int r)) sh dz) av s 0 0 A) (F0 m 26 ls []) := by
    intro d hf H locs ls hl G
    unfold k_X9_go_26 at hf
    refine lv_iconst (v := (-1 : Int32)) hx hb dX9_go_26 (by decide) ?_
    cases hf
    exact xr_iret S G (fun _ => rfl) hr dX9_go_27
  have K39 : ∀ (q0 : Nat) (x1 : Int32) (d : xD), k_X9_go_39 sh q0 x1 d = some (r, dz) → ∀ (H : Heap) (locs : List Loc) (ls : Array Slot), lv_has ls 2 [(0, .ref (b + q0)), (1, .int x1)] → xG D cid b A sh d s H locs → W p l e (xRm 7 0 0) s m av below meth c H locs 0 0 (MQ below (xQ D cid b ex A (some (.int r)) sh dz) av s 0 0 A) (F0 m 39 ls []) := by
    intro q0 x1 d hf H locs ls hl G
    unfold k_X9_go_39 at hf
    refine lv_aload_n hx hb dX9_go_39 rfl (lv_at hl 0 rfl) ?_
    obtain ⟨v1, hv1, hf⟩ := x_ob hf
    refine xr_getR (ci := 9) (k := 12) S G hv1 rfl kw_493 dX9_go_40 ?_
    refine lv_aload_n hx hb dX9_go_43 rfl (lv_at hl 0 rfl) ?_
    obtain ⟨v2, hv2, hf⟩ := x_ob hf
    refine xr_getR (ci := 9) (k := 8) S G hv2 rfl kw_489 dX9_go_44 ?_
    refine lv_iload_n hx hb dX9_go_47 rfl (lv_at hl 1 rfl) ?_
    refine lv_iconst (v := (2 : Int32)) hx hb dX9_go_48 (by decide) ?_
    obtain ⟨z3, hz3, hf⟩ := x_ob hf
    obtain ⟨hqz3, hz3⟩ := xon_of hz3
    refine xr_callV (ci := 2) (As := [.ref (b + v2), .int x1, .int (2 : Int32)]) (rest := []) (st1 := [.int z3.1]) S G hl.1 (fun _ => rfl) (mt_X2_talkMore l D cid b ex sa sv B0 sh v1 v2 x1 (2 : Int32) d _ _ hz3) hqz3 (by decide) kw_831 kw_832 kw_833 kw_13 kw_834 hd_X2_talkMore ⟨Nat.le_of_ble_eq_true rfl, Nat.le_of_ble_eq_true rfl⟩ rfl rfl rfl (Nat.le_of_ble_eq_true rfl) ⟨Nat.le_of_ble_eq_true rfl, Nat.le_of_ble_eq_true rfl⟩ dX9_go_49 (fun H locs G => ?_)
    refine lv_pop hx hb dX9_go_52 rfl ?_
    refine lv_aload_n hx hb dX9_go_53 rfl (lv_at hl 0 rfl) ?_
    obtain ⟨v4, hv4, hf⟩ := x_ob hf
    refine xr_getR (ci := 9) (k := 8) S G hv4 rfl kw_489 dX9_go_54 ?_
    obtain ⟨v5, hv5, hf⟩ := x_ob hf
    refine xr_getI (ci := 4) (k := 0) S G hv5 rfl kw_315 dX9_go_57 ?_
    cases hf
    exact xr_iret S G (fun _ => rfl) hr dX9_go_60
  unfold f_X9_go at hf
  refine lv_iload_n hx hb dX9_go_0 rfl (lv_at hl 1 rfl) ?_
  refine lv_if_lt (tgt := 26) hx hb dX9_go_1 (by decide) (fun c => ?_) (fun c => ?_)
  · have hf := x_pos c hf
    exact K26 d hf _ _ ls (lv_sub hl [] rfl) G
  · have hf := x_neg c hf
    refine lv_iload_n hx hb dX9_go_4 rfl (lv_at hl 1 rfl) ?_
    refine lv_sipush (v := (200 : Int32)) hx hb dX9_go_5 (by decide) ?_
    refine lv_icmp_gt (tgt := 26) hx hb dX9_go_8 (by decide) (fun c => ?_) (fun c => ?_)
    · have hf := x_pos c hf
      exact K26 d hf _ _ ls (lv_sub hl [] rfl) G
    · have hf := x_neg c hf
      refine lv_aload_n hx hb dX9_go_11 rfl (lv_at hl 0 rfl) ?_
      obtain ⟨v6, hv6, hf⟩ := x_ob hf
      refine xr_getR (ci := 9) (k := 8) S G hv6 rfl kw_489 dX9_go_12 ?_
      obtain ⟨v7, hv7, hf⟩ := x_ob hf
      refine xr_getI (ci := 4) (k := 0) S G hv7 rfl kw_315 dX9_go_15 ?_
      refine lv_iload_n hx hb dX9_go_18 rfl (lv_at hl 1 rfl) ?_
      refine lv_iadd hx hb dX9_go_19 ?_
      refine lv_sipush (v := (9800 : Int32)) hx hb dX9_go_20 (by decide) ?_
      refine lv_icmp_le (tgt := 28) hx hb dX9_go_23 (by decide) (fun c => ?_) (fun c => ?_)
      · have hf := x_pos c hf
        refine lv_iload_n hx hb dX9_go_28 rfl (lv_at hl 1 rfl) ?_
        refine lv_if_le (tgt := 39) hx hb dX9_go_29 (by decide) (fun c => ?_) (fun c => ?_)
        · have hf := x_pos c hf
          exact K39 q0 x1 d hf _ _ ls (lv_sub hl [0, 1] rfl) G
        · have hf := x_neg c hf
          refine lv_aload_n hx hb dX9_go_32 rfl (lv_at hl 0 rfl) ?_
          obtain ⟨v8, hv8, hf⟩ := x_ob hf
          refine xr_getR (ci := 9) (k := 13) S G hv8 rfl kw_494 dX9_go_33 ?_
          obtain ⟨d9, hd9, hf⟩ := x_ob hf
          obtain ⟨hqd9, hd9⟩ := xon_of hd9
          refine xr_callV (ci := 8) (As := []) (rest := []) (st1 := []) S G hl.1 (fun _ => rfl) (mt_X8_clear l D cid b ex sa sv B0 sh v8 d _ hd9) hqd9 (by decide) kw_710 kw_711 kw_712 kw_14 kw_713 hd_X8_clear ⟨Nat.le_of_ble_eq_true rfl, Nat.le_of_ble_eq_true rfl⟩ rfl rfl rfl (Nat.le_of_ble_eq_true rfl) ⟨Nat.le_of_ble_eq_true rfl, Nat.le_of_ble_eq_true rfl⟩ dX9_go_36 (fun H locs G => ?_)
          exact K39 q0 x1 d9 hf _ _ ls (lv_sub hl [0, 1] rfl) G
      · have hf := x_neg c hf
        exact K26 d hf _ _ ls (lv_sub hl [] rfl) G
-- HalfLandings.ahead(III)I
theorem dX9_ahead_0 : decode cX9_ahead 0 = .ok (.iload_n 1, 1) := by decide +kernel
theorem dX9_ahead_1 : decode cX9_ahead 1 = .ok (.ifCond .lt 19, 3) := by decide +kernel
theorem dX9_ahead_4 : decode cX9_ahead 4 = .ok (.iload_n 1, 1) := by decide +kernel
theorem dX9_ahead_5 : decode cX9_ahead 5 = .ok (.sipush 200, 3) := by decide +kernel
theorem dX9_ahead_8 : decode cX9_ahead 8 = .ok (.if_icmp .gt 12, 3) := by decide +kernel
theorem dX9_ahead_11 : decode cX9_ahead 11 = .ok (.iload_n 2, 1) := by decide +kernel
theorem dX9_ahead_12 : decode cX9_ahead 12 = .ok (.ifCond .lt 8, 3) := by decide +kernel
theorem dX9_ahead_15 : decode cX9_ahead 15 = .ok (.iload_n 2, 1) := by decide +kernel
theorem dX9_ahead_16 : decode cX9_ahead 16 = .ok (.iconst 3, 1) := by decide +kernel
theorem dX9_ahead_17 : decode cX9_ahead 17 = .ok (.if_icmp .le 5, 3) := by decide +kernel
theorem dX9_ahead_20 : decode cX9_ahead 20 = .ok (.iconst (-1), 1) := by decide +kernel
theorem dX9_ahead_21 : decode cX9_ahead 21 = .ok (.ireturn, 1) := by decide +kernel
theorem dX9_ahead_22 : decode cX9_ahead 22 = .ok (.iload_n 2, 1) := by decide +kernel
theorem dX9_ahead_23 : decode cX9_ahead 23 = .ok (.iconst 1, 1) := by decide +kernel
theorem dX9_ahead_24 : decode cX9_ahead 24 = .ok (.if_icmp .ne 14, 3) := by decide +kernel
theorem dX9_ahead_27 : decode cX9_ahead 27 = .ok (.aload_n 0, 1) := by decide +kernel
theorem dX9_ahead_28 : decode cX9_ahead 28 = .ok (.getfield 28, 3) := by decide +kernel
theorem dX9_ahead_31 : decode cX9_ahead 31 = .ok (.iload_n 3, 1) := by decide +kernel
theorem dX9_ahead_32 : decode cX9_ahead 32 = .ok (.invokevirtual 159, 3) := by decide +kernel
theorem dX9_ahead_35 : decode cX9_ahead 35 = .ok (.ifCond .eq 19, 3) := by decide +kernel
theorem dX9_ahead_38 : decode cX9_ahead 38 = .ok (.iload_n 2, 1) := by decide +kernel
theorem dX9_ahead_39 : decode cX9_ahead 39 = .ok (.iconst 2, 1) := by decide +kernel
theorem dX9_ahead_40 : decode cX9_ahead 40 = .ok (.if_icmp .ne 16, 3) := by decide +kernel
theorem dX9_ahead_43 : decode cX9_ahead 43 = .ok (.aload_n 0, 1) := by decide +kernel
theorem dX9_ahead_44 : decode cX9_ahead 44 = .ok (.getfield 28, 3) := by decide +kernel
theorem dX9_ahead_47 : decode cX9_ahead 47 = .ok (.iload_n 3, 1) := by decide +kernel
theorem dX9_ahead_48 : decode cX9_ahead 48 = .ok (.invokevirtual 121, 3) := by decide +kernel
theorem dX9_ahead_51 : decode cX9_ahead 51 = .ok (.ifCond .ne 5, 3) := by decide +kernel
theorem dX9_ahead_54 : decode cX9_ahead 54 = .ok (.iconst (-1), 1) := by decide +kernel
theorem dX9_ahead_55 : decode cX9_ahead 55 = .ok (.ireturn, 1) := by decide +kernel
theorem dX9_ahead_56 : decode cX9_ahead 56 = .ok (.aload_n 0, 1) := by decide +kernel
theorem dX9_ahead_57 : decode cX9_ahead 57 = .ok (.getfield 63, 3) := by decide +kernel
theorem dX9_ahead_60 : decode cX9_ahead 60 = .ok (.aload_n 0, 1) := by decide +kernel
theorem dX9_ahead_61 : decode cX9_ahead 61 = .ok (.getfield 56, 3) := by decide +kernel
theorem dX9_ahead_64 : decode cX9_ahead 64 = .ok (.invokevirtual 233, 3) := by decide +kernel
theorem dX9_ahead_67 : decode cX9_ahead 67 = .ok (.aload_n 0, 1) := by decide +kernel
theorem dX9_ahead_68 : decode cX9_ahead 68 = .ok (.getfield 75, 3) := by decide +kernel
theorem dX9_ahead_71 : decode cX9_ahead 71 = .ok (.aload_n 0, 1) := by decide +kernel
theorem dX9_ahead_72 : decode cX9_ahead 72 = .ok (.getfield 63, 3) := by decide +kernel
theorem dX9_ahead_75 : decode cX9_ahead 75 = .ok (.iload_n 1, 1) := by decide +kernel
theorem dX9_ahead_76 : decode cX9_ahead 76 = .ok (.iconst 0, 1) := by decide +kernel
theorem dX9_ahead_77 : decode cX9_ahead 77 = .ok (.invokevirtual 229, 3) := by decide +kernel
theorem dX9_ahead_80 : decode cX9_ahead 80 = .ok (.istore 4, 2) := by decide +kernel
theorem dX9_ahead_82 : decode cX9_ahead 82 = .ok (.iload_n 2, 1) := by decide +kernel
theorem dX9_ahead_83 : decode cX9_ahead 83 = .ok (.tableswitch 48 0 2 #[25, 28, 38], 25) := by decide +kernel
theorem dX9_ahead_108 : decode cX9_ahead 108 = .ok (.iload 4, 2) := by decide +kernel
theorem dX9_ahead_110 : decode cX9_ahead 110 = .ok (.ireturn, 1) := by decide +kernel
theorem dX9_ahead_111 : decode cX9_ahead 111 = .ok (.aload_n 0, 1) := by decide +kernel
theorem dX9_ahead_112 : decode cX9_ahead 112 = .ok (.getfield 63, 3) := by decide +kernel
theorem dX9_ahead_115 : decode cX9_ahead 115 = .ok (.getfield 168, 3) := by decide +kernel
theorem dX9_ahead_118 : decode cX9_ahead 118 = .ok (.iload_n 3, 1) := by decide +kernel
theorem dX9_ahead_119 : decode cX9_ahead 119 = .ok (.iaload, 1) := by decide +kernel
theorem dX9_ahead_120 : decode cX9_ahead 120 = .ok (.ireturn, 1) := by decide +kernel
theorem dX9_ahead_121 : decode cX9_ahead 121 = .ok (.aload_n 0, 1) := by decide +kernel
theorem dX9_ahead_122 : decode cX9_ahead 122 = .ok (.getfield 63, 3) := by decide +kernel
theorem dX9_ahead_125 : decode cX9_ahead 125 = .ok (.getfield 136, 3) := by decide +kernel
theorem dX9_ahead_128 : decode cX9_ahead 128 = .ok (.iload_n 3, 1) := by decide +kernel
theorem dX9_ahead_129 : decode cX9_ahead 129 = .ok (.iaload, 1) := by decide +kernel
theorem dX9_ahead_130 : decode cX9_ahead 130 = .ok (.ireturn, 1) := by decide +kernel
theorem dX9_ahead_131 : decode cX9_ahead 131 = .ok (.aload_n 0, 1) := by decide +kernel
theorem dX9_ahead_132 : decode cX9_ahead 132 = .ok (.getfield 63, 3) := by decide +kernel
theorem dX9_ahead_135 : decode cX9_ahead 135 = .ok (.iconst 3, 1) := by decide +kernel
theorem dX9_ahead_136 : decode cX9_ahead 136 = .ok (.invokevirtual 237, 3) := by decide +kernel
theorem dX9_ahead_139 : decode cX9_ahead 139 = .ok (.ireturn, 1) := by decide +kernel
theorem hd_X9_ahead : yX9_ahead.cls = xCn 9 ∧ yX9_ahead.cls ≠ "java/lang/invoke/MethodHandle" ∧ yX9_ahead.cls ≠ "java/lang/invoke/VarHandle" ∧ (parseMethodDescriptor yX9_ahead.desc).map (fun d => d.parameters.length) = some 3 := by decide +kernel
def k_X9_ahead_20 (sh : List xSh) (d : xD) : Option (Int32 × xD) :=
  some ((-1 : Int32), d)
def k_X9_ahead_56 (sh : List xSh) (q0 : Nat) (x1 : Int32) (x2 : Int32) (x3 : Int32) (d : xD) : Option (Int32 × xD) :=
  (xgR 9 sh d q0 10).bind fun v1 => (xgR 9 sh d q0 8).bind fun v2 => (xon 4 sh v1 (f_X4_become sh v1 v2 d)).bind fun d3 => (xgR 9 sh d3 q0 12).bind fun v4 => (xgR 9 sh d3 q0 10).bind fun v5 => (xon 2 sh v4 (f_X2_talkMore sh v4 v5 x1 (0 : Int32) d3)).bind fun z6 => if x2 = (0 : Int32) then (some (z6.1, z6.2)) else (if x2 = (1 : Int32) then ((xgR 9 sh z6.2 q0 10).bind fun v9 => (xgR 4 sh z6.2 v9 13).bind fun v10 => (xaI .int sh z6.2 v10 x3).bind fun v11 => some (v11, z6.2)) else (if x2 = (2 : Int32) then ((xgR 9 sh z6.2 q0 10).bind fun v13 => (xgR 4 sh z6.2 v13 6).bind fun v14 => (xaI .int sh z6.2 v14 x3).bind fun v15 => some (v15, z6.2)) else ((xgR 9 sh z6.2 q0 10).bind fun v16 => (xon 4 sh v16 (f_X4_howMany sh v16 (3 : Int32) z6.2)).bind fun z17 => some (z17.1, z17.2))))
def k_X9_ahead_54 (sh : List xSh) (d : xD) : Option (Int32 × xD) :=
  some ((-1 : Int32), d)
def k_X9_ahead_38 (sh : List xSh) (q0 : Nat) (x1 : Int32) (x2 : Int32) (x3 : Int32) (d : xD) : Option (Int32 × xD) :=
  if x2 = (2 : Int32) then ((xgR 9 sh d q0 4).bind fun v18 => (xon 3 sh v18 (f_X3_hasWalker sh v18 x3 d)).bind fun z19 => if z19.1 = 0 then (k_X9_ahead_54 sh z19.2) else (k_X9_ahead_56 sh q0 x1 x2 x3 z19.2)) else (k_X9_ahead_56 sh q0 x1 x2 x3 d)
def f_X9_ahead (sh : List xSh) (q0 : Nat) (x1 : Int32) (x2 : Int32) (x3 : Int32) (d : xD) : Option (Int32 × xD) :=
  if x1 < 0 then (k_X9_ahead_20 sh d) else (if (200 : Int32) < x1 then (k_X9_ahead_20 sh d) else (if x2 < 0 then (k_X9_ahead_20 sh d) else (if x2 ≤ (3 : Int32) then (if x2 = (1 : Int32) then ((xgR 9 sh d q0 4).bind fun v20 => (xon 3 sh v20 (f_X3_hasBench sh v20 x3 d)).bind fun z21 => if z21.1 = 0 then (k_X9_ahead_54 sh z21.2) else (k_X9_ahead_38 sh q0 x1 x2 x3 z21.2)) else (k_X9_ahead_38 sh q0 x1 x2 x3 d)) else (k_X9_ahead_20 sh d))))
set_option maxHeartbeats 4000000 in
set_option maxRecDepth 100000 in
theorem mt_X9_ahead (l : Launch) (D : va_G) (cid : FieldType → ClassId) (b : Nat) (ex : Bool) (sa sv B0 : Nat) (sh : List xSh) (q0 : Nat) (x1 : Int32) (x2 : Int32) (x3 : Int32) (d : xD) (r : Int32) (dz : xD) (hf : f_X9_ahead sh q0 x1 x2 x3 d = some (r, dz)) : xMet l yX9_ahead cX9_ahead 5 (some .int) 7 0 0 D cid b ex sa sv B0 [.ref (b + q0), .int x1, .int x2, .int x3] sh d (some (.int r)) sh dz := by
  refine xMet.of (by decide) (Nat.le_of_ble_eq_true rfl) ?_
  intro p e s m below meth c ls A S hr hin G hl
  have hl : lv_has ls 5 [(0, .ref (b + q0)), (1, .int x1), (2, .int x2), (3, .int x3)] := hl
  generalize ([.ref (b + q0), .int x1, .int x2, .int x3] : List Value).toArray = av at S ⊢
  have hx := S.1
  have hb := S.2.1
  have hml := S.2.2.1
  have hown := S.2.2.2.1
  have hts := S.2.2.2.2.1
  have K20 : ∀ (d : xD), k_X9_ahead_20 sh d = some (r, dz) → ∀ (H : Heap) (locs : List Loc) (ls : Array Slot), lv_has ls 5 [] → xG D cid b A sh d s H locs → W p l e (xRm 7 0 0) s m av below meth c H locs 0 0 (MQ below (xQ D cid b ex A (some (.int r)) sh dz) av s 0 0 A) (F0 m 20 ls []) := by
    intro d hf H locs ls hl G
    unfold k_X9_ahead_20 at hf
    refine lv_iconst (v := (-1 : Int32)) hx hb dX9_ahead_20 (by decide) ?_
    cases hf
    exact xr_iret S G (fun _ => rfl) hr dX9_ahead_21
  have K56 : ∀ (q0 : Nat) (x1 : Int32) (x2 : Int32) (x3 : Int32) (d : xD), k_X9_ahead_56 sh q0 x1 x2 x3 d = some (r, dz) → ∀ (H : Heap) (locs : List Loc) (ls : Array Slot), lv_has ls 5 [(0, .ref (b + q0)), (1, .int x1), (2, .int x2), (3, .int x3)] → xG D cid b A sh d s H locs → W p l e (xRm 7 0 0) s m av below meth c H locs 0 0 (MQ below (xQ D cid b ex A (some (.int r)) sh dz) av s 0 0 A) (F0 m 56 ls []) := by
    intro q0 x1 x2 x3 d hf H locs ls hl G
    unfold k_X9_ahead_56 at hf
    refine lv_aload_n hx hb dX9_ahead_56 rfl (lv_at hl 0 rfl) ?_
    obtain ⟨v1, hv1, hf⟩ := x_ob hf
    refine xr_getR (ci := 9) (k := 10) S G hv1 rfl kw_491 dX9_ahead_57 ?_
    refine lv_aload_n hx hb dX9_ahead_60 rfl (lv_at hl 0 rfl) ?_
    obtain ⟨v2, hv2, hf⟩ := x_ob hf
    refine xr_getR (ci := 9) (k := 8) S G hv2 rfl kw_489 dX9_ahead_61 ?_
    obtain ⟨d3, hd3, hf⟩ := x_ob hf
    obtain ⟨hqd3, hd3⟩ := xon_of hd3
    refine xr_callV (ci := 4) (As := [.ref (b + v2)]) (rest := []) (st1 := []) S G hl.1 (fun _ => rfl) (mt_X4_become l D cid b ex sa sv B0 sh v1 v2 d _ hd3) hqd3 (by decide) kw_901 kw_902 kw_903 kw_12 kw_904 hd_X4_become ⟨Nat.le_of_ble_eq_true rfl, Nat.le_of_ble_eq_true rfl⟩ rfl rfl rfl (Nat.le_of_ble_eq_true rfl) ⟨Nat.le_of_ble_eq_true rfl, Nat.le_of_ble_eq_true rfl⟩ dX9_ahead_64 (fun H locs G => ?_)
    refine lv_aload_n hx hb dX9_ahead_67 rfl (lv_at hl 0 rfl) ?_
    obtain ⟨v4, hv4, hf⟩ := x_ob hf
    refine xr_getR (ci := 9) (k := 12) S G hv4 rfl kw_493 dX9_ahead_68 ?_
    refine lv_aload_n hx hb dX9_ahead_71 rfl (lv_at hl 0 rfl) ?_
    obtain ⟨v5, hv5, hf⟩ := x_ob hf
    refine xr_getR (ci := 9) (k := 10) S G hv5 rfl kw_491 dX9_ahead_72 ?_
    refine lv_iload_n hx hb dX9_ahead_75 rfl (lv_at hl 1 rfl) ?_
    refine lv_iconst (v := (0 : Int32)) hx hb dX9_ahead_76 (by decide) ?_
    obtain ⟨z6, hz6, hf⟩ := x_ob hf
    obtain ⟨hqz6, hz6⟩ := xon_of hz6
    refine xr_callV (ci := 2) (As := [.ref (b + v5), .int x1, .int (0 : Int32)]) (rest := []) (st1 := [.int z6.1]) S G hl.1 (fun _ => rfl) (mt_X2_talkMore l D cid b ex sa sv B0 sh v4 v5 x1 (0 : Int32) d3 _ _ hz6) hqz6 (by decide) kw_831 kw_832 kw_833 kw_13 kw_834 hd_X2_talkMore ⟨Nat.le_of_ble_eq_true rfl, Nat.le_of_ble_eq_true rfl⟩ rfl rfl rfl (Nat.le_of_ble_eq_true rfl) ⟨Nat.le_of_ble_eq_true rfl, Nat.le_of_ble_eq_true rfl⟩ dX9_ahead_77 (fun H locs G => ?_)
    refine lv_istore (lv' := [(4, .int z6.1), (0, .ref (b + q0)), (1, .int x1), (2, .int x2), (3, .int x3)]) hx hb dX9_ahead_80 hl (by decide) rfl (fun ls hl => ?_)
    refine lv_iload_n hx hb dX9_ahead_82 rfl (lv_at hl 3 rfl) ?_
    by_cases c7 : x2 = (0 : Int32)
    · have hf := x_pos c7 hf
      refine xr_tab (k := (0 : Int32)) (tgt := 108) hx hb c7 dX9_ahead_83 (by decide) (by decide) rfl (by decide) ?_
      refine lv_iload hx hb dX9_ahead_108 (lv_at hl 0 rfl) ?_
      cases hf
      exact xr_iret S G (fun _ => rfl) hr dX9_ahead_110
    · have hf := x_neg c7 hf
      by_cases c8 : x2 = (1 : Int32)
      · have hf := x_pos c8 hf
        refine xr_tab (k := (1 : Int32)) (tgt := 111) hx hb c8 dX9_ahead_83 (by decide) (by decide) rfl (by decide) ?_
        refine lv_aload_n hx hb dX9_ahead_111 rfl (lv_at hl 1 rfl) ?_
        obtain ⟨v9, hv9, hf⟩ := x_ob hf
        refine xr_getR (ci := 9) (k := 10) S G hv9 rfl kw_491 dX9_ahead_112 ?_
        obtain ⟨v10, hv10, hf⟩ := x_ob hf
        refine xr_getR (ci := 4) (k := 13) S G hv10 rfl kw_352 dX9_ahead_115 ?_
        refine lv_iload_n hx hb dX9_ahead_118 rfl (lv_at hl 4 rfl) ?_
        obtain ⟨v11, hv11, hf⟩ := x_ob hf
        refine xr_iald S G hv11 dX9_ahead_119 ?_
        cases hf
        exact xr_iret S G (fun _ => rfl) hr dX9_ahead_120
      · have hf := x_neg c8 hf
        by_cases c12 : x2 = (2 : Int32)
        · have hf := x_pos c12 hf
          refine xr_tab (k := (2 : Int32)) (tgt := 121) hx hb c12 dX9_ahead_83 (by decide) (by decide) rfl (by decide) ?_
          refine lv_aload_n hx hb dX9_ahead_121 rfl (lv_at hl 1 rfl) ?_
          obtain ⟨v13, hv13, hf⟩ := x_ob hf
          refine xr_getR (ci := 9) (k := 10) S G hv13 rfl kw_491 dX9_ahead_122 ?_
          obtain ⟨v14, hv14, hf⟩ := x_ob hf
          refine xr_getR (ci := 4) (k := 6) S G hv14 rfl kw_332 dX9_ahead_125 ?_
          refine lv_iload_n hx hb dX9_ahead_128 rfl (lv_at hl 4 rfl) ?_
          obtain ⟨v15, hv15, hf⟩ := x_ob hf
          refine xr_iald S G hv15 dX9_ahead_129 ?_
          cases hf
          exact xr_iret S G (fun _ => rfl) hr dX9_ahead_130
        · have hf := x_neg c12 hf
          have hks : ∀ z ∈ ([0, 1, 2] : List Int), (x2).toInt ≠ z := by
            intro z hz
            simp only [List.mem_cons, List.not_mem_nil, or_false] at hz
            rcases hz with rfl | rfl | rfl
            · exact x_toInt_ne 0 c7 (by decide)
            · exact x_toInt_ne 1 c8 (by decide)
            · exact x_toInt_ne 2 c12 (by decide)
          refine xr_tabD (tgt := 131) [0, 1, 2] hx hb dX9_ahead_83 hks (by decide) (by decide) (by decide) ?_
          refine lv_aload_n hx hb dX9_ahead_131 rfl (lv_at hl 1 rfl) ?_
          obtain ⟨v16, hv16, hf⟩ := x_ob hf
          refine xr_getR (ci := 9) (k := 10) S G hv16 rfl kw_491 dX9_ahead_132 ?_
          refine lv_iconst (v := (3 : Int32)) hx hb dX9_ahead_135 (by decide) ?_
          obtain ⟨z17, hz17, hf⟩ := x_ob hf
          obtain ⟨hqz17, hz17⟩ := xon_of hz17
          refine xr_callV (ci := 4) (As := [.int (3 : Int32)]) (rest := []) (st1 := [.int z17.1]) S G hl.1 (fun _ => rfl) (mt_X4_howMany l D cid b ex sa sv B0 sh v16 (3 : Int32) z6.2 _ _ hz17) hqz17 (by decide) kw_905 kw_856 kw_857 kw_12 kw_858 hd_X4_howMany ⟨Nat.le_of_ble_eq_true rfl, Nat.le_of_ble_eq_true rfl⟩ rfl rfl rfl (Nat.le_of_ble_eq_true rfl) ⟨Nat.le_of_ble_eq_true rfl, Nat.le_of_ble_eq_true rfl⟩ dX9_ahead_136 (fun H locs G => ?_)
          cases hf
          exact xr_iret S G (fun _ => rfl) hr dX9_ahead_139
  have K54 : ∀ (d : xD), k_X9_ahead_54 sh d = some (r, dz) → ∀ (H : Heap) (locs : List Loc) (ls : Array Slot), lv_has ls 5 [] → xG D cid b A sh d s H locs → W p l e (xRm 7 0 0) s m av below meth c H locs 0 0 (MQ below (xQ D cid b ex A (some (.int r)) sh dz) av s 0 0 A) (F0 m 54 ls []) := by
    intro d hf H locs ls hl G
    unfold k_X9_ahead_54 at hf
    refine lv_iconst (v := (-1 : Int32)) hx hb dX9_ahead_54 (by decide) ?_
    cases hf
    exact xr_iret S G (fun _ => rfl) hr dX9_ahead_55
  have K38 : ∀ (q0 : Nat) (x1 : Int32) (x2 : Int32) (x3 : Int32) (d : xD), k_X9_ahead_38 sh q0 x1 x2 x3 d = some (r, dz) → ∀ (H : Heap) (locs : List Loc) (ls : Array Slot), lv_has ls 5 [(0, .ref (b + q0)), (1, .int x1), (2, .int x2), (3, .int x3)] → xG D cid b A sh d s H locs → W p l e (xRm 7 0 0) s m av below meth c H locs 0 0 (MQ below (xQ D cid b ex A (some (.int r)) sh dz) av s 0 0 A) (F0 m 38 ls []) := by
    intro q0 x1 x2 x3 d hf H locs ls hl G
    unfold k_X9_ahead_38 at hf
    refine lv_iload_n hx hb dX9_ahead_38 rfl (lv_at hl 2 rfl) ?_
    refine lv_iconst (v := (2 : Int32)) hx hb dX9_ahead_39 (by decide) ?_
    refine lv_icmp_ne (tgt := 56) hx hb dX9_ahead_40 (by decide) (fun c => ?_) (fun c => ?_)
    · have hf := x_neg c hf
      exact K56 q0 x1 x2 x3 d hf _ _ ls (lv_sub hl [0, 1, 2, 3] rfl) G
    · have hf := x_pos c hf
      refine lv_aload_n hx hb dX9_ahead_43 rfl (lv_at hl 0 rfl) ?_
      obtain ⟨v18, hv18, hf⟩ := x_ob hf
      refine xr_getR (ci := 9) (k := 4) S G hv18 rfl kw_485 dX9_ahead_44 ?_
      refine lv_iload_n hx hb dX9_ahead_47 rfl (lv_at hl 3 rfl) ?_
      obtain ⟨z19, hz19, hf⟩ := x_ob hf
      obtain ⟨hqz19, hz19⟩ := xon_of hz19
      refine xr_callV (ci := 3) (As := [.int x3]) (rest := []) (st1 := [.int z19.1]) S G hl.1 (fun _ => rfl) (mt_X3_hasWalker l D cid b ex sa sv B0 sh v18 x3 d _ _ hz19) hqz19 (by decide) kw_758 kw_759 kw_760 kw_2 kw_761 hd_X3_hasWalker ⟨Nat.le_of_ble_eq_true rfl, Nat.le_of_ble_eq_true rfl⟩ rfl rfl rfl (Nat.le_of_ble_eq_true rfl) ⟨Nat.le_of_ble_eq_true rfl, Nat.le_of_ble_eq_true rfl⟩ dX9_ahead_48 (fun H locs G => ?_)
      refine lv_if_ne (tgt := 56) hx hb dX9_ahead_51 (by decide) (fun c => ?_) (fun c => ?_)
      · have hf := x_neg c hf
        exact K56 q0 x1 x2 x3 z19.2 hf _ _ ls (lv_sub hl [0, 1, 2, 3] rfl) G
      · have hf := x_pos c hf
        exact K54 z19.2 hf _ _ ls (lv_sub hl [] rfl) G
  unfold f_X9_ahead at hf
  refine lv_iload_n hx hb dX9_ahead_0 rfl (lv_at hl 1 rfl) ?_
  refine lv_if_lt (tgt := 20) hx hb dX9_ahead_1 (by decide) (fun c => ?_) (fun c => ?_)
  · have hf := x_pos c hf
    exact K20 d hf _ _ ls (lv_sub hl [] rfl) G
  · have hf := x_neg c hf
    refine lv_iload_n hx hb dX9_ahead_4 rfl (lv_at hl 1 rfl) ?_
    refine lv_sipush (v := (200 : Int32)) hx hb dX9_ahead_5 (by decide) ?_
    refine lv_icmp_gt (tgt := 20) hx hb dX9_ahead_8 (by decide) (fun c => ?_) (fun c => ?_)
    · have hf := x_pos c hf
      exact K20 d hf _ _ ls (lv_sub hl [] rfl) G
    · have hf := x_neg c hf
      refine lv_iload_n hx hb dX9_ahead_11 rfl (lv_at hl 2 rfl) ?_
      refine lv_if_lt (tgt := 20) hx hb dX9_ahead_12 (by decide) (fun c => ?_) (fun c => ?_)
      · have hf := x_pos c hf
        exact K20 d hf _ _ ls (lv_sub hl [] rfl) G
      · have hf := x_neg c hf
        refine lv_iload_n hx hb dX9_ahead_15 rfl (lv_at hl 2 rfl) ?_
        refine lv_iconst (v := (3 : Int32)) hx hb dX9_ahead_16 (by decide) ?_
        refine lv_icmp_le (tgt := 22) hx hb dX9_ahead_17 (by decide) (fun c => ?_) (fun c => ?_)
        · have hf := x_pos c hf
          refine lv_iload_n hx hb dX9_ahead_22 rfl (lv_at hl 2 rfl) ?_
          refine lv_iconst (v := (1 : Int32)) hx hb dX9_ahead_23 (by decide) ?_
          refine lv_icmp_ne (tgt := 38) hx hb dX9_ahead_24 (by decide) (fun c => ?_) (fun c => ?_)
          · have hf := x_neg c hf
            exact K38 q0 x1 x2 x3 d hf _ _ ls (lv_sub hl [0, 1, 2, 3] rfl) G
          · have hf := x_pos c hf
            refine lv_aload_n hx hb dX9_ahead_27 rfl (lv_at hl 0 rfl) ?_
            obtain ⟨v20, hv20, hf⟩ := x_ob hf
            refine xr_getR (ci := 9) (k := 4) S G hv20 rfl kw_485 dX9_ahead_28 ?_
            refine lv_iload_n hx hb dX9_ahead_31 rfl (lv_at hl 3 rfl) ?_
            obtain ⟨z21, hz21, hf⟩ := x_ob hf
            obtain ⟨hqz21, hz21⟩ := xon_of hz21
            refine xr_callV (ci := 3) (As := [.int x3]) (rest := []) (st1 := [.int z21.1]) S G hl.1 (fun _ => rfl) (mt_X3_hasBench l D cid b ex sa sv B0 sh v20 x3 d _ _ hz21) hqz21 (by decide) kw_732 kw_733 kw_734 kw_2 kw_735 hd_X3_hasBench ⟨Nat.le_of_ble_eq_true rfl, Nat.le_of_ble_eq_true rfl⟩ rfl rfl rfl (Nat.le_of_ble_eq_true rfl) ⟨Nat.le_of_ble_eq_true rfl, Nat.le_of_ble_eq_true rfl⟩ dX9_ahead_32 (fun H locs G => ?_)
            refine lv_if_eq (tgt := 54) hx hb dX9_ahead_35 (by decide) (fun c => ?_) (fun c => ?_)
            · have hf := x_pos c hf
              exact K54 z21.2 hf _ _ ls (lv_sub hl [] rfl) G
            · have hf := x_neg c hf
              exact K38 q0 x1 x2 x3 z21.2 hf _ _ ls (lv_sub hl [0, 1, 2, 3] rfl) G
        · have hf := x_neg c hf
          exact K20 d hf _ _ ls (lv_sub hl [] rfl) G
-- HalfLandings.areTwo(II)Z
theorem dX9_areTwo_0 : decode cX9_areTwo 0 = .ok (.aload_n 0, 1) := by decide +kernel
theorem dX9_areTwo_1 : decode cX9_areTwo 1 = .ok (.getfield 28, 3) := by decide +kernel
theorem dX9_areTwo_4 : decode cX9_areTwo 4 = .ok (.iload_n 1, 1) := by decide +kernel
theorem dX9_areTwo_5 : decode cX9_areTwo 5 = .ok (.invokevirtual 121, 3) := by decide +kernel
theorem dX9_areTwo_8 : decode cX9_areTwo 8 = .ok (.ifCond .eq 23, 3) := by decide +kernel
theorem dX9_areTwo_11 : decode cX9_areTwo 11 = .ok (.aload_n 0, 1) := by decide +kernel
theorem dX9_areTwo_12 : decode cX9_areTwo 12 = .ok (.getfield 28, 3) := by decide +kernel
theorem dX9_areTwo_15 : decode cX9_areTwo 15 = .ok (.iload_n 2, 1) := by decide +kernel
theorem dX9_areTwo_16 : decode cX9_areTwo 16 = .ok (.invokevirtual 121, 3) := by decide +kernel
theorem dX9_areTwo_19 : decode cX9_areTwo 19 = .ok (.ifCond .eq 12, 3) := by decide +kernel
theorem dX9_areTwo_22 : decode cX9_areTwo 22 = .ok (.iload_n 1, 1) := by decide +kernel
theorem dX9_areTwo_23 : decode cX9_areTwo 23 = .ok (.iload_n 2, 1) := by decide +kernel
theorem dX9_areTwo_24 : decode cX9_areTwo 24 = .ok (.if_icmp .eq 7, 3) := by decide +kernel
theorem dX9_areTwo_27 : decode cX9_areTwo 27 = .ok (.iconst 1, 1) := by decide +kernel
theorem dX9_areTwo_28 : decode cX9_areTwo 28 = .ok (.goto 4, 3) := by decide +kernel
theorem dX9_areTwo_31 : decode cX9_areTwo 31 = .ok (.iconst 0, 1) := by decide +kernel
theorem dX9_areTwo_32 : decode cX9_areTwo 32 = .ok (.ireturn, 1) := by decide +kernel
theorem hd_X9_areTwo : yX9_areTwo.cls = xCn 9 ∧ yX9_areTwo.cls ≠ "java/lang/invoke/MethodHandle" ∧ yX9_areTwo.cls ≠ "java/lang/invoke/VarHandle" ∧ (parseMethodDescriptor yX9_areTwo.desc).map (fun d => d.parameters.length) = some 2 := by decide +kernel
def k_X9_areTwo_32 (sh : List xSh) (y0 : Int32) (d : xD) : Option (Int32 × xD) :=
  (xz y0).bind fun v1 => some (v1, d)
def k_X9_areTwo_31 (sh : List xSh) (d : xD) : Option (Int32 × xD) :=
  k_X9_areTwo_32 sh (0 : Int32) d
def f_X9_areTwo (sh : List xSh) (q0 : Nat) (x1 : Int32) (x2 : Int32) (d : xD) : Option (Int32 × xD) :=
  (xgR 9 sh d q0 4).bind fun v2 => (xon 3 sh v2 (f_X3_hasWalker sh v2 x1 d)).bind fun z3 => if z3.1 = 0 then (k_X9_areTwo_31 sh z3.2) else ((xgR 9 sh z3.2 q0 4).bind fun v4 => (xon 3 sh v4 (f_X3_hasWalker sh v4 x2 z3.2)).bind fun z5 => if z5.1 = 0 then (k_X9_areTwo_31 sh z5.2) else (if x1 = x2 then (k_X9_areTwo_31 sh z5.2) else (k_X9_areTwo_32 sh (1 : Int32) z5.2)))
set_option maxHeartbeats 4000000 in
set_option maxRecDepth 100000 in
theorem mt_X9_areTwo (l : Launch) (D : va_G) (cid : FieldType → ClassId) (b : Nat) (ex : Bool) (sa sv B0 : Nat) (sh : List xSh) (q0 : Nat) (x1 : Int32) (x2 : Int32) (d : xD) (r : Int32) (dz : xD) (hf : f_X9_areTwo sh q0 x1 x2 d = some (r, dz)) : xMet l yX9_areTwo cX9_areTwo 3 (some .boolean) 1 0 0 D cid b ex sa sv B0 [.ref (b + q0), .int x1, .int x2] sh d (some (.int r)) sh dz := by
  refine xMet.of (by decide) (Nat.le_of_ble_eq_true rfl) ?_
  intro p e s m below meth c ls A S hr hin G hl
  have hl : lv_has ls 3 [(0, .ref (b + q0)), (1, .int x1), (2, .int x2)] := hl
  generalize ([.ref (b + q0), .int x1, .int x2] : List Value).toArray = av at S ⊢
  have hx := S.1
  have hb := S.2.1
  have hml := S.2.2.1
  have hown := S.2.2.2.1
  have hts := S.2.2.2.2.1
  have K32 : ∀ (y0 : Int32) (d : xD), k_X9_areTwo_32 sh y0 d = some (r, dz) → ∀ (H : Heap) (locs : List Loc) (ls : Array Slot), lv_has ls 3 [] → xG D cid b A sh d s H locs → W p l e (xRm 1 0 0) s m av below meth c H locs 0 0 (MQ below (xQ D cid b ex A (some (.int r)) sh dz) av s 0 0 A) (F0 m 32 ls [.int y0]) := by
    intro y0 d hf H locs ls hl G
    unfold k_X9_areTwo_32 at hf
    obtain ⟨v1, hv1, hf⟩ := x_ob hf
    cases hf
    exact xr_zret S G (fun _ => rfl) hr hv1 dX9_areTwo_32
  have K31 : ∀ (d : xD), k_X9_areTwo_31 sh d = some (r, dz) → ∀ (H : Heap) (locs : List Loc) (ls : Array Slot), lv_has ls 3 [] → xG D cid b A sh d s H locs → W p l e (xRm 1 0 0) s m av below meth c H locs 0 0 (MQ below (xQ D cid b ex A (some (.int r)) sh dz) av s 0 0 A) (F0 m 31 ls []) := by
    intro d hf H locs ls hl G
    unfold k_X9_areTwo_31 at hf
    refine lv_iconst (v := (0 : Int32)) hx hb dX9_areTwo_31 (by decide) ?_
    exact K32 (0 : Int32) d hf _ _ ls (lv_sub hl [] rfl) G
  unfold f_X9_areTwo at hf
  refine lv_aload_n hx hb dX9_areTwo_0 rfl (lv_at hl 0 rfl) ?_
  obtain ⟨v2, hv2, hf⟩ := x_ob hf
  refine xr_getR (ci := 9) (k := 4) S G hv2 rfl kw_485 dX9_areTwo_1 ?_
  refine lv_iload_n hx hb dX9_areTwo_4 rfl (lv_at hl 1 rfl) ?_
  obtain ⟨z3, hz3, hf⟩ := x_ob hf
  obtain ⟨hqz3, hz3⟩ := xon_of hz3
  refine xr_callV (ci := 3) (As := [.int x1]) (rest := []) (st1 := [.int z3.1]) S G hl.1 (fun _ => rfl) (mt_X3_hasWalker l D cid b ex sa sv B0 sh v2 x1 d _ _ hz3) hqz3 (by decide) kw_758 kw_759 kw_760 kw_2 kw_761 hd_X3_hasWalker ⟨Nat.le_of_ble_eq_true rfl, Nat.le_of_ble_eq_true rfl⟩ rfl rfl rfl (Nat.le_of_ble_eq_true rfl) ⟨Nat.le_of_ble_eq_true rfl, Nat.le_of_ble_eq_true rfl⟩ dX9_areTwo_5 (fun H locs G => ?_)
  refine lv_if_eq (tgt := 31) hx hb dX9_areTwo_8 (by decide) (fun c => ?_) (fun c => ?_)
  · have hf := x_pos c hf
    exact K31 z3.2 hf _ _ ls (lv_sub hl [] rfl) G
  · have hf := x_neg c hf
    refine lv_aload_n hx hb dX9_areTwo_11 rfl (lv_at hl 0 rfl) ?_
    obtain ⟨v4, hv4, hf⟩ := x_ob hf
    refine xr_getR (ci := 9) (k := 4) S G hv4 rfl kw_485 dX9_areTwo_12 ?_
    refine lv_iload_n hx hb dX9_areTwo_15 rfl (lv_at hl 2 rfl) ?_
    obtain ⟨z5, hz5, hf⟩ := x_ob hf
    obtain ⟨hqz5, hz5⟩ := xon_of hz5
    refine xr_callV (ci := 3) (As := [.int x2]) (rest := []) (st1 := [.int z5.1]) S G hl.1 (fun _ => rfl) (mt_X3_hasWalker l D cid b ex sa sv B0 sh v4 x2 z3.2 _ _ hz5) hqz5 (by decide) kw_758 kw_759 kw_760 kw_2 kw_761 hd_X3_hasWalker ⟨Nat.le_of_ble_eq_true rfl, Nat.le_of_ble_eq_true rfl⟩ rfl rfl rfl (Nat.le_of_ble_eq_true rfl) ⟨Nat.le_of_ble_eq_true rfl, Nat.le_of_ble_eq_true rfl⟩ dX9_areTwo_16 (fun H locs G => ?_)
    refine lv_if_eq (tgt := 31) hx hb dX9_areTwo_19 (by decide) (fun c => ?_) (fun c => ?_)
    · have hf := x_pos c hf
      exact K31 z5.2 hf _ _ ls (lv_sub hl [] rfl) G
    · have hf := x_neg c hf
      refine lv_iload_n hx hb dX9_areTwo_22 rfl (lv_at hl 1 rfl) ?_
      refine lv_iload_n hx hb dX9_areTwo_23 rfl (lv_at hl 2 rfl) ?_
      refine lv_icmp_eq (tgt := 31) hx hb dX9_areTwo_24 (by decide) (fun c => ?_) (fun c => ?_)
      · have hf := x_pos c hf
        exact K31 z5.2 hf _ _ ls (lv_sub hl [] rfl) G
      · have hf := x_neg c hf
        refine lv_iconst (v := (1 : Int32)) hx hb dX9_areTwo_27 (by decide) ?_
        refine lv_goto (tgt := 32) hx hb dX9_areTwo_28 (by decide) ?_
        exact K32 (1 : Int32) z5.2 hf _ _ ls (lv_sub hl [] rfl) G
-- HalfLandings.meet(II)I
theorem dX9_meet_0 : decode cX9_meet 0 = .ok (.aload_n 0, 1) := by decide +kernel
theorem dX9_meet_1 : decode cX9_meet 1 = .ok (.iload_n 1, 1) := by decide +kernel
theorem dX9_meet_2 : decode cX9_meet 2 = .ok (.iload_n 2, 1) := by decide +kernel
theorem dX9_meet_3 : decode cX9_meet 3 = .ok (.invokevirtual 240, 3) := by decide +kernel
theorem dX9_meet_6 : decode cX9_meet 6 = .ok (.ifCond .ne 5, 3) := by decide +kernel
theorem dX9_meet_9 : decode cX9_meet 9 = .ok (.iconst (-1), 1) := by decide +kernel
theorem dX9_meet_10 : decode cX9_meet 10 = .ok (.ireturn, 1) := by decide +kernel
theorem dX9_meet_11 : decode cX9_meet 11 = .ok (.aload_n 0, 1) := by decide +kernel
theorem dX9_meet_12 : decode cX9_meet 12 = .ok (.getfield 63, 3) := by decide +kernel
theorem dX9_meet_15 : decode cX9_meet 15 = .ok (.aload_n 0, 1) := by decide +kernel
theorem dX9_meet_16 : decode cX9_meet 16 = .ok (.getfield 56, 3) := by decide +kernel
theorem dX9_meet_19 : decode cX9_meet 19 = .ok (.invokevirtual 233, 3) := by decide +kernel
theorem dX9_meet_22 : decode cX9_meet 22 = .ok (.aload_n 0, 1) := by decide +kernel
theorem dX9_meet_23 : decode cX9_meet 23 = .ok (.getfield 63, 3) := by decide +kernel
theorem dX9_meet_26 : decode cX9_meet 26 = .ok (.getfield 151, 3) := by decide +kernel
theorem dX9_meet_29 : decode cX9_meet 29 = .ok (.iload_n 1, 1) := by decide +kernel
theorem dX9_meet_30 : decode cX9_meet 30 = .ok (.iconst 0, 1) := by decide +kernel
theorem dX9_meet_31 : decode cX9_meet 31 = .ok (.iastore, 1) := by decide +kernel
theorem dX9_meet_32 : decode cX9_meet 32 = .ok (.iconst 1, 1) := by decide +kernel
theorem dX9_meet_33 : decode cX9_meet 33 = .ok (.istore_n 3, 1) := by decide +kernel
theorem dX9_meet_34 : decode cX9_meet 34 = .ok (.iload_n 3, 1) := by decide +kernel
theorem dX9_meet_35 : decode cX9_meet 35 = .ok (.sipush 199, 3) := by decide +kernel
theorem dX9_meet_38 : decode cX9_meet 38 = .ok (.if_icmp .gt 40, 3) := by decide +kernel
theorem dX9_meet_41 : decode cX9_meet 41 = .ok (.aload_n 0, 1) := by decide +kernel
theorem dX9_meet_42 : decode cX9_meet 42 = .ok (.getfield 75, 3) := by decide +kernel
theorem dX9_meet_45 : decode cX9_meet 45 = .ok (.aload_n 0, 1) := by decide +kernel
theorem dX9_meet_46 : decode cX9_meet 46 = .ok (.getfield 63, 3) := by decide +kernel
theorem dX9_meet_49 : decode cX9_meet 49 = .ok (.iconst 0, 1) := by decide +kernel
theorem dX9_meet_50 : decode cX9_meet 50 = .ok (.invokevirtual 243, 3) := by decide +kernel
theorem dX9_meet_53 : decode cX9_meet 53 = .ok (.aload_n 0, 1) := by decide +kernel
theorem dX9_meet_54 : decode cX9_meet 54 = .ok (.getfield 63, 3) := by decide +kernel
theorem dX9_meet_57 : decode cX9_meet 57 = .ok (.getfield 151, 3) := by decide +kernel
theorem dX9_meet_60 : decode cX9_meet 60 = .ok (.iload_n 1, 1) := by decide +kernel
theorem dX9_meet_61 : decode cX9_meet 61 = .ok (.iaload, 1) := by decide +kernel
theorem dX9_meet_62 : decode cX9_meet 62 = .ok (.iload_n 2, 1) := by decide +kernel
theorem dX9_meet_63 : decode cX9_meet 63 = .ok (.ishr, 1) := by decide +kernel
theorem dX9_meet_64 : decode cX9_meet 64 = .ok (.iconst 1, 1) := by decide +kernel
theorem dX9_meet_65 : decode cX9_meet 65 = .ok (.iand, 1) := by decide +kernel
theorem dX9_meet_66 : decode cX9_meet 66 = .ok (.iconst 1, 1) := by decide +kernel
theorem dX9_meet_67 : decode cX9_meet 67 = .ok (.if_icmp .ne 5, 3) := by decide +kernel
theorem dX9_meet_70 : decode cX9_meet 70 = .ok (.iload_n 3, 1) := by decide +kernel
theorem dX9_meet_71 : decode cX9_meet 71 = .ok (.ireturn, 1) := by decide +kernel
theorem dX9_meet_72 : decode cX9_meet 72 = .ok (.iinc 3 1, 3) := by decide +kernel
theorem dX9_meet_75 : decode cX9_meet 75 = .ok (.goto (-41), 3) := by decide +kernel
theorem dX9_meet_78 : decode cX9_meet 78 = .ok (.bipush (-2), 2) := by decide +kernel
theorem dX9_meet_80 : decode cX9_meet 80 = .ok (.ireturn, 1) := by decide +kernel
theorem hd_X9_meet : yX9_meet.cls = xCn 9 ∧ yX9_meet.cls ≠ "java/lang/invoke/MethodHandle" ∧ yX9_meet.cls ≠ "java/lang/invoke/VarHandle" ∧ (parseMethodDescriptor yX9_meet.desc).map (fun d => d.parameters.length) = some 2 := by decide +kernel
def k_X9_meet_78 (sh : List xSh) (d : xD) : Option (Int32 × xD) :=
  some ((-2 : Int32), d)
def k_X9_meet_70 (sh : List xSh) (x3 : Int32) (d : xD) : Option (Int32 × xD) :=
  some (x3, d)
def b_X9_meet_34 (sh : List xSh) (rec34 : Nat → Int32 → Int32 → Int32 → xD → Option (Int32 × xD)) (q0 : Nat) (x1 : Int32) (x2 : Int32) (x3 : Int32) (d : xD) : Option (Int32 × xD) :=
  if (199 : Int32) < x3 then (k_X9_meet_78 sh d) else ((xgR 9 sh d q0 12).bind fun v1 => (xgR 9 sh d q0 10).bind fun v2 => (xon 2 sh v1 (f_X2_oneMinute sh v1 v2 (0 : Int32) d)).bind fun d3 => (xgR 9 sh d3 q0 10).bind fun v4 => (xgR 4 sh d3 v4 11).bind fun v5 => (xaI .int sh d3 v5 x1).bind fun v6 => if ((v6 >>> (x2 &&& 31)) &&& (1 : Int32)) = (1 : Int32) then (k_X9_meet_70 sh x3 d3) else (rec34 q0 x1 x2 (x3 + 1) d3))
def f_X9_meet (sh : List xSh) (q0 : Nat) (x1 : Int32) (x2 : Int32) (d : xD) : Option (Int32 × xD) :=
  (xon 9 sh q0 (f_X9_areTwo sh q0 x1 x2 d)).bind fun z7 => if z7.1 = 0 then (some ((-1 : Int32), z7.2)) else ((xgR 9 sh z7.2 q0 10).bind fun v8 => (xgR 9 sh z7.2 q0 8).bind fun v9 => (xon 4 sh v8 (f_X4_become sh v8 v9 z7.2)).bind fun d10 => (xgR 9 sh d10 q0 10).bind fun v11 => (xgR 4 sh d10 v11 11).bind fun v12 => (xsI .int sh d10 v12 x1 (0 : Int32)).bind fun d13 => xloop (fun _ _ _ _ _ => none) (b_X9_meet_34 sh) xF q0 x1 x2 (1 : Int32) d13)
set_option maxHeartbeats 4000000 in
set_option maxRecDepth 100000 in
theorem mt_X9_meet (l : Launch) (D : va_G) (cid : FieldType → ClassId) (b : Nat) (ex : Bool) (sa sv B0 : Nat) (sh : List xSh) (q0 : Nat) (x1 : Int32) (x2 : Int32) (d : xD) (r : Int32) (dz : xD) (hf : f_X9_meet sh q0 x1 x2 d = some (r, dz)) : xMet l yX9_meet cX9_meet 4 (some .int) 6 0 0 D cid b ex sa sv B0 [.ref (b + q0), .int x1, .int x2] sh d (some (.int r)) sh dz := by
  refine xMet.of (by decide) (Nat.le_of_ble_eq_true rfl) ?_
  intro p e s m below meth c ls A S hr hin G hl
  have hl : lv_has ls 4 [(0, .ref (b + q0)), (1, .int x1), (2, .int x2)] := hl
  generalize ([.ref (b + q0), .int x1, .int x2] : List Value).toArray = av at S ⊢
  have hx := S.1
  have hb := S.2.1
  have hml := S.2.2.1
  have hown := S.2.2.2.1
  have hts := S.2.2.2.2.1
  have K78 : ∀ (d : xD), k_X9_meet_78 sh d = some (r, dz) → ∀ (H : Heap) (locs : List Loc) (ls : Array Slot), lv_has ls 4 [] → xG D cid b A sh d s H locs → W p l e (xRm 6 0 0) s m av below meth c H locs 0 0 (MQ below (xQ D cid b ex A (some (.int r)) sh dz) av s 0 0 A) (F0 m 78 ls []) := by
    intro d hf H locs ls hl G
    unfold k_X9_meet_78 at hf
    refine lv_bipush (v := (-2 : Int32)) hx hb dX9_meet_78 (by decide) ?_
    cases hf
    exact xr_iret S G (fun _ => rfl) hr dX9_meet_80
  have K70 : ∀ (x3 : Int32) (d : xD), k_X9_meet_70 sh x3 d = some (r, dz) → ∀ (H : Heap) (locs : List Loc) (ls : Array Slot), lv_has ls 4 [(3, .int x3)] → xG D cid b A sh d s H locs → W p l e (xRm 6 0 0) s m av below meth c H locs 0 0 (MQ below (xQ D cid b ex A (some (.int r)) sh dz) av s 0 0 A) (F0 m 70 ls []) := by
    intro x3 d hf H locs ls hl G
    unfold k_X9_meet_70 at hf
    refine lv_iload_n hx hb dX9_meet_70 rfl (lv_at hl 0 rfl) ?_
    cases hf
    exact xr_iret S G (fun _ => rfl) hr dX9_meet_71
  have K34 : ∀ (n : Nat) (q0 : Nat) (x1 : Int32) (x2 : Int32) (x3 : Int32) (d : xD), xloop (fun _ _ _ _ _ => none) (b_X9_meet_34 sh) n q0 x1 x2 x3 d = some (r, dz) → ∀ (H : Heap) (locs : List Loc) (ls : Array Slot), lv_has ls 4 [(0, .ref (b + q0)), (1, .int x1), (2, .int x2), (3, .int x3)] → xG D cid b A sh d s H locs → W p l e (xRm 6 0 0) s m av below meth c H locs 0 0 (MQ below (xQ D cid b ex A (some (.int r)) sh dz) av s 0 0 A) (F0 m 34 ls []) := by
    intro n
    induction n with
    | zero =>
      intro q0 x1 x2 x3 d hf
      have hf : (none : Option (Int32 × xD)) = some (r, dz) := hf
      cases hf
    | succ n hrec34 =>
      intro q0 x1 x2 x3 d hf H locs ls hl G
      have hf : b_X9_meet_34 sh (xloop (fun _ _ _ _ _ => none) (b_X9_meet_34 sh) n) q0 x1 x2 x3 d = some (r, dz) := hf
      unfold b_X9_meet_34 at hf
      refine lv_iload_n hx hb dX9_meet_34 rfl (lv_at hl 3 rfl) ?_
      refine lv_sipush (v := (199 : Int32)) hx hb dX9_meet_35 (by decide) ?_
      refine lv_icmp_gt (tgt := 78) hx hb dX9_meet_38 (by decide) (fun c => ?_) (fun c => ?_)
      · have hf := x_pos c hf
        exact K78 d hf _ _ ls (lv_sub hl [] rfl) G
      · have hf := x_neg c hf
        refine lv_aload_n hx hb dX9_meet_41 rfl (lv_at hl 0 rfl) ?_
        obtain ⟨v1, hv1, hf⟩ := x_ob hf
        refine xr_getR (ci := 9) (k := 12) S G hv1 rfl kw_493 dX9_meet_42 ?_
        refine lv_aload_n hx hb dX9_meet_45 rfl (lv_at hl 0 rfl) ?_
        obtain ⟨v2, hv2, hf⟩ := x_ob hf
        refine xr_getR (ci := 9) (k := 10) S G hv2 rfl kw_491 dX9_meet_46 ?_
        refine lv_iconst (v := (0 : Int32)) hx hb dX9_meet_49 (by decide) ?_
        obtain ⟨d3, hd3, hf⟩ := x_ob hf
        obtain ⟨hqd3, hd3⟩ := xon_of hd3
        refine xr_callV (ci := 2) (As := [.ref (b + v2), .int (0 : Int32)]) (rest := []) (st1 := []) S G hl.1 (fun _ => rfl) (mt_X2_oneMinute l D cid b ex sa sv B0 sh v1 v2 (0 : Int32) d _ hd3) hqd3 (by decide) kw_914 kw_836 kw_837 kw_13 kw_838 hd_X2_oneMinute ⟨Nat.le_of_ble_eq_true rfl, Nat.le_of_ble_eq_true rfl⟩ rfl rfl rfl (Nat.le_of_ble_eq_true rfl) ⟨Nat.le_of_ble_eq_true rfl, Nat.le_of_ble_eq_true rfl⟩ dX9_meet_50 (fun H locs G => ?_)
        refine lv_aload_n hx hb dX9_meet_53 rfl (lv_at hl 0 rfl) ?_
        obtain ⟨v4, hv4, hf⟩ := x_ob hf
        refine xr_getR (ci := 9) (k := 10) S G hv4 rfl kw_491 dX9_meet_54 ?_
        obtain ⟨v5, hv5, hf⟩ := x_ob hf
        refine xr_getR (ci := 4) (k := 11) S G hv5 rfl kw_347 dX9_meet_57 ?_
        refine lv_iload_n hx hb dX9_meet_60 rfl (lv_at hl 1 rfl) ?_
        obtain ⟨v6, hv6, hf⟩ := x_ob hf
        refine xr_iald S G hv6 dX9_meet_61 ?_
        refine lv_iload_n hx hb dX9_meet_62 rfl (lv_at hl 2 rfl) ?_
        refine lv_ishr hx hb dX9_meet_63 ?_
        refine lv_iconst (v := (1 : Int32)) hx hb dX9_meet_64 (by decide) ?_
        refine lv_iand hx hb dX9_meet_65 ?_
        refine lv_iconst (v := (1 : Int32)) hx hb dX9_meet_66 (by decide) ?_
        refine lv_icmp_ne (tgt := 72) hx hb dX9_meet_67 (by decide) (fun c => ?_) (fun c => ?_)
        · have hf := x_neg c hf
          refine lv_iinc (v := (x3 + 1)) (lv' := [(3, .int (x3 + 1)), (0, .ref (b + q0)), (1, .int x1), (2, .int x2)]) hx hb dX9_meet_72 hl (k := 3) rfl rfl (by decide) rfl (fun ls hl => ?_)
          refine lv_goto (tgt := 34) hx hb dX9_meet_75 (by decide) ?_
          exact hrec34 q0 x1 x2 (x3 + 1) d3 hf _ _ ls (lv_sub hl [1, 2, 3, 0] rfl) G
        · have hf := x_pos c hf
          exact K70 x3 d3 hf _ _ ls (lv_sub hl [3] rfl) G
  unfold f_X9_meet at hf
  refine lv_aload_n hx hb dX9_meet_0 rfl (lv_at hl 0 rfl) ?_
  refine lv_iload_n hx hb dX9_meet_1 rfl (lv_at hl 1 rfl) ?_
  refine lv_iload_n hx hb dX9_meet_2 rfl (lv_at hl 2 rfl) ?_
  obtain ⟨z7, hz7, hf⟩ := x_ob hf
  obtain ⟨hqz7, hz7⟩ := xon_of hz7
  refine xr_callV (ci := 9) (As := [.int x1, .int x2]) (rest := []) (st1 := [.int z7.1]) S G hl.1 (fun _ => rfl) (mt_X9_areTwo l D cid b ex sa sv B0 sh q0 x1 x2 d _ _ hz7) hqz7 (by decide) kw_910 kw_912 ks_29 kw_1 kw_913 hd_X9_areTwo ⟨Nat.le_of_ble_eq_true rfl, Nat.le_of_ble_eq_true rfl⟩ rfl rfl rfl (Nat.le_of_ble_eq_true rfl) ⟨Nat.le_of_ble_eq_true rfl, Nat.le_of_ble_eq_true rfl⟩ dX9_meet_3 (fun H locs G => ?_)
  refine lv_if_ne (tgt := 11) hx hb dX9_meet_6 (by decide) (fun c => ?_) (fun c => ?_)
  · have hf := x_neg c hf
    refine lv_aload_n hx hb dX9_meet_11 rfl (lv_at hl 0 rfl) ?_
    obtain ⟨v8, hv8, hf⟩ := x_ob hf
    refine xr_getR (ci := 9) (k := 10) S G hv8 rfl kw_491 dX9_meet_12 ?_
    refine lv_aload_n hx hb dX9_meet_15 rfl (lv_at hl 0 rfl) ?_
    obtain ⟨v9, hv9, hf⟩ := x_ob hf
    refine xr_getR (ci := 9) (k := 8) S G hv9 rfl kw_489 dX9_meet_16 ?_
    obtain ⟨d10, hd10, hf⟩ := x_ob hf
    obtain ⟨hqd10, hd10⟩ := xon_of hd10
    refine xr_callV (ci := 4) (As := [.ref (b + v9)]) (rest := []) (st1 := []) S G hl.1 (fun _ => rfl) (mt_X4_become l D cid b ex sa sv B0 sh v8 v9 z7.2 _ hd10) hqd10 (by decide) kw_901 kw_902 kw_903 kw_12 kw_904 hd_X4_become ⟨Nat.le_of_ble_eq_true rfl, Nat.le_of_ble_eq_true rfl⟩ rfl rfl rfl (Nat.le_of_ble_eq_true rfl) ⟨Nat.le_of_ble_eq_true rfl, Nat.le_of_ble_eq_true rfl⟩ dX9_meet_19 (fun H locs G => ?_)
    refine lv_aload_n hx hb dX9_meet_22 rfl (lv_at hl 0 rfl) ?_
    obtain ⟨v11, hv11, hf⟩ := x_ob hf
    refine xr_getR (ci := 9) (k := 10) S G hv11 rfl kw_491 dX9_meet_23 ?_
    obtain ⟨v12, hv12, hf⟩ := x_ob hf
    refine xr_getR (ci := 4) (k := 11) S G hv12 rfl kw_347 dX9_meet_26 ?_
    refine lv_iload_n hx hb dX9_meet_29 rfl (lv_at hl 1 rfl) ?_
    refine lv_iconst (v := (0 : Int32)) hx hb dX9_meet_30 (by decide) ?_
    obtain ⟨d13, hd13, hf⟩ := x_ob hf
    refine xr_iast S G hd13 dX9_meet_31 (fun H locs G => ?_)
    refine lv_iconst (v := (1 : Int32)) hx hb dX9_meet_32 (by decide) ?_
    refine lv_istore_n (lv' := [(3, .int (1 : Int32)), (0, .ref (b + q0)), (1, .int x1), (2, .int x2)]) hx hb dX9_meet_33 rfl hl (by decide) rfl (fun ls hl => ?_)
    exact K34 xF q0 x1 x2 (1 : Int32) d13 hf _ _ ls (lv_sub hl [1, 2, 3, 0] rfl) G
  · have hf := x_pos c hf
    refine lv_iconst (v := (-1 : Int32)) hx hb dX9_meet_9 (by decide) ?_
    cases hf
    exact xr_iret S G (fun _ => rfl) hr dX9_meet_10
-- HalfLandings.pass(II)I
theorem dX9_pass_0 : decode cX9_pass 0 = .ok (.aload_n 0, 1) := by decide +kernel
theorem dX9_pass_1 : decode cX9_pass 1 = .ok (.iload_n 1, 1) := by decide +kernel
theorem dX9_pass_2 : decode cX9_pass 2 = .ok (.iload_n 2, 1) := by decide +kernel
theorem dX9_pass_3 : decode cX9_pass 3 = .ok (.invokevirtual 240, 3) := by decide +kernel
theorem dX9_pass_6 : decode cX9_pass 6 = .ok (.ifCond .ne 5, 3) := by decide +kernel
theorem dX9_pass_9 : decode cX9_pass 9 = .ok (.iconst (-1), 1) := by decide +kernel
theorem dX9_pass_10 : decode cX9_pass 10 = .ok (.ireturn, 1) := by decide +kernel
theorem dX9_pass_11 : decode cX9_pass 11 = .ok (.aload_n 0, 1) := by decide +kernel
theorem dX9_pass_12 : decode cX9_pass 12 = .ok (.getfield 63, 3) := by decide +kernel
theorem dX9_pass_15 : decode cX9_pass 15 = .ok (.aload_n 0, 1) := by decide +kernel
theorem dX9_pass_16 : decode cX9_pass 16 = .ok (.getfield 56, 3) := by decide +kernel
theorem dX9_pass_19 : decode cX9_pass 19 = .ok (.invokevirtual 233, 3) := by decide +kernel
theorem dX9_pass_22 : decode cX9_pass 22 = .ok (.aload_n 0, 1) := by decide +kernel
theorem dX9_pass_23 : decode cX9_pass 23 = .ok (.getfield 63, 3) := by decide +kernel
theorem dX9_pass_26 : decode cX9_pass 26 = .ok (.iload_n 1, 1) := by decide +kernel
theorem dX9_pass_27 : decode cX9_pass 27 = .ok (.iload_n 2, 1) := by decide +kernel
theorem dX9_pass_28 : decode cX9_pass 28 = .ok (.invokevirtual 247, 3) := by decide +kernel
theorem dX9_pass_31 : decode cX9_pass 31 = .ok (.istore_n 3, 1) := by decide +kernel
theorem dX9_pass_32 : decode cX9_pass 32 = .ok (.iconst 1, 1) := by decide +kernel
theorem dX9_pass_33 : decode cX9_pass 33 = .ok (.istore 4, 2) := by decide +kernel
theorem dX9_pass_35 : decode cX9_pass 35 = .ok (.iload 4, 2) := by decide +kernel
theorem dX9_pass_37 : decode cX9_pass 37 = .ok (.sipush 199, 3) := by decide +kernel
theorem dX9_pass_40 : decode cX9_pass 40 = .ok (.if_icmp .gt 45, 3) := by decide +kernel
theorem dX9_pass_43 : decode cX9_pass 43 = .ok (.aload_n 0, 1) := by decide +kernel
theorem dX9_pass_44 : decode cX9_pass 44 = .ok (.getfield 75, 3) := by decide +kernel
theorem dX9_pass_47 : decode cX9_pass 47 = .ok (.aload_n 0, 1) := by decide +kernel
theorem dX9_pass_48 : decode cX9_pass 48 = .ok (.getfield 63, 3) := by decide +kernel
theorem dX9_pass_51 : decode cX9_pass 51 = .ok (.iconst 0, 1) := by decide +kernel
theorem dX9_pass_52 : decode cX9_pass 52 = .ok (.invokevirtual 243, 3) := by decide +kernel
theorem dX9_pass_55 : decode cX9_pass 55 = .ok (.aload_n 0, 1) := by decide +kernel
theorem dX9_pass_56 : decode cX9_pass 56 = .ok (.getfield 63, 3) := by decide +kernel
theorem dX9_pass_59 : decode cX9_pass 59 = .ok (.iload_n 1, 1) := by decide +kernel
theorem dX9_pass_60 : decode cX9_pass 60 = .ok (.iload_n 2, 1) := by decide +kernel
theorem dX9_pass_61 : decode cX9_pass 61 = .ok (.invokevirtual 247, 3) := by decide +kernel
theorem dX9_pass_64 : decode cX9_pass 64 = .ok (.istore 5, 2) := by decide +kernel
theorem dX9_pass_66 : decode cX9_pass 66 = .ok (.iload_n 3, 1) := by decide +kernel
theorem dX9_pass_67 : decode cX9_pass 67 = .ok (.iload 5, 2) := by decide +kernel
theorem dX9_pass_69 : decode cX9_pass 69 = .ok (.imul, 1) := by decide +kernel
theorem dX9_pass_70 : decode cX9_pass 70 = .ok (.ifCond .ge 6, 3) := by decide +kernel
theorem dX9_pass_73 : decode cX9_pass 73 = .ok (.iload 4, 2) := by decide +kernel
theorem dX9_pass_75 : decode cX9_pass 75 = .ok (.ireturn, 1) := by decide +kernel
theorem dX9_pass_76 : decode cX9_pass 76 = .ok (.iload 5, 2) := by decide +kernel
theorem dX9_pass_78 : decode cX9_pass 78 = .ok (.istore_n 3, 1) := by decide +kernel
theorem dX9_pass_79 : decode cX9_pass 79 = .ok (.iinc 4 1, 3) := by decide +kernel
theorem dX9_pass_82 : decode cX9_pass 82 = .ok (.goto (-47), 3) := by decide +kernel
theorem dX9_pass_85 : decode cX9_pass 85 = .ok (.bipush (-2), 2) := by decide +kernel
theorem dX9_pass_87 : decode cX9_pass 87 = .ok (.ireturn, 1) := by decide +kernel
theorem hd_X9_pass : yX9_pass.cls = xCn 9 ∧ yX9_pass.cls ≠ "java/lang/invoke/MethodHandle" ∧ yX9_pass.cls ≠ "java/lang/invoke/VarHandle" ∧ (parseMethodDescriptor yX9_pass.desc).map (fun d => d.parameters.length) = some 2 := by decide +kernel
def k_X9_pass_85 (sh : List xSh) (d : xD) : Option (Int32 × xD) :=
  some ((-2 : Int32), d)
def k_X9_pass_73 (sh : List xSh) (x4 : Int32) (d : xD) : Option (Int32 × xD) :=
  some (x4, d)
def b_X9_pass_35 (sh : List xSh) (rec35 : Nat → Int32 → Int32 → Int32 → Int32 → xD → Option (Int32 × xD)) (q0 : Nat) (x1 : Int32) (x2 : Int32) (x3 : Int32) (x4 : Int32) (d : xD) : Option (Int32 × xD) :=
  if (199 : Int32) < x4 then (k_X9_pass_85 sh d) else ((xgR 9 sh d q0 12).bind fun v1 => (xgR 9 sh d q0 10).bind fun v2 => (xon 2 sh v1 (f_X2_oneMinute sh v1 v2 (0 : Int32) d)).bind fun d3 => (xgR 9 sh d3 q0 10).bind fun v4 => (xon 4 sh v4 (f_X4_order sh v4 x1 x2 d3)).bind fun z5 => if 0 ≤ (x3 * z5.1) then (rec35 q0 x1 x2 z5.1 (x4 + 1) z5.2) else (k_X9_pass_73 sh x4 z5.2))
def f_X9_pass (sh : List xSh) (q0 : Nat) (x1 : Int32) (x2 : Int32) (d : xD) : Option (Int32 × xD) :=
  (xon 9 sh q0 (f_X9_areTwo sh q0 x1 x2 d)).bind fun z6 => if z6.1 = 0 then (some ((-1 : Int32), z6.2)) else ((xgR 9 sh z6.2 q0 10).bind fun v7 => (xgR 9 sh z6.2 q0 8).bind fun v8 => (xon 4 sh v7 (f_X4_become sh v7 v8 z6.2)).bind fun d9 => (xgR 9 sh d9 q0 10).bind fun v10 => (xon 4 sh v10 (f_X4_order sh v10 x1 x2 d9)).bind fun z11 => xloop (fun _ _ _ _ _ _ => none) (b_X9_pass_35 sh) xF q0 x1 x2 z11.1 (1 : Int32) z11.2)
set_option maxHeartbeats 4000000 in
set_option maxRecDepth 100000 in
theorem mt_X9_pass (l : Launch) (D : va_G) (cid : FieldType → ClassId) (b : Nat) (ex : Bool) (sa sv B0 : Nat) (sh : List xSh) (q0 : Nat) (x1 : Int32) (x2 : Int32) (d : xD) (r : Int32) (dz : xD) (hf : f_X9_pass sh q0 x1 x2 d = some (r, dz)) : xMet l yX9_pass cX9_pass 6 (some .int) 6 0 0 D cid b ex sa sv B0 [.ref (b + q0), .int x1, .int x2] sh d (some (.int r)) sh dz := by
  refine xMet.of (by decide) (Nat.le_of_ble_eq_true rfl) ?_
  intro p e s m below meth c ls A S hr hin G hl
  have hl : lv_has ls 6 [(0, .ref (b + q0)), (1, .int x1), (2, .int x2)] := hl
  generalize ([.ref (b + q0), .int x1, .int x2] : List Value).toArray = av at S ⊢
  have hx := S.1
  have hb := S.2.1
  have hml := S.2.2.1
  have hown := S.2.2.2.1
  have hts := S.2.2.2.2.1
  have K85 : ∀ (d : xD), k_X9_pass_85 sh d = some (r, dz) → ∀ (H : Heap) (locs : List Loc) (ls : Array Slot), lv_has ls 6 [] → xG D cid b A sh d s H locs → W p l e (xRm 6 0 0) s m av below meth c H locs 0 0 (MQ below (xQ D cid b ex A (some (.int r)) sh dz) av s 0 0 A) (F0 m 85 ls []) := by
    intro d hf H locs ls hl G
    unfold k_X9_pass_85 at hf
    refine lv_bipush (v := (-2 : Int32)) hx hb dX9_pass_85 (by decide) ?_
    cases hf
    exact xr_iret S G (fun _ => rfl) hr dX9_pass_87
  have K73 : ∀ (x4 : Int32) (d : xD), k_X9_pass_73 sh x4 d = some (r, dz) → ∀ (H : Heap) (locs : List Loc) (ls : Array Slot), lv_has ls 6 [(4, .int x4)] → xG D cid b A sh d s H locs → W p l e (xRm 6 0 0) s m av below meth c H locs 0 0 (MQ below (xQ D cid b ex A (some (.int r)) sh dz) av s 0 0 A) (F0 m 73 ls []) := by
    intro x4 d hf H locs ls hl G
    unfold k_X9_pass_73 at hf
    refine lv_iload hx hb dX9_pass_73 (lv_at hl 0 rfl) ?_
    cases hf
    exact xr_iret S G (fun _ => rfl) hr dX9_pass_75
  have K35 : ∀ (n : Nat) (q0 : Nat) (x1 : Int32) (x2 : Int32) (x3 : Int32) (x4 : Int32) (d : xD), xloop (fun _ _ _ _ _ _ => none) (b_X9_pass_35 sh) n q0 x1 x2 x3 x4 d = some (r, dz) → ∀ (H : Heap) (locs : List Loc) (ls : Array Slot), lv_has ls 6 [(0, .ref (b + q0)), (1, .int x1), (2, .int x2), (3, .int x3), (4, .int x4)] → xG D cid b A sh d s H locs → W p l e (xRm 6 0 0) s m av below meth c H locs 0 0 (MQ below (xQ D cid b ex A (some (.int r)) sh dz) av s 0 0 A) (F0 m 35 ls []) := by
    intro n
    induction n with
    | zero =>
      intro q0 x1 x2 x3 x4 d hf
      have hf : (none : Option (Int32 × xD)) = some (r, dz) := hf
      cases hf
    | succ n hrec35 =>
      intro q0 x1 x2 x3 x4 d hf H locs ls hl G
      have hf : b_X9_pass_35 sh (xloop (fun _ _ _ _ _ _ => none) (b_X9_pass_35 sh) n) q0 x1 x2 x3 x4 d = some (r, dz) := hf
      unfold b_X9_pass_35 at hf
      refine lv_iload hx hb dX9_pass_35 (lv_at hl 4 rfl) ?_
      refine lv_sipush (v := (199 : Int32)) hx hb dX9_pass_37 (by decide) ?_
      refine lv_icmp_gt (tgt := 85) hx hb dX9_pass_40 (by decide) (fun c => ?_) (fun c => ?_)
      · have hf := x_pos c hf
        exact K85 d hf _ _ ls (lv_sub hl [] rfl) G
      · have hf := x_neg c hf
        refine lv_aload_n hx hb dX9_pass_43 rfl (lv_at hl 0 rfl) ?_
        obtain ⟨v1, hv1, hf⟩ := x_ob hf
        refine xr_getR (ci := 9) (k := 12) S G hv1 rfl kw_493 dX9_pass_44 ?_
        refine lv_aload_n hx hb dX9_pass_47 rfl (lv_at hl 0 rfl) ?_
        obtain ⟨v2, hv2, hf⟩ := x_ob hf
        refine xr_getR (ci := 9) (k := 10) S G hv2 rfl kw_491 dX9_pass_48 ?_
        refine lv_iconst (v := (0 : Int32)) hx hb dX9_pass_51 (by decide) ?_
        obtain ⟨d3, hd3, hf⟩ := x_ob hf
        obtain ⟨hqd3, hd3⟩ := xon_of hd3
        refine xr_callV (ci := 2) (As := [.ref (b + v2), .int (0 : Int32)]) (rest := []) (st1 := []) S G hl.1 (fun _ => rfl) (mt_X2_oneMinute l D cid b ex sa sv B0 sh v1 v2 (0 : Int32) d _ hd3) hqd3 (by decide) kw_914 kw_836 kw_837 kw_13 kw_838 hd_X2_oneMinute ⟨Nat.le_of_ble_eq_true rfl, Nat.le_of_ble_eq_true rfl⟩ rfl rfl rfl (Nat.le_of_ble_eq_true rfl) ⟨Nat.le_of_ble_eq_true rfl, Nat.le_of_ble_eq_true rfl⟩ dX9_pass_52 (fun H locs G => ?_)
        refine lv_aload_n hx hb dX9_pass_55 rfl (lv_at hl 0 rfl) ?_
        obtain ⟨v4, hv4, hf⟩ := x_ob hf
        refine xr_getR (ci := 9) (k := 10) S G hv4 rfl kw_491 dX9_pass_56 ?_
        refine lv_iload_n hx hb dX9_pass_59 rfl (lv_at hl 1 rfl) ?_
        refine lv_iload_n hx hb dX9_pass_60 rfl (lv_at hl 2 rfl) ?_
        obtain ⟨z5, hz5, hf⟩ := x_ob hf
        obtain ⟨hqz5, hz5⟩ := xon_of hz5
        refine xr_callV (ci := 4) (As := [.int x1, .int x2]) (rest := []) (st1 := [.int z5.1]) S G hl.1 (fun _ => rfl) (mt_X4_order l D cid b ex sa sv B0 sh v4 x1 x2 d3 _ _ hz5) hqz5 (by decide) kw_919 kw_920 kw_921 kw_12 kw_922 hd_X4_order ⟨Nat.le_of_ble_eq_true rfl, Nat.le_of_ble_eq_true rfl⟩ rfl rfl rfl (Nat.le_of_ble_eq_true rfl) ⟨Nat.le_of_ble_eq_true rfl, Nat.le_of_ble_eq_true rfl⟩ dX9_pass_61 (fun H locs G => ?_)
        refine lv_istore (lv' := [(5, .int z5.1), (0, .ref (b + q0)), (1, .int x1), (2, .int x2), (3, .int x3), (4, .int x4)]) hx hb dX9_pass_64 hl (by decide) rfl (fun ls hl => ?_)
        refine lv_iload_n hx hb dX9_pass_66 rfl (lv_at hl 4 rfl) ?_
        refine lv_iload hx hb dX9_pass_67 (lv_at hl 0 rfl) ?_
        refine lv_imul hx hb dX9_pass_69 ?_
        refine lv_if_ge (tgt := 76) hx hb dX9_pass_70 (by decide) (fun c => ?_) (fun c => ?_)
        · have hf := x_pos c hf
          refine lv_iload hx hb dX9_pass_76 (lv_at hl 0 rfl) ?_
          refine lv_istore_n (lv' := [(3, .int z5.1), (5, .int z5.1), (0, .ref (b + q0)), (1, .int x1), (2, .int x2), (4, .int x4)]) hx hb dX9_pass_78 rfl hl (by decide) rfl (fun ls hl => ?_)
          refine lv_iinc (v := (x4 + 1)) (lv' := [(4, .int (x4 + 1)), (3, .int z5.1), (5, .int z5.1), (0, .ref (b + q0)), (1, .int x1), (2, .int x2)]) hx hb dX9_pass_79 hl (k := 5) rfl rfl (by decide) rfl (fun ls hl => ?_)
          refine lv_goto (tgt := 35) hx hb dX9_pass_82 (by decide) ?_
          exact hrec35 q0 x1 x2 z5.1 (x4 + 1) z5.2 hf _ _ ls (lv_sub hl [3, 4, 5, 1, 0] rfl) G
        · have hf := x_neg c hf
          exact K73 x4 z5.2 hf _ _ ls (lv_sub hl [5] rfl) G
  unfold f_X9_pass at hf
  refine lv_aload_n hx hb dX9_pass_0 rfl (lv_at hl 0 rfl) ?_
  refine lv_iload_n hx hb dX9_pass_1 rfl (lv_at hl 1 rfl) ?_
  refine lv_iload_n hx hb dX9_pass_2 rfl (lv_at hl 2 rfl) ?_
  obtain ⟨z6, hz6, hf⟩ := x_ob hf
  obtain ⟨hqz6, hz6⟩ := xon_of hz6
  refine xr_callV (ci := 9) (As := [.int x1, .int x2]) (rest := []) (st1 := [.int z6.1]) S G hl.1 (fun _ => rfl) (mt_X9_areTwo l D cid b ex sa sv B0 sh q0 x1 x2 d _ _ hz6) hqz6 (by decide) kw_910 kw_912 ks_29 kw_1 kw_913 hd_X9_areTwo ⟨Nat.le_of_ble_eq_true rfl, Nat.le_of_ble_eq_true rfl⟩ rfl rfl rfl (Nat.le_of_ble_eq_true rfl) ⟨Nat.le_of_ble_eq_true rfl, Nat.le_of_ble_eq_true rfl⟩ dX9_pass_3 (fun H locs G => ?_)
  refine lv_if_ne (tgt := 11) hx hb dX9_pass_6 (by decide) (fun c => ?_) (fun c => ?_)
  · have hf := x_neg c hf
    refine lv_aload_n hx hb dX9_pass_11 rfl (lv_at hl 0 rfl) ?_
    obtain ⟨v7, hv7, hf⟩ := x_ob hf
    refine xr_getR (ci := 9) (k := 10) S G hv7 rfl kw_491 dX9_pass_12 ?_
    refine lv_aload_n hx hb dX9_pass_15 rfl (lv_at hl 0 rfl) ?_
    obtain ⟨v8, hv8, hf⟩ := x_ob hf
    refine xr_getR (ci := 9) (k := 8) S G hv8 rfl kw_489 dX9_pass_16 ?_
    obtain ⟨d9, hd9, hf⟩ := x_ob hf
    obtain ⟨hqd9, hd9⟩ := xon_of hd9
    refine xr_callV (ci := 4) (As := [.ref (b + v8)]) (rest := []) (st1 := []) S G hl.1 (fun _ => rfl) (mt_X4_become l D cid b ex sa sv B0 sh v7 v8 z6.2 _ hd9) hqd9 (by decide) kw_901 kw_902 kw_903 kw_12 kw_904 hd_X4_become ⟨Nat.le_of_ble_eq_true rfl, Nat.le_of_ble_eq_true rfl⟩ rfl rfl rfl (Nat.le_of_ble_eq_true rfl) ⟨Nat.le_of_ble_eq_true rfl, Nat.le_of_ble_eq_true rfl⟩ dX9_pass_19 (fun H locs G => ?_)
    refine lv_aload_n hx hb dX9_pass_22 rfl (lv_at hl 0 rfl) ?_
    obtain ⟨v10, hv10, hf⟩ := x_ob hf
    refine xr_getR (ci := 9) (k := 10) S G hv10 rfl kw_491 dX9_pass_23 ?_
    refine lv_iload_n hx hb dX9_pass_26 rfl (lv_at hl 1 rfl) ?_
    refine lv_iload_n hx hb dX9_pass_27 rfl (lv_at hl 2 rfl) ?_
    obtain ⟨z11, hz11, hf⟩ := x_ob hf
    obtain ⟨hqz11, hz11⟩ := xon_of hz11
    refine xr_callV (ci := 4) (As := [.int x1, .int x2]) (rest := []) (st1 := [.int z11.1]) S G hl.1 (fun _ => rfl) (mt_X4_order l D cid b ex sa sv B0 sh v10 x1 x2 d9 _ _ hz11) hqz11 (by decide) kw_919 kw_920 kw_921 kw_12 kw_922 hd_X4_order ⟨Nat.le_of_ble_eq_true rfl, Nat.le_of_ble_eq_true rfl⟩ rfl rfl rfl (Nat.le_of_ble_eq_true rfl) ⟨Nat.le_of_ble_eq_true rfl, Nat.le_of_ble_eq_true rfl⟩ dX9_pass_28 (fun H locs G => ?_)
    refine lv_istore_n (lv' := [(3, .int z11.1), (0, .ref (b + q0)), (1, .int x1), (2, .int x2)]) hx hb dX9_pass_31 rfl hl (by decide) rfl (fun ls hl => ?_)
    refine lv_iconst (v := (1 : Int32)) hx hb dX9_pass_32 (by decide) ?_
    refine lv_istore (lv' := [(4, .int (1 : Int32)), (3, .int z11.1), (0, .ref (b + q0)), (1, .int x1), (2, .int x2)]) hx hb dX9_pass_33 hl (by decide) rfl (fun ls hl => ?_)
    exact K35 xF q0 x1 x2 z11.1 (1 : Int32) z11.2 hf _ _ ls (lv_sub hl [2, 3, 4, 1, 0] rfl) G
  · have hf := x_pos c hf
    refine lv_iconst (v := (-1 : Int32)) hx hb dX9_pass_9 (by decide) ?_
    cases hf
    exact xr_iret S G (fun _ => rfl) hr dX9_pass_10
-- HalfLandings.out(I)I
theorem dX9_out_0 : decode cX9_out 0 = .ok (.aload_n 0, 1) := by decide +kernel
theorem dX9_out_1 : decode cX9_out 1 = .ok (.getfield 28, 3) := by decide +kernel
theorem dX9_out_4 : decode cX9_out 4 = .ok (.iload_n 1, 1) := by decide +kernel
theorem dX9_out_5 : decode cX9_out 5 = .ok (.invokevirtual 121, 3) := by decide +kernel
theorem dX9_out_8 : decode cX9_out 8 = .ok (.ifCond .ne 5, 3) := by decide +kernel
theorem dX9_out_11 : decode cX9_out 11 = .ok (.iconst (-1), 1) := by decide +kernel
theorem dX9_out_12 : decode cX9_out 12 = .ok (.ireturn, 1) := by decide +kernel
theorem dX9_out_13 : decode cX9_out 13 = .ok (.aload_n 0, 1) := by decide +kernel
theorem dX9_out_14 : decode cX9_out 14 = .ok (.getfield 63, 3) := by decide +kernel
theorem dX9_out_17 : decode cX9_out 17 = .ok (.aload_n 0, 1) := by decide +kernel
theorem dX9_out_18 : decode cX9_out 18 = .ok (.getfield 56, 3) := by decide +kernel
theorem dX9_out_21 : decode cX9_out 21 = .ok (.invokevirtual 233, 3) := by decide +kernel
theorem dX9_out_24 : decode cX9_out 24 = .ok (.iconst 0, 1) := by decide +kernel
theorem dX9_out_25 : decode cX9_out 25 = .ok (.istore_n 2, 1) := by decide +kernel
theorem dX9_out_26 : decode cX9_out 26 = .ok (.iload_n 2, 1) := by decide +kernel
theorem dX9_out_27 : decode cX9_out 27 = .ok (.sipush 199, 3) := by decide +kernel
theorem dX9_out_30 : decode cX9_out 30 = .ok (.if_icmp .gt 36, 3) := by decide +kernel
theorem dX9_out_33 : decode cX9_out 33 = .ok (.aload_n 0, 1) := by decide +kernel
theorem dX9_out_34 : decode cX9_out 34 = .ok (.getfield 63, 3) := by decide +kernel
theorem dX9_out_37 : decode cX9_out 37 = .ok (.getfield 132, 3) := by decide +kernel
theorem dX9_out_40 : decode cX9_out 40 = .ok (.iload_n 1, 1) := by decide +kernel
theorem dX9_out_41 : decode cX9_out 41 = .ok (.iaload, 1) := by decide +kernel
theorem dX9_out_42 : decode cX9_out 42 = .ok (.iconst 3, 1) := by decide +kernel
theorem dX9_out_43 : decode cX9_out 43 = .ok (.if_icmp .ne 5, 3) := by decide +kernel
theorem dX9_out_46 : decode cX9_out 46 = .ok (.iload_n 2, 1) := by decide +kernel
theorem dX9_out_47 : decode cX9_out 47 = .ok (.ireturn, 1) := by decide +kernel
theorem dX9_out_48 : decode cX9_out 48 = .ok (.aload_n 0, 1) := by decide +kernel
theorem dX9_out_49 : decode cX9_out 49 = .ok (.getfield 75, 3) := by decide +kernel
theorem dX9_out_52 : decode cX9_out 52 = .ok (.aload_n 0, 1) := by decide +kernel
theorem dX9_out_53 : decode cX9_out 53 = .ok (.getfield 63, 3) := by decide +kernel
theorem dX9_out_56 : decode cX9_out 56 = .ok (.iconst 0, 1) := by decide +kernel
theorem dX9_out_57 : decode cX9_out 57 = .ok (.invokevirtual 243, 3) := by decide +kernel
theorem dX9_out_60 : decode cX9_out 60 = .ok (.iinc 2 1, 3) := by decide +kernel
theorem dX9_out_63 : decode cX9_out 63 = .ok (.goto (-37), 3) := by decide +kernel
theorem dX9_out_66 : decode cX9_out 66 = .ok (.bipush (-2), 2) := by decide +kernel
theorem dX9_out_68 : decode cX9_out 68 = .ok (.ireturn, 1) := by decide +kernel
theorem hd_X9_out : yX9_out.cls = xCn 9 ∧ yX9_out.cls ≠ "java/lang/invoke/MethodHandle" ∧ yX9_out.cls ≠ "java/lang/invoke/VarHandle" ∧ (parseMethodDescriptor yX9_out.desc).map (fun d => d.parameters.length) = some 1 := by decide +kernel
def k_X9_out_66 (sh : List xSh) (d : xD) : Option (Int32 × xD) :=
  some ((-2 : Int32), d)
def k_X9_out_46 (sh : List xSh) (x2 : Int32) (d : xD) : Option (Int32 × xD) :=
  some (x2, d)
def b_X9_out_26 (sh : List xSh) (rec26 : Nat → Int32 → Int32 → xD → Option (Int32 × xD)) (q0 : Nat) (x1 : Int32) (x2 : Int32) (d : xD) : Option (Int32 × xD) :=
  if (199 : Int32) < x2 then (k_X9_out_66 sh d) else ((xgR 9 sh d q0 10).bind fun v1 => (xgR 4 sh d v1 5).bind fun v2 => (xaI .int sh d v2 x1).bind fun v3 => if v3 = (3 : Int32) then (k_X9_out_46 sh x2 d) else ((xgR 9 sh d q0 12).bind fun v4 => (xgR 9 sh d q0 10).bind fun v5 => (xon 2 sh v4 (f_X2_oneMinute sh v4 v5 (0 : Int32) d)).bind fun d6 => rec26 q0 x1 (x2 + 1) d6))
def f_X9_out (sh : List xSh) (q0 : Nat) (x1 : Int32) (d : xD) : Option (Int32 × xD) :=
  (xgR 9 sh d q0 4).bind fun v7 => (xon 3 sh v7 (f_X3_hasWalker sh v7 x1 d)).bind fun z8 => if z8.1 = 0 then (some ((-1 : Int32), z8.2)) else ((xgR 9 sh z8.2 q0 10).bind fun v9 => (xgR 9 sh z8.2 q0 8).bind fun v10 => (xon 4 sh v9 (f_X4_become sh v9 v10 z8.2)).bind fun d11 => xloop (fun _ _ _ _ => none) (b_X9_out_26 sh) xF q0 x1 (0 : Int32) d11)
set_option maxHeartbeats 4000000 in
set_option maxRecDepth 100000 in
theorem mt_X9_out (l : Launch) (D : va_G) (cid : FieldType → ClassId) (b : Nat) (ex : Bool) (sa sv B0 : Nat) (sh : List xSh) (q0 : Nat) (x1 : Int32) (d : xD) (r : Int32) (dz : xD) (hf : f_X9_out sh q0 x1 d = some (r, dz)) : xMet l yX9_out cX9_out 3 (some .int) 6 0 0 D cid b ex sa sv B0 [.ref (b + q0), .int x1] sh d (some (.int r)) sh dz := by
  refine xMet.of (by decide) (Nat.le_of_ble_eq_true rfl) ?_
  intro p e s m below meth c ls A S hr hin G hl
  have hl : lv_has ls 3 [(0, .ref (b + q0)), (1, .int x1)] := hl
  generalize ([.ref (b + q0), .int x1] : List Value).toArray = av at S ⊢
  have hx := S.1
  have hb := S.2.1
  have hml := S.2.2.1
  have hown := S.2.2.2.1
  have hts := S.2.2.2.2.1
  have K66 : ∀ (d : xD), k_X9_out_66 sh d = some (r, dz) → ∀ (H : Heap) (locs : List Loc) (ls : Array Slot), lv_has ls 3 [] → xG D cid b A sh d s H locs → W p l e (xRm 6 0 0) s m av below meth c H locs 0 0 (MQ below (xQ D cid b ex A (some (.int r)) sh dz) av s 0 0 A) (F0 m 66 ls []) := by
    intro d hf H locs ls hl G
    unfold k_X9_out_66 at hf
    refine lv_bipush (v := (-2 : Int32)) hx hb dX9_out_66 (by decide) ?_
    cases hf
    exact xr_iret S G (fun _ => rfl) hr dX9_out_68
  have K46 : ∀ (x2 : Int32) (d : xD), k_X9_out_46 sh x2 d = some (r, dz) → ∀ (H : Heap) (locs : List Loc) (ls : Array Slot), lv_has ls 3 [(2, .int x2)] → xG D cid b A sh d s H locs → W p l e (xRm 6 0 0) s m av below meth c H locs 0 0 (MQ below (xQ D cid b ex A (some (.int r)) sh dz) av s 0 0 A) (F0 m 46 ls []) := by
    intro x2 d hf H locs ls hl G
    unfold k_X9_out_46 at hf
    refine lv_iload_n hx hb dX9_out_46 rfl (lv_at hl 0 rfl) ?_
    cases hf
    exact xr_iret S G (fun _ => rfl) hr dX9_out_47
  have K26 : ∀ (n : Nat) (q0 : Nat) (x1 : Int32) (x2 : Int32) (d : xD), xloop (fun _ _ _ _ => none) (b_X9_out_26 sh) n q0 x1 x2 d = some (r, dz) → ∀ (H : Heap) (locs : List Loc) (ls : Array Slot), lv_has ls 3 [(0, .ref (b + q0)), (1, .int x1), (2, .int x2)] → xG D cid b A sh d s H locs → W p l e (xRm 6 0 0) s m av below meth c H locs 0 0 (MQ below (xQ D cid b ex A (some (.int r)) sh dz) av s 0 0 A) (F0 m 26 ls []) := by
    intro n
    induction n with
    | zero =>
      intro q0 x1 x2 d hf
      have hf : (none : Option (Int32 × xD)) = some (r, dz) := hf
      cases hf
    | succ n hrec26 =>
      intro q0 x1 x2 d hf H locs ls hl G
      have hf : b_X9_out_26 sh (xloop (fun _ _ _ _ => none) (b_X9_out_26 sh) n) q0 x1 x2 d = some (r, dz) := hf
      unfold b_X9_out_26 at hf
      refine lv_iload_n hx hb dX9_out_26 rfl (lv_at hl 2 rfl) ?_
      refine lv_sipush (v := (199 : Int32)) hx hb dX9_out_27 (by decide) ?_
      refine lv_icmp_gt (tgt := 66) hx hb dX9_out_30 (by decide) (fun c => ?_) (fun c => ?_)
      · have hf := x_pos c hf
        exact K66 d hf _ _ ls (lv_sub hl [] rfl) G
      · have hf := x_neg c hf
        refine lv_aload_n hx hb dX9_out_33 rfl (lv_at hl 0 rfl) ?_
        obtain ⟨v1, hv1, hf⟩ := x_ob hf
        refine xr_getR (ci := 9) (k := 10) S G hv1 rfl kw_491 dX9_out_34 ?_
        obtain ⟨v2, hv2, hf⟩ := x_ob hf
        refine xr_getR (ci := 4) (k := 5) S G hv2 rfl kw_329 dX9_out_37 ?_
        refine lv_iload_n hx hb dX9_out_40 rfl (lv_at hl 1 rfl) ?_
        obtain ⟨v3, hv3, hf⟩ := x_ob hf
        refine xr_iald S G hv3 dX9_out_41 ?_
        refine lv_iconst (v := (3 : Int32)) hx hb dX9_out_42 (by decide) ?_
        refine lv_icmp_ne (tgt := 48) hx hb dX9_out_43 (by decide) (fun c => ?_) (fun c => ?_)
        · have hf := x_neg c hf
          refine lv_aload_n hx hb dX9_out_48 rfl (lv_at hl 0 rfl) ?_
          obtain ⟨v4, hv4, hf⟩ := x_ob hf
          refine xr_getR (ci := 9) (k := 12) S G hv4 rfl kw_493 dX9_out_49 ?_
          refine lv_aload_n hx hb dX9_out_52 rfl (lv_at hl 0 rfl) ?_
          obtain ⟨v5, hv5, hf⟩ := x_ob hf
          refine xr_getR (ci := 9) (k := 10) S G hv5 rfl kw_491 dX9_out_53 ?_
          refine lv_iconst (v := (0 : Int32)) hx hb dX9_out_56 (by decide) ?_
          obtain ⟨d6, hd6, hf⟩ := x_ob hf
          obtain ⟨hqd6, hd6⟩ := xon_of hd6
          refine xr_callV (ci := 2) (As := [.ref (b + v5), .int (0 : Int32)]) (rest := []) (st1 := []) S G hl.1 (fun _ => rfl) (mt_X2_oneMinute l D cid b ex sa sv B0 sh v4 v5 (0 : Int32) d _ hd6) hqd6 (by decide) kw_914 kw_836 kw_837 kw_13 kw_838 hd_X2_oneMinute ⟨Nat.le_of_ble_eq_true rfl, Nat.le_of_ble_eq_true rfl⟩ rfl rfl rfl (Nat.le_of_ble_eq_true rfl) ⟨Nat.le_of_ble_eq_true rfl, Nat.le_of_ble_eq_true rfl⟩ dX9_out_57 (fun H locs G => ?_)
          refine lv_iinc (v := (x2 + 1)) (lv' := [(2, .int (x2 + 1)), (0, .ref (b + q0)), (1, .int x1)]) hx hb dX9_out_60 hl (k := 2) rfl rfl (by decide) rfl (fun ls hl => ?_)
          refine lv_goto (tgt := 26) hx hb dX9_out_63 (by decide) ?_
          exact hrec26 q0 x1 (x2 + 1) d6 hf _ _ ls (lv_sub hl [1, 2, 0] rfl) G
        · have hf := x_pos c hf
          exact K46 x2 d hf _ _ ls (lv_sub hl [2] rfl) G
  unfold f_X9_out at hf
  refine lv_aload_n hx hb dX9_out_0 rfl (lv_at hl 0 rfl) ?_
  obtain ⟨v7, hv7, hf⟩ := x_ob hf
  refine xr_getR (ci := 9) (k := 4) S G hv7 rfl kw_485 dX9_out_1 ?_
  refine lv_iload_n hx hb dX9_out_4 rfl (lv_at hl 1 rfl) ?_
  obtain ⟨z8, hz8, hf⟩ := x_ob hf
  obtain ⟨hqz8, hz8⟩ := xon_of hz8
  refine xr_callV (ci := 3) (As := [.int x1]) (rest := []) (st1 := [.int z8.1]) S G hl.1 (fun _ => rfl) (mt_X3_hasWalker l D cid b ex sa sv B0 sh v7 x1 d _ _ hz8) hqz8 (by decide) kw_758 kw_759 kw_760 kw_2 kw_761 hd_X3_hasWalker ⟨Nat.le_of_ble_eq_true rfl, Nat.le_of_ble_eq_true rfl⟩ rfl rfl rfl (Nat.le_of_ble_eq_true rfl) ⟨Nat.le_of_ble_eq_true rfl, Nat.le_of_ble_eq_true rfl⟩ dX9_out_5 (fun H locs G => ?_)
  refine lv_if_ne (tgt := 13) hx hb dX9_out_8 (by decide) (fun c => ?_) (fun c => ?_)
  · have hf := x_neg c hf
    refine lv_aload_n hx hb dX9_out_13 rfl (lv_at hl 0 rfl) ?_
    obtain ⟨v9, hv9, hf⟩ := x_ob hf
    refine xr_getR (ci := 9) (k := 10) S G hv9 rfl kw_491 dX9_out_14 ?_
    refine lv_aload_n hx hb dX9_out_17 rfl (lv_at hl 0 rfl) ?_
    obtain ⟨v10, hv10, hf⟩ := x_ob hf
    refine xr_getR (ci := 9) (k := 8) S G hv10 rfl kw_489 dX9_out_18 ?_
    obtain ⟨d11, hd11, hf⟩ := x_ob hf
    obtain ⟨hqd11, hd11⟩ := xon_of hd11
    refine xr_callV (ci := 4) (As := [.ref (b + v10)]) (rest := []) (st1 := []) S G hl.1 (fun _ => rfl) (mt_X4_become l D cid b ex sa sv B0 sh v9 v10 z8.2 _ hd11) hqd11 (by decide) kw_901 kw_902 kw_903 kw_12 kw_904 hd_X4_become ⟨Nat.le_of_ble_eq_true rfl, Nat.le_of_ble_eq_true rfl⟩ rfl rfl rfl (Nat.le_of_ble_eq_true rfl) ⟨Nat.le_of_ble_eq_true rfl, Nat.le_of_ble_eq_true rfl⟩ dX9_out_21 (fun H locs G => ?_)
    refine lv_iconst (v := (0 : Int32)) hx hb dX9_out_24 (by decide) ?_
    refine lv_istore_n (lv' := [(2, .int (0 : Int32)), (0, .ref (b + q0)), (1, .int x1)]) hx hb dX9_out_25 rfl hl (by decide) rfl (fun ls hl => ?_)
    exact K26 xF q0 x1 (0 : Int32) d11 hf _ _ ls (lv_sub hl [1, 2, 0] rfl) G
  · have hf := x_pos c hf
    refine lv_iconst (v := (-1 : Int32)) hx hb dX9_out_11 (by decide) ?_
    cases hf
    exact xr_iret S G (fun _ => rfl) hr dX9_out_12
-- HalfLandings.best(III)I
theorem dX9_best_0 : decode cX9_best 0 = .ok (.aload_n 0, 1) := by decide +kernel
theorem dX9_best_1 : decode cX9_best 1 = .ok (.getfield 28, 3) := by decide +kernel
theorem dX9_best_4 : decode cX9_best 4 = .ok (.iload_n 1, 1) := by decide +kernel
theorem dX9_best_5 : decode cX9_best 5 = .ok (.invokevirtual 121, 3) := by decide +kernel
theorem dX9_best_8 : decode cX9_best 8 = .ok (.ifCond .eq 23, 3) := by decide +kernel
theorem dX9_best_11 : decode cX9_best 11 = .ok (.aload_n 0, 1) := by decide +kernel
theorem dX9_best_12 : decode cX9_best 12 = .ok (.getfield 28, 3) := by decide +kernel
theorem dX9_best_15 : decode cX9_best 15 = .ok (.iload_n 2, 1) := by decide +kernel
theorem dX9_best_16 : decode cX9_best 16 = .ok (.invokevirtual 159, 3) := by decide +kernel
theorem dX9_best_19 : decode cX9_best 19 = .ok (.ifCond .eq 12, 3) := by decide +kernel
theorem dX9_best_22 : decode cX9_best 22 = .ok (.iload_n 3, 1) := by decide +kernel
theorem dX9_best_23 : decode cX9_best 23 = .ok (.ifCond .lt 8, 3) := by decide +kernel
theorem dX9_best_26 : decode cX9_best 26 = .ok (.iload_n 3, 1) := by decide +kernel
theorem dX9_best_27 : decode cX9_best 27 = .ok (.iconst 1, 1) := by decide +kernel
theorem dX9_best_28 : decode cX9_best 28 = .ok (.if_icmp .le 5, 3) := by decide +kernel
theorem dX9_best_31 : decode cX9_best 31 = .ok (.iconst (-1), 1) := by decide +kernel
theorem dX9_best_32 : decode cX9_best 32 = .ok (.ireturn, 1) := by decide +kernel
theorem dX9_best_33 : decode cX9_best 33 = .ok (.iconst (-1), 1) := by decide +kernel
theorem dX9_best_34 : decode cX9_best 34 = .ok (.istore 4, 2) := by decide +kernel
theorem dX9_best_36 : decode cX9_best 36 = .ok (.iconst 0, 1) := by decide +kernel
theorem dX9_best_37 : decode cX9_best 37 = .ok (.istore 5, 2) := by decide +kernel
theorem dX9_best_39 : decode cX9_best 39 = .ok (.iconst 0, 1) := by decide +kernel
theorem dX9_best_40 : decode cX9_best 40 = .ok (.istore 6, 2) := by decide +kernel
theorem dX9_best_42 : decode cX9_best 42 = .ok (.iload 6, 2) := by decide +kernel
theorem dX9_best_44 : decode cX9_best 44 = .ok (.bipush 30, 2) := by decide +kernel
theorem dX9_best_46 : decode cX9_best 46 = .ok (.if_icmp .gt 67, 3) := by decide +kernel
theorem dX9_best_49 : decode cX9_best 49 = .ok (.aload_n 0, 1) := by decide +kernel
theorem dX9_best_50 : decode cX9_best 50 = .ok (.getfield 63, 3) := by decide +kernel
theorem dX9_best_53 : decode cX9_best 53 = .ok (.aload_n 0, 1) := by decide +kernel
theorem dX9_best_54 : decode cX9_best 54 = .ok (.getfield 56, 3) := by decide +kernel
theorem dX9_best_57 : decode cX9_best 57 = .ok (.invokevirtual 233, 3) := by decide +kernel
theorem dX9_best_60 : decode cX9_best 60 = .ok (.iload 6, 2) := by decide +kernel
theorem dX9_best_62 : decode cX9_best 62 = .ok (.ifCond .le 14, 3) := by decide +kernel
theorem dX9_best_65 : decode cX9_best 65 = .ok (.aload_n 0, 1) := by decide +kernel
theorem dX9_best_66 : decode cX9_best 66 = .ok (.getfield 63, 3) := by decide +kernel
theorem dX9_best_69 : decode cX9_best 69 = .ok (.iload_n 1, 1) := by decide +kernel
theorem dX9_best_70 : decode cX9_best 70 = .ok (.iload_n 2, 1) := by decide +kernel
theorem dX9_best_71 : decode cX9_best 71 = .ok (.iload 6, 2) := by decide +kernel
theorem dX9_best_73 : decode cX9_best 73 = .ok (.invokevirtual 251, 3) := by decide +kernel
theorem dX9_best_76 : decode cX9_best 76 = .ok (.aload_n 0, 1) := by decide +kernel
theorem dX9_best_77 : decode cX9_best 77 = .ok (.getfield 75, 3) := by decide +kernel
theorem dX9_best_80 : decode cX9_best 80 = .ok (.aload_n 0, 1) := by decide +kernel
theorem dX9_best_81 : decode cX9_best 81 = .ok (.getfield 63, 3) := by decide +kernel
theorem dX9_best_84 : decode cX9_best 84 = .ok (.bipush 60, 2) := by decide +kernel
theorem dX9_best_86 : decode cX9_best 86 = .ok (.iconst 0, 1) := by decide +kernel
theorem dX9_best_87 : decode cX9_best 87 = .ok (.invokevirtual 229, 3) := by decide +kernel
theorem dX9_best_90 : decode cX9_best 90 = .ok (.istore 7, 2) := by decide +kernel
theorem dX9_best_92 : decode cX9_best 92 = .ok (.iload 7, 2) := by decide +kernel
theorem dX9_best_94 : decode cX9_best 94 = .ok (.iload 4, 2) := by decide +kernel
theorem dX9_best_96 : decode cX9_best 96 = .ok (.if_icmp .le 11, 3) := by decide +kernel
theorem dX9_best_99 : decode cX9_best 99 = .ok (.iload 7, 2) := by decide +kernel
theorem dX9_best_101 : decode cX9_best 101 = .ok (.istore 4, 2) := by decide +kernel
theorem dX9_best_103 : decode cX9_best 103 = .ok (.iload 6, 2) := by decide +kernel
theorem dX9_best_105 : decode cX9_best 105 = .ok (.istore 5, 2) := by decide +kernel
theorem dX9_best_107 : decode cX9_best 107 = .ok (.iinc 6 1, 3) := by decide +kernel
theorem dX9_best_110 : decode cX9_best 110 = .ok (.goto (-68), 3) := by decide +kernel
theorem dX9_best_113 : decode cX9_best 113 = .ok (.iload_n 3, 1) := by decide +kernel
theorem dX9_best_114 : decode cX9_best 114 = .ok (.ifCond .ne 8, 3) := by decide +kernel
theorem dX9_best_117 : decode cX9_best 117 = .ok (.iload 5, 2) := by decide +kernel
theorem dX9_best_119 : decode cX9_best 119 = .ok (.goto 5, 3) := by decide +kernel
theorem dX9_best_122 : decode cX9_best 122 = .ok (.iload 4, 2) := by decide +kernel
theorem dX9_best_124 : decode cX9_best 124 = .ok (.ireturn, 1) := by decide +kernel
theorem hd_X9_best : yX9_best.cls = xCn 9 ∧ yX9_best.cls ≠ "java/lang/invoke/MethodHandle" ∧ yX9_best.cls ≠ "java/lang/invoke/VarHandle" ∧ (parseMethodDescriptor yX9_best.desc).map (fun d => d.parameters.length) = some 3 := by decide +kernel
def k_X9_best_31 (sh : List xSh) (d : xD) : Option (Int32 × xD) :=
  some ((-1 : Int32), d)
def k_X9_best_124 (sh : List xSh) (y0 : Int32) (d : xD) : Option (Int32 × xD) :=
  some (y0, d)
def k_X9_best_113 (sh : List xSh) (x3 : Int32) (x4 : Int32) (x5 : Int32) (d : xD) : Option (Int32 × xD) :=
  if x3 = 0 then (k_X9_best_124 sh x5 d) else (k_X9_best_124 sh x4 d)
def k_X9_best_107 (sh : List xSh) (rec42 : Nat → Int32 → Int32 → Int32 → Int32 → Int32 → Int32 → xD → Option (Int32 × xD)) (q0 : Nat) (x1 : Int32) (x2 : Int32) (x3 : Int32) (x4 : Int32) (x5 : Int32) (x6 : Int32) (d : xD) : Option (Int32 × xD) :=
  rec42 q0 x1 x2 x3 x4 x5 (x6 + 1) d
def k_X9_best_76 (sh : List xSh) (rec42 : Nat → Int32 → Int32 → Int32 → Int32 → Int32 → Int32 → xD → Option (Int32 × xD)) (q0 : Nat) (x1 : Int32) (x2 : Int32) (x3 : Int32) (x4 : Int32) (x5 : Int32) (x6 : Int32) (d : xD) : Option (Int32 × xD) :=
  (xgR 9 sh d q0 12).bind fun v1 => (xgR 9 sh d q0 10).bind fun v2 => (xon 2 sh v1 (f_X2_talkMore sh v1 v2 (60 : Int32) (0 : Int32) d)).bind fun z3 => if z3.1 ≤ x4 then (k_X9_best_107 sh rec42 q0 x1 x2 x3 x4 x5 x6 z3.2) else (k_X9_best_107 sh rec42 q0 x1 x2 x3 z3.1 x6 x6 z3.2)
def b_X9_best_42 (sh : List xSh) (rec42 : Nat → Int32 → Int32 → Int32 → Int32 → Int32 → Int32 → xD → Option (Int32 × xD)) (q0 : Nat) (x1 : Int32) (x2 : Int32) (x3 : Int32) (x4 : Int32) (x5 : Int32) (x6 : Int32) (d : xD) : Option (Int32 × xD) :=
  if (30 : Int32) < x6 then (k_X9_best_113 sh x3 x4 x5 d) else ((xgR 9 sh d q0 10).bind fun v4 => (xgR 9 sh d q0 8).bind fun v5 => (xon 4 sh v4 (f_X4_become sh v4 v5 d)).bind fun d6 => if x6 ≤ 0 then (k_X9_best_76 sh rec42 q0 x1 x2 x3 x4 x5 x6 d6) else ((xgR 9 sh d6 q0 10).bind fun v7 => (xon 4 sh v7 (f_X4_addRest sh v7 x1 x2 x6 d6)).bind fun d8 => k_X9_best_76 sh rec42 q0 x1 x2 x3 x4 x5 x6 d8))
def f_X9_best (sh : List xSh) (q0 : Nat) (x1 : Int32) (x2 : Int32) (x3 : Int32) (d : xD) : Option (Int32 × xD) :=
  (xgR 9 sh d q0 4).bind fun v9 => (xon 3 sh v9 (f_X3_hasWalker sh v9 x1 d)).bind fun z10 => if z10.1 = 0 then (k_X9_best_31 sh z10.2) else ((xgR 9 sh z10.2 q0 4).bind fun v11 => (xon 3 sh v11 (f_X3_hasBench sh v11 x2 z10.2)).bind fun z12 => if z12.1 = 0 then (k_X9_best_31 sh z12.2) else (if x3 < 0 then (k_X9_best_31 sh z12.2) else (if x3 ≤ (1 : Int32) then (xloop (fun _ _ _ _ _ _ _ _ => none) (b_X9_best_42 sh) xF q0 x1 x2 x3 (-1 : Int32) (0 : Int32) (0 : Int32) z12.2) else (k_X9_best_31 sh z12.2))))
set_option maxHeartbeats 4000000 in
set_option maxRecDepth 100000 in
theorem mt_X9_best (l : Launch) (D : va_G) (cid : FieldType → ClassId) (b : Nat) (ex : Bool) (sa sv B0 : Nat) (sh : List xSh) (q0 : Nat) (x1 : Int32) (x2 : Int32) (x3 : Int32) (d : xD) (r : Int32) (dz : xD) (hf : f_X9_best sh q0 x1 x2 x3 d = some (r, dz)) : xMet l yX9_best cX9_best 8 (some .int) 7 0 0 D cid b ex sa sv B0 [.ref (b + q0), .int x1, .int x2, .int x3] sh d (some (.int r)) sh dz := by
  refine xMet.of (by decide) (Nat.le_of_ble_eq_true rfl) ?_
  intro p e s m below meth c ls A S hr hin G hl
  have hl : lv_has ls 8 [(0, .ref (b + q0)), (1, .int x1), (2, .int x2), (3, .int x3)] := hl
  generalize ([.ref (b + q0), .int x1, .int x2, .int x3] : List Value).toArray = av at S ⊢
  have hx := S.1
  have hb := S.2.1
  have hml := S.2.2.1
  have hown := S.2.2.2.1
  have hts := S.2.2.2.2.1
  have K31 : ∀ (d : xD), k_X9_best_31 sh d = some (r, dz) → ∀ (H : Heap) (locs : List Loc) (ls : Array Slot), lv_has ls 8 [] → xG D cid b A sh d s H locs → W p l e (xRm 7 0 0) s m av below meth c H locs 0 0 (MQ below (xQ D cid b ex A (some (.int r)) sh dz) av s 0 0 A) (F0 m 31 ls []) := by
    intro d hf H locs ls hl G
    unfold k_X9_best_31 at hf
    refine lv_iconst (v := (-1 : Int32)) hx hb dX9_best_31 (by decide) ?_
    cases hf
    exact xr_iret S G (fun _ => rfl) hr dX9_best_32
  have K124 : ∀ (y0 : Int32) (d : xD), k_X9_best_124 sh y0 d = some (r, dz) → ∀ (H : Heap) (locs : List Loc) (ls : Array Slot), lv_has ls 8 [] → xG D cid b A sh d s H locs → W p l e (xRm 7 0 0) s m av below meth c H locs 0 0 (MQ below (xQ D cid b ex A (some (.int r)) sh dz) av s 0 0 A) (F0 m 124 ls [.int y0]) := by
    intro y0 d hf H locs ls hl G
    unfold k_X9_best_124 at hf
    cases hf
    exact xr_iret S G (fun _ => rfl) hr dX9_best_124
  have K113 : ∀ (x3 : Int32) (x4 : Int32) (x5 : Int32) (d : xD), k_X9_best_113 sh x3 x4 x5 d = some (r, dz) → ∀ (H : Heap) (locs : List Loc) (ls : Array Slot), lv_has ls 8 [(3, .int x3), (4, .int x4), (5, .int x5)] → xG D cid b A sh d s H locs → W p l e (xRm 7 0 0) s m av below meth c H locs 0 0 (MQ below (xQ D cid b ex A (some (.int r)) sh dz) av s 0 0 A) (F0 m 113 ls []) := by
    intro x3 x4 x5 d hf H locs ls hl G
    unfold k_X9_best_113 at hf
    refine lv_iload_n hx hb dX9_best_113 rfl (lv_at hl 0 rfl) ?_
    refine lv_if_ne (tgt := 122) hx hb dX9_best_114 (by decide) (fun c => ?_) (fun c => ?_)
    · have hf := x_neg c hf
      refine lv_iload hx hb dX9_best_122 (lv_at hl 1 rfl) ?_
      exact K124 x4 d hf _ _ ls (lv_sub hl [] rfl) G
    · have hf := x_pos c hf
      refine lv_iload hx hb dX9_best_117 (lv_at hl 2 rfl) ?_
      refine lv_goto (tgt := 124) hx hb dX9_best_119 (by decide) ?_
      exact K124 x5 d hf _ _ ls (lv_sub hl [] rfl) G
  have K107 : ∀ (rec42 : Nat → Int32 → Int32 → Int32 → Int32 → Int32 → Int32 → xD → Option (Int32 × xD)) (hrec42 : ∀ (q0 : Nat) (x1 : Int32) (x2 : Int32) (x3 : Int32) (x4 : Int32) (x5 : Int32) (x6 : Int32) (d : xD), rec42 q0 x1 x2 x3 x4 x5 x6 d = some (r, dz) → ∀ (H : Heap) (locs : List Loc) (ls : Array Slot), lv_has ls 8 [(0, .ref (b + q0)), (1, .int x1), (2, .int x2), (3, .int x3), (4, .int x4), (5, .int x5), (6, .int x6)] → xG D cid b A sh d s H locs → W p l e (xRm 7 0 0) s m av below meth c H locs 0 0 (MQ below (xQ D cid b ex A (some (.int r)) sh dz) av s 0 0 A) (F0 m 42 ls [])) (q0 : Nat) (x1 : Int32) (x2 : Int32) (x3 : Int32) (x4 : Int32) (x5 : Int32) (x6 : Int32) (d : xD), k_X9_best_107 sh rec42 q0 x1 x2 x3 x4 x5 x6 d = some (r, dz) → ∀ (H : Heap) (locs : List Loc) (ls : Array Slot), lv_has ls 8 [(0, .ref (b + q0)), (1, .int x1), (2, .int x2), (3, .int x3), (4, .int x4), (5, .int x5), (6, .int x6)] → xG D cid b A sh d s H locs → W p l e (xRm 7 0 0) s m av below meth c H locs 0 0 (MQ below (xQ D cid b ex A (some (.int r)) sh dz) av s 0 0 A) (F0 m 107 ls []) := by
    intro rec42 hrec42 q0 x1 x2 x3 x4 x5 x6 d hf H locs ls hl G
    unfold k_X9_best_107 at hf
    refine lv_iinc (v := (x6 + 1)) (lv' := [(6, .int (x6 + 1)), (0, .ref (b + q0)), (1, .int x1), (2, .int x2), (3, .int x3), (4, .int x4), (5, .int x5)]) hx hb dX9_best_107 hl (k := 6) rfl rfl (by decide) rfl (fun ls hl => ?_)
    refine lv_goto (tgt := 42) hx hb dX9_best_110 (by decide) ?_
    exact hrec42 q0 x1 x2 x3 x4 x5 (x6 + 1) d hf _ _ ls (lv_sub hl [1, 2, 3, 4, 5, 6, 0] rfl) G
  have K76 : ∀ (rec42 : Nat → Int32 → Int32 → Int32 → Int32 → Int32 → Int32 → xD → Option (Int32 × xD)) (hrec42 : ∀ (q0 : Nat) (x1 : Int32) (x2 : Int32) (x3 : Int32) (x4 : Int32) (x5 : Int32) (x6 : Int32) (d : xD), rec42 q0 x1 x2 x3 x4 x5 x6 d = some (r, dz) → ∀ (H : Heap) (locs : List Loc) (ls : Array Slot), lv_has ls 8 [(0, .ref (b + q0)), (1, .int x1), (2, .int x2), (3, .int x3), (4, .int x4), (5, .int x5), (6, .int x6)] → xG D cid b A sh d s H locs → W p l e (xRm 7 0 0) s m av below meth c H locs 0 0 (MQ below (xQ D cid b ex A (some (.int r)) sh dz) av s 0 0 A) (F0 m 42 ls [])) (q0 : Nat) (x1 : Int32) (x2 : Int32) (x3 : Int32) (x4 : Int32) (x5 : Int32) (x6 : Int32) (d : xD), k_X9_best_76 sh rec42 q0 x1 x2 x3 x4 x5 x6 d = some (r, dz) → ∀ (H : Heap) (locs : List Loc) (ls : Array Slot), lv_has ls 8 [(0, .ref (b + q0)), (1, .int x1), (2, .int x2), (3, .int x3), (4, .int x4), (5, .int x5), (6, .int x6)] → xG D cid b A sh d s H locs → W p l e (xRm 7 0 0) s m av below meth c H locs 0 0 (MQ below (xQ D cid b ex A (some (.int r)) sh dz) av s 0 0 A) (F0 m 76 ls []) := by
    intro rec42 hrec42 q0 x1 x2 x3 x4 x5 x6 d hf H locs ls hl G
    unfold k_X9_best_76 at hf
    refine lv_aload_n hx hb dX9_best_76 rfl (lv_at hl 0 rfl) ?_
    obtain ⟨v1, hv1, hf⟩ := x_ob hf
    refine xr_getR (ci := 9) (k := 12) S G hv1 rfl kw_493 dX9_best_77 ?_
    refine lv_aload_n hx hb dX9_best_80 rfl (lv_at hl 0 rfl) ?_
    obtain ⟨v2, hv2, hf⟩ := x_ob hf
    refine xr_getR (ci := 9) (k := 10) S G hv2 rfl kw_491 dX9_best_81 ?_
    refine lv_bipush (v := (60 : Int32)) hx hb dX9_best_84 (by decide) ?_
    refine lv_iconst (v := (0 : Int32)) hx hb dX9_best_86 (by decide) ?_
    obtain ⟨z3, hz3, hf⟩ := x_ob hf
    obtain ⟨hqz3, hz3⟩ := xon_of hz3
    refine xr_callV (ci := 2) (As := [.ref (b + v2), .int (60 : Int32), .int (0 : Int32)]) (rest := []) (st1 := [.int z3.1]) S G hl.1 (fun _ => rfl) (mt_X2_talkMore l D cid b ex sa sv B0 sh v1 v2 (60 : Int32) (0 : Int32) d _ _ hz3) hqz3 (by decide) kw_831 kw_832 kw_833 kw_13 kw_834 hd_X2_talkMore ⟨Nat.le_of_ble_eq_true rfl, Nat.le_of_ble_eq_true rfl⟩ rfl rfl rfl (Nat.le_of_ble_eq_true rfl) ⟨Nat.le_of_ble_eq_true rfl, Nat.le_of_ble_eq_true rfl⟩ dX9_best_87 (fun H locs G => ?_)
    refine lv_istore (lv' := [(7, .int z3.1), (0, .ref (b + q0)), (1, .int x1), (2, .int x2), (3, .int x3), (4, .int x4), (5, .int x5), (6, .int x6)]) hx hb dX9_best_90 hl (by decide) rfl (fun ls hl => ?_)
    refine lv_iload hx hb dX9_best_92 (lv_at hl 0 rfl) ?_
    refine lv_iload hx hb dX9_best_94 (lv_at hl 5 rfl) ?_
    refine lv_icmp_le (tgt := 107) hx hb dX9_best_96 (by decide) (fun c => ?_) (fun c => ?_)
    · have hf := x_pos c hf
      exact K107 _ hrec42 q0 x1 x2 x3 x4 x5 x6 z3.2 hf _ _ ls (lv_sub hl [1, 2, 3, 4, 5, 6, 7] rfl) G
    · have hf := x_neg c hf
      refine lv_iload hx hb dX9_best_99 (lv_at hl 0 rfl) ?_
      refine lv_istore (lv' := [(4, .int z3.1), (7, .int z3.1), (0, .ref (b + q0)), (1, .int x1), (2, .int x2), (3, .int x3), (5, .int x5), (6, .int x6)]) hx hb dX9_best_101 hl (by decide) rfl (fun ls hl => ?_)
      refine lv_iload hx hb dX9_best_103 (lv_at hl 7 rfl) ?_
      refine lv_istore (lv' := [(5, .int x6), (4, .int z3.1), (7, .int z3.1), (0, .ref (b + q0)), (1, .int x1), (2, .int x2), (3, .int x3), (6, .int x6)]) hx hb dX9_best_105 hl (by decide) rfl (fun ls hl => ?_)
      exact K107 _ hrec42 q0 x1 x2 x3 z3.1 x6 x6 z3.2 hf _ _ ls (lv_sub hl [3, 4, 5, 6, 1, 0, 7] rfl) G
  have K42 : ∀ (n : Nat) (q0 : Nat) (x1 : Int32) (x2 : Int32) (x3 : Int32) (x4 : Int32) (x5 : Int32) (x6 : Int32) (d : xD), xloop (fun _ _ _ _ _ _ _ _ => none) (b_X9_best_42 sh) n q0 x1 x2 x3 x4 x5 x6 d = some (r, dz) → ∀ (H : Heap) (locs : List Loc) (ls : Array Slot), lv_has ls 8 [(0, .ref (b + q0)), (1, .int x1), (2, .int x2), (3, .int x3), (4, .int x4), (5, .int x5), (6, .int x6)] → xG D cid b A sh d s H locs → W p l e (xRm 7 0 0) s m av below meth c H locs 0 0 (MQ below (xQ D cid b ex A (some (.int r)) sh dz) av s 0 0 A) (F0 m 42 ls []) := by
    intro n
    induction n with
    | zero =>
      intro q0 x1 x2 x3 x4 x5 x6 d hf
      have hf : (none : Option (Int32 × xD)) = some (r, dz) := hf
      cases hf
    | succ n hrec42 =>
      intro q0 x1 x2 x3 x4 x5 x6 d hf H locs ls hl G
      have hf : b_X9_best_42 sh (xloop (fun _ _ _ _ _ _ _ _ => none) (b_X9_best_42 sh) n) q0 x1 x2 x3 x4 x5 x6 d = some (r, dz) := hf
      unfold b_X9_best_42 at hf
      refine lv_iload hx hb dX9_best_42 (lv_at hl 6 rfl) ?_
      refine lv_bipush (v := (30 : Int32)) hx hb dX9_best_44 (by decide) ?_
      refine lv_icmp_gt (tgt := 113) hx hb dX9_best_46 (by decide) (fun c => ?_) (fun c => ?_)
      · have hf := x_pos c hf
        exact K113 x3 x4 x5 d hf _ _ ls (lv_sub hl [3, 4, 5] rfl) G
      · have hf := x_neg c hf
        refine lv_aload_n hx hb dX9_best_49 rfl (lv_at hl 0 rfl) ?_
        obtain ⟨v4, hv4, hf⟩ := x_ob hf
        refine xr_getR (ci := 9) (k := 10) S G hv4 rfl kw_491 dX9_best_50 ?_
        refine lv_aload_n hx hb dX9_best_53 rfl (lv_at hl 0 rfl) ?_
        obtain ⟨v5, hv5, hf⟩ := x_ob hf
        refine xr_getR (ci := 9) (k := 8) S G hv5 rfl kw_489 dX9_best_54 ?_
        obtain ⟨d6, hd6, hf⟩ := x_ob hf
        obtain ⟨hqd6, hd6⟩ := xon_of hd6
        refine xr_callV (ci := 4) (As := [.ref (b + v5)]) (rest := []) (st1 := []) S G hl.1 (fun _ => rfl) (mt_X4_become l D cid b ex sa sv B0 sh v4 v5 d _ hd6) hqd6 (by decide) kw_901 kw_902 kw_903 kw_12 kw_904 hd_X4_become ⟨Nat.le_of_ble_eq_true rfl, Nat.le_of_ble_eq_true rfl⟩ rfl rfl rfl (Nat.le_of_ble_eq_true rfl) ⟨Nat.le_of_ble_eq_true rfl, Nat.le_of_ble_eq_true rfl⟩ dX9_best_57 (fun H locs G => ?_)
        refine lv_iload hx hb dX9_best_60 (lv_at hl 6 rfl) ?_
        refine lv_if_le (tgt := 76) hx hb dX9_best_62 (by decide) (fun c => ?_) (fun c => ?_)
        · have hf := x_pos c hf
          exact K76 _ hrec42 q0 x1 x2 x3 x4 x5 x6 d6 hf _ _ ls (lv_sub hl [0, 1, 2, 3, 4, 5, 6] rfl) G
        · have hf := x_neg c hf
          refine lv_aload_n hx hb dX9_best_65 rfl (lv_at hl 0 rfl) ?_
          obtain ⟨v7, hv7, hf⟩ := x_ob hf
          refine xr_getR (ci := 9) (k := 10) S G hv7 rfl kw_491 dX9_best_66 ?_
          refine lv_iload_n hx hb dX9_best_69 rfl (lv_at hl 1 rfl) ?_
          refine lv_iload_n hx hb dX9_best_70 rfl (lv_at hl 2 rfl) ?_
          refine lv_iload hx hb dX9_best_71 (lv_at hl 6 rfl) ?_
          obtain ⟨d8, hd8, hf⟩ := x_ob hf
          obtain ⟨hqd8, hd8⟩ := xon_of hd8
          refine xr_callV (ci := 4) (As := [.int x1, .int x2, .int x6]) (rest := []) (st1 := []) S G hl.1 (fun _ => rfl) (mt_X4_addRest l D cid b ex sa sv B0 sh v7 x1 x2 x6 d6 _ hd8) hqd8 (by decide) kw_934 kw_478 kw_479 kw_12 kw_480 hd_X4_addRest ⟨Nat.le_of_ble_eq_true rfl, Nat.le_of_ble_eq_true rfl⟩ rfl rfl rfl (Nat.le_of_ble_eq_true rfl) ⟨Nat.le_of_ble_eq_true rfl, Nat.le_of_ble_eq_true rfl⟩ dX9_best_73 (fun H locs G => ?_)
          exact K76 _ hrec42 q0 x1 x2 x3 x4 x5 x6 d8 hf _ _ ls (lv_sub hl [0, 1, 2, 3, 4, 5, 6] rfl) G
  unfold f_X9_best at hf
  refine lv_aload_n hx hb dX9_best_0 rfl (lv_at hl 0 rfl) ?_
  obtain ⟨v9, hv9, hf⟩ := x_ob hf
  refine xr_getR (ci := 9) (k := 4) S G hv9 rfl kw_485 dX9_best_1 ?_
  refine lv_iload_n hx hb dX9_best_4 rfl (lv_at hl 1 rfl) ?_
  obtain ⟨z10, hz10, hf⟩ := x_ob hf
  obtain ⟨hqz10, hz10⟩ := xon_of hz10
  refine xr_callV (ci := 3) (As := [.int x1]) (rest := []) (st1 := [.int z10.1]) S G hl.1 (fun _ => rfl) (mt_X3_hasWalker l D cid b ex sa sv B0 sh v9 x1 d _ _ hz10) hqz10 (by decide) kw_758 kw_759 kw_760 kw_2 kw_761 hd_X3_hasWalker ⟨Nat.le_of_ble_eq_true rfl, Nat.le_of_ble_eq_true rfl⟩ rfl rfl rfl (Nat.le_of_ble_eq_true rfl) ⟨Nat.le_of_ble_eq_true rfl, Nat.le_of_ble_eq_true rfl⟩ dX9_best_5 (fun H locs G => ?_)
  refine lv_if_eq (tgt := 31) hx hb dX9_best_8 (by decide) (fun c => ?_) (fun c => ?_)
  · have hf := x_pos c hf
    exact K31 z10.2 hf _ _ ls (lv_sub hl [] rfl) G
  · have hf := x_neg c hf
    refine lv_aload_n hx hb dX9_best_11 rfl (lv_at hl 0 rfl) ?_
    obtain ⟨v11, hv11, hf⟩ := x_ob hf
    refine xr_getR (ci := 9) (k := 4) S G hv11 rfl kw_485 dX9_best_12 ?_
    refine lv_iload_n hx hb dX9_best_15 rfl (lv_at hl 2 rfl) ?_
    obtain ⟨z12, hz12, hf⟩ := x_ob hf
    obtain ⟨hqz12, hz12⟩ := xon_of hz12
    refine xr_callV (ci := 3) (As := [.int x2]) (rest := []) (st1 := [.int z12.1]) S G hl.1 (fun _ => rfl) (mt_X3_hasBench l D cid b ex sa sv B0 sh v11 x2 z10.2 _ _ hz12) hqz12 (by decide) kw_732 kw_733 kw_734 kw_2 kw_735 hd_X3_hasBench ⟨Nat.le_of_ble_eq_true rfl, Nat.le_of_ble_eq_true rfl⟩ rfl rfl rfl (Nat.le_of_ble_eq_true rfl) ⟨Nat.le_of_ble_eq_true rfl, Nat.le_of_ble_eq_true rfl⟩ dX9_best_16 (fun H locs G => ?_)
    refine lv_if_eq (tgt := 31) hx hb dX9_best_19 (by decide) (fun c => ?_) (fun c => ?_)
    · have hf := x_pos c hf
      exact K31 z12.2 hf _ _ ls (lv_sub hl [] rfl) G
    · have hf := x_neg c hf
      refine lv_iload_n hx hb dX9_best_22 rfl (lv_at hl 3 rfl) ?_
      refine lv_if_lt (tgt := 31) hx hb dX9_best_23 (by decide) (fun c => ?_) (fun c => ?_)
      · have hf := x_pos c hf
        exact K31 z12.2 hf _ _ ls (lv_sub hl [] rfl) G
      · have hf := x_neg c hf
        refine lv_iload_n hx hb dX9_best_26 rfl (lv_at hl 3 rfl) ?_
        refine lv_iconst (v := (1 : Int32)) hx hb dX9_best_27 (by decide) ?_
        refine lv_icmp_le (tgt := 33) hx hb dX9_best_28 (by decide) (fun c => ?_) (fun c => ?_)
        · have hf := x_pos c hf
          refine lv_iconst (v := (-1 : Int32)) hx hb dX9_best_33 (by decide) ?_
          refine lv_istore (lv' := [(4, .int (-1 : Int32)), (0, .ref (b + q0)), (1, .int x1), (2, .int x2), (3, .int x3)]) hx hb dX9_best_34 hl (by decide) rfl (fun ls hl => ?_)
          refine lv_iconst (v := (0 : Int32)) hx hb dX9_best_36 (by decide) ?_
          refine lv_istore (lv' := [(5, .int (0 : Int32)), (4, .int (-1 : Int32)), (0, .ref (b + q0)), (1, .int x1), (2, .int x2), (3, .int x3)]) hx hb dX9_best_37 hl (by decide) rfl (fun ls hl => ?_)
          refine lv_iconst (v := (0 : Int32)) hx hb dX9_best_39 (by decide) ?_
          refine lv_istore (lv' := [(6, .int (0 : Int32)), (5, .int (0 : Int32)), (4, .int (-1 : Int32)), (0, .ref (b + q0)), (1, .int x1), (2, .int x2), (3, .int x3)]) hx hb dX9_best_40 hl (by decide) rfl (fun ls hl => ?_)
          exact K42 xF q0 x1 x2 x3 (-1 : Int32) (0 : Int32) (0 : Int32) z12.2 hf _ _ ls (lv_sub hl [3, 4, 5, 6, 2, 1, 0] rfl) G
        · have hf := x_neg c hf
          exact K31 z12.2 hf _ _ ls (lv_sub hl [] rfl) G
-- HalfLandings.noStretchBeyond(II)Z
theorem dX9_noStretchBeyond_0 : decode cX9_noStretchBeyond 0 = .ok (.iconst 0, 1) := by decide +kernel
theorem dX9_noStretchBeyond_1 : decode cX9_noStretchBeyond 1 = .ok (.istore_n 3, 1) := by decide +kernel
theorem dX9_noStretchBeyond_2 : decode cX9_noStretchBeyond 2 = .ok (.iconst 1, 1) := by decide +kernel
theorem dX9_noStretchBeyond_3 : decode cX9_noStretchBeyond 3 = .ok (.istore 4, 2) := by decide +kernel
theorem dX9_noStretchBeyond_5 : decode cX9_noStretchBeyond 5 = .ok (.iload 4, 2) := by decide +kernel
theorem dX9_noStretchBeyond_7 : decode cX9_noStretchBeyond 7 = .ok (.aload_n 0, 1) := by decide +kernel
theorem dX9_noStretchBeyond_8 : decode cX9_noStretchBeyond 8 = .ok (.getfield 28, 3) := by decide +kernel
theorem dX9_noStretchBeyond_11 : decode cX9_noStretchBeyond 11 = .ok (.getfield 220, 3) := by decide +kernel
theorem dX9_noStretchBeyond_14 : decode cX9_noStretchBeyond 14 = .ok (.if_icmp .gt 61, 3) := by decide +kernel
theorem dX9_noStretchBeyond_17 : decode cX9_noStretchBeyond 17 = .ok (.aload_n 0, 1) := by decide +kernel
theorem dX9_noStretchBeyond_18 : decode cX9_noStretchBeyond 18 = .ok (.getfield 28, 3) := by decide +kernel
theorem dX9_noStretchBeyond_21 : decode cX9_noStretchBeyond 21 = .ok (.iload 4, 2) := by decide +kernel
theorem dX9_noStretchBeyond_23 : decode cX9_noStretchBeyond 23 = .ok (.invokevirtual 203, 3) := by decide +kernel
theorem dX9_noStretchBeyond_26 : decode cX9_noStretchBeyond 26 = .ok (.istore 5, 2) := by decide +kernel
theorem dX9_noStretchBeyond_28 : decode cX9_noStretchBeyond 28 = .ok (.iload 4, 2) := by decide +kernel
theorem dX9_noStretchBeyond_30 : decode cX9_noStretchBeyond 30 = .ok (.aload_n 0, 1) := by decide +kernel
theorem dX9_noStretchBeyond_31 : decode cX9_noStretchBeyond 31 = .ok (.getfield 28, 3) := by decide +kernel
theorem dX9_noStretchBeyond_34 : decode cX9_noStretchBeyond 34 = .ok (.getfield 220, 3) := by decide +kernel
theorem dX9_noStretchBeyond_37 : decode cX9_noStretchBeyond 37 = .ok (.if_icmp .eq 19, 3) := by decide +kernel
theorem dX9_noStretchBeyond_40 : decode cX9_noStretchBeyond 40 = .ok (.iload 5, 2) := by decide +kernel
theorem dX9_noStretchBeyond_42 : decode cX9_noStretchBeyond 42 = .ok (.iconst (-1), 1) := by decide +kernel
theorem dX9_noStretchBeyond_43 : decode cX9_noStretchBeyond 43 = .ok (.if_icmp .eq 26, 3) := by decide +kernel
theorem dX9_noStretchBeyond_46 : decode cX9_noStretchBeyond 46 = .ok (.iload_n 2, 1) := by decide +kernel
theorem dX9_noStretchBeyond_47 : decode cX9_noStretchBeyond 47 = .ok (.iload 5, 2) := by decide +kernel
theorem dX9_noStretchBeyond_49 : decode cX9_noStretchBeyond 49 = .ok (.ishr, 1) := by decide +kernel
theorem dX9_noStretchBeyond_50 : decode cX9_noStretchBeyond 50 = .ok (.iconst 1, 1) := by decide +kernel
theorem dX9_noStretchBeyond_51 : decode cX9_noStretchBeyond 51 = .ok (.iand, 1) := by decide +kernel
theorem dX9_noStretchBeyond_52 : decode cX9_noStretchBeyond 52 = .ok (.iconst 1, 1) := by decide +kernel
theorem dX9_noStretchBeyond_53 : decode cX9_noStretchBeyond 53 = .ok (.if_icmp .ne 16, 3) := by decide +kernel
theorem dX9_noStretchBeyond_56 : decode cX9_noStretchBeyond 56 = .ok (.iload 4, 2) := by decide +kernel
theorem dX9_noStretchBeyond_58 : decode cX9_noStretchBeyond 58 = .ok (.iload_n 3, 1) := by decide +kernel
theorem dX9_noStretchBeyond_59 : decode cX9_noStretchBeyond 59 = .ok (.isub, 1) := by decide +kernel
theorem dX9_noStretchBeyond_60 : decode cX9_noStretchBeyond 60 = .ok (.iload_n 1, 1) := by decide +kernel
theorem dX9_noStretchBeyond_61 : decode cX9_noStretchBeyond 61 = .ok (.if_icmp .le 5, 3) := by decide +kernel
theorem dX9_noStretchBeyond_64 : decode cX9_noStretchBeyond 64 = .ok (.iconst 0, 1) := by decide +kernel
theorem dX9_noStretchBeyond_65 : decode cX9_noStretchBeyond 65 = .ok (.ireturn, 1) := by decide +kernel
theorem dX9_noStretchBeyond_66 : decode cX9_noStretchBeyond 66 = .ok (.iload 4, 2) := by decide +kernel
theorem dX9_noStretchBeyond_68 : decode cX9_noStretchBeyond 68 = .ok (.istore_n 3, 1) := by decide +kernel
theorem dX9_noStretchBeyond_69 : decode cX9_noStretchBeyond 69 = .ok (.iinc 4 1, 3) := by decide +kernel
theorem dX9_noStretchBeyond_72 : decode cX9_noStretchBeyond 72 = .ok (.goto (-67), 3) := by decide +kernel
theorem dX9_noStretchBeyond_75 : decode cX9_noStretchBeyond 75 = .ok (.iconst 1, 1) := by decide +kernel
theorem dX9_noStretchBeyond_76 : decode cX9_noStretchBeyond 76 = .ok (.ireturn, 1) := by decide +kernel
theorem hd_X9_noStretchBeyond : yX9_noStretchBeyond.cls = xCn 9 ∧ yX9_noStretchBeyond.cls ≠ "java/lang/invoke/MethodHandle" ∧ yX9_noStretchBeyond.cls ≠ "java/lang/invoke/VarHandle" ∧ (parseMethodDescriptor yX9_noStretchBeyond.desc).map (fun d => d.parameters.length) = some 2 := by decide +kernel
def k_X9_noStretchBeyond_75 (sh : List xSh) (d : xD) : Option (Int32 × xD) :=
  some ((1 : Int32), d)
def k_X9_noStretchBeyond_69 (sh : List xSh) (rec5 : Nat → Int32 → Int32 → Int32 → Int32 → xD → Option (Int32 × xD)) (q0 : Nat) (x1 : Int32) (x2 : Int32) (x3 : Int32) (x4 : Int32) (d : xD) : Option (Int32 × xD) :=
  rec5 q0 x1 x2 x3 (x4 + 1) d
def k_X9_noStretchBeyond_64 (sh : List xSh) (d : xD) : Option (Int32 × xD) :=
  some ((0 : Int32), d)
def k_X9_noStretchBeyond_56 (sh : List xSh) (rec5 : Nat → Int32 → Int32 → Int32 → Int32 → xD → Option (Int32 × xD)) (q0 : Nat) (x1 : Int32) (x2 : Int32) (x3 : Int32) (x4 : Int32) (d : xD) : Option (Int32 × xD) :=
  if (x4 - x3) ≤ x1 then (k_X9_noStretchBeyond_69 sh rec5 q0 x1 x2 x4 x4 d) else (k_X9_noStretchBeyond_64 sh d)
def b_X9_noStretchBeyond_5 (sh : List xSh) (rec5 : Nat → Int32 → Int32 → Int32 → Int32 → xD → Option (Int32 × xD)) (q0 : Nat) (x1 : Int32) (x2 : Int32) (x3 : Int32) (x4 : Int32) (d : xD) : Option (Int32 × xD) :=
  (xgR 9 sh d q0 4).bind fun v1 => (xgI 3 sh d v1 0).bind fun v2 => if v2 < x4 then (k_X9_noStretchBeyond_75 sh d) else ((xgR 9 sh d q0 4).bind fun v3 => (xon 3 sh v3 (f_X3_benchOn sh v3 x4 d)).bind fun z4 => (xgR 9 sh z4.2 q0 4).bind fun v5 => (xgI 3 sh z4.2 v5 0).bind fun v6 => if x4 = v6 then (k_X9_noStretchBeyond_56 sh rec5 q0 x1 x2 x3 x4 z4.2) else (if z4.1 = (-1 : Int32) then (k_X9_noStretchBeyond_69 sh rec5 q0 x1 x2 x3 x4 z4.2) else (if ((x2 >>> (z4.1 &&& 31)) &&& (1 : Int32)) = (1 : Int32) then (k_X9_noStretchBeyond_56 sh rec5 q0 x1 x2 x3 x4 z4.2) else (k_X9_noStretchBeyond_69 sh rec5 q0 x1 x2 x3 x4 z4.2))))
def f_X9_noStretchBeyond (sh : List xSh) (q0 : Nat) (x1 : Int32) (x2 : Int32) (d : xD) : Option (Int32 × xD) :=
  xloop (fun _ _ _ _ _ _ => none) (b_X9_noStretchBeyond_5 sh) xF q0 x1 x2 (0 : Int32) (1 : Int32) d
set_option maxHeartbeats 4000000 in
set_option maxRecDepth 100000 in
theorem mt_X9_noStretchBeyond (l : Launch) (D : va_G) (cid : FieldType → ClassId) (b : Nat) (ex : Bool) (sa sv B0 : Nat) (sh : List xSh) (q0 : Nat) (x1 : Int32) (x2 : Int32) (d : xD) (r : Int32) (dz : xD) (hf : f_X9_noStretchBeyond sh q0 x1 x2 d = some (r, dz)) : xMet l yX9_noStretchBeyond cX9_noStretchBeyond 6 (some .boolean) 1 0 0 D cid b ex sa sv B0 [.ref (b + q0), .int x1, .int x2] sh d (some (.int r)) sh dz := by
  refine xMet.of (by decide) (Nat.le_of_ble_eq_true rfl) ?_
  intro p e s m below meth c ls A S hr hin G hl
  have hl : lv_has ls 6 [(0, .ref (b + q0)), (1, .int x1), (2, .int x2)] := hl
  generalize ([.ref (b + q0), .int x1, .int x2] : List Value).toArray = av at S ⊢
  have hx := S.1
  have hb := S.2.1
  have hml := S.2.2.1
  have hown := S.2.2.2.1
  have hts := S.2.2.2.2.1
  have K75 : ∀ (d : xD), k_X9_noStretchBeyond_75 sh d = some (r, dz) → ∀ (H : Heap) (locs : List Loc) (ls : Array Slot), lv_has ls 6 [] → xG D cid b A sh d s H locs → W p l e (xRm 1 0 0) s m av below meth c H locs 0 0 (MQ below (xQ D cid b ex A (some (.int r)) sh dz) av s 0 0 A) (F0 m 75 ls []) := by
    intro d hf H locs ls hl G
    unfold k_X9_noStretchBeyond_75 at hf
    refine lv_iconst (v := (1 : Int32)) hx hb dX9_noStretchBeyond_75 (by decide) ?_
    cases hf
    exact xr_zret S G (fun _ => rfl) hr (by decide) dX9_noStretchBeyond_76
  have K69 : ∀ (rec5 : Nat → Int32 → Int32 → Int32 → Int32 → xD → Option (Int32 × xD)) (hrec5 : ∀ (q0 : Nat) (x1 : Int32) (x2 : Int32) (x3 : Int32) (x4 : Int32) (d : xD), rec5 q0 x1 x2 x3 x4 d = some (r, dz) → ∀ (H : Heap) (locs : List Loc) (ls : Array Slot), lv_has ls 6 [(0, .ref (b + q0)), (1, .int x1), (2, .int x2), (3, .int x3), (4, .int x4)] → xG D cid b A sh d s H locs → W p l e (xRm 1 0 0) s m av below meth c H locs 0 0 (MQ below (xQ D cid b ex A (some (.int r)) sh dz) av s 0 0 A) (F0 m 5 ls [])) (q0 : Nat) (x1 : Int32) (x2 : Int32) (x3 : Int32) (x4 : Int32) (d : xD), k_X9_noStretchBeyond_69 sh rec5 q0 x1 x2 x3 x4 d = some (r, dz) → ∀ (H : Heap) (locs : List Loc) (ls : Array Slot), lv_has ls 6 [(0, .ref (b + q0)), (1, .int x1), (2, .int x2), (3, .int x3), (4, .int x4)] → xG D cid b A sh d s H locs → W p l e (xRm 1 0 0) s m av below meth c H locs 0 0 (MQ below (xQ D cid b ex A (some (.int r)) sh dz) av s 0 0 A) (F0 m 69 ls []) := by
    intro rec5 hrec5 q0 x1 x2 x3 x4 d hf H locs ls hl G
    unfold k_X9_noStretchBeyond_69 at hf
    refine lv_iinc (v := (x4 + 1)) (lv' := [(4, .int (x4 + 1)), (0, .ref (b + q0)), (1, .int x1), (2, .int x2), (3, .int x3)]) hx hb dX9_noStretchBeyond_69 hl (k := 4) rfl rfl (by decide) rfl (fun ls hl => ?_)
    refine lv_goto (tgt := 5) hx hb dX9_noStretchBeyond_72 (by decide) ?_
    exact hrec5 q0 x1 x2 x3 (x4 + 1) d hf _ _ ls (lv_sub hl [1, 2, 3, 4, 0] rfl) G
  have K64 : ∀ (d : xD), k_X9_noStretchBeyond_64 sh d = some (r, dz) → ∀ (H : Heap) (locs : List Loc) (ls : Array Slot), lv_has ls 6 [] → xG D cid b A sh d s H locs → W p l e (xRm 1 0 0) s m av below meth c H locs 0 0 (MQ below (xQ D cid b ex A (some (.int r)) sh dz) av s 0 0 A) (F0 m 64 ls []) := by
    intro d hf H locs ls hl G
    unfold k_X9_noStretchBeyond_64 at hf
    refine lv_iconst (v := (0 : Int32)) hx hb dX9_noStretchBeyond_64 (by decide) ?_
    cases hf
    exact xr_zret S G (fun _ => rfl) hr (by decide) dX9_noStretchBeyond_65
  have K56 : ∀ (rec5 : Nat → Int32 → Int32 → Int32 → Int32 → xD → Option (Int32 × xD)) (hrec5 : ∀ (q0 : Nat) (x1 : Int32) (x2 : Int32) (x3 : Int32) (x4 : Int32) (d : xD), rec5 q0 x1 x2 x3 x4 d = some (r, dz) → ∀ (H : Heap) (locs : List Loc) (ls : Array Slot), lv_has ls 6 [(0, .ref (b + q0)), (1, .int x1), (2, .int x2), (3, .int x3), (4, .int x4)] → xG D cid b A sh d s H locs → W p l e (xRm 1 0 0) s m av below meth c H locs 0 0 (MQ below (xQ D cid b ex A (some (.int r)) sh dz) av s 0 0 A) (F0 m 5 ls [])) (q0 : Nat) (x1 : Int32) (x2 : Int32) (x3 : Int32) (x4 : Int32) (d : xD), k_X9_noStretchBeyond_56 sh rec5 q0 x1 x2 x3 x4 d = some (r, dz) → ∀ (H : Heap) (locs : List Loc) (ls : Array Slot), lv_has ls 6 [(0, .ref (b + q0)), (1, .int x1), (2, .int x2), (3, .int x3), (4, .int x4)] → xG D cid b A sh d s H locs → W p l e (xRm 1 0 0) s m av below meth c H locs 0 0 (MQ below (xQ D cid b ex A (some (.int r)) sh dz) av s 0 0 A) (F0 m 56 ls []) := by
    intro rec5 hrec5 q0 x1 x2 x3 x4 d hf H locs ls hl G
    unfold k_X9_noStretchBeyond_56 at hf
    refine lv_iload hx hb dX9_noStretchBeyond_56 (lv_at hl 4 rfl) ?_
    refine lv_iload_n hx hb dX9_noStretchBeyond_58 rfl (lv_at hl 3 rfl) ?_
    refine lv_isub hx hb dX9_noStretchBeyond_59 ?_
    refine lv_iload_n hx hb dX9_noStretchBeyond_60 rfl (lv_at hl 1 rfl) ?_
    refine lv_icmp_le (tgt := 66) hx hb dX9_noStretchBeyond_61 (by decide) (fun c => ?_) (fun c => ?_)
    · have hf := x_pos c hf
      refine lv_iload hx hb dX9_noStretchBeyond_66 (lv_at hl 4 rfl) ?_
      refine lv_istore_n (lv' := [(3, .int x4), (0, .ref (b + q0)), (1, .int x1), (2, .int x2), (4, .int x4)]) hx hb dX9_noStretchBeyond_68 rfl hl (by decide) rfl (fun ls hl => ?_)
      exact K69 _ hrec5 q0 x1 x2 x4 x4 d hf _ _ ls (lv_sub hl [1, 2, 3, 0, 4] rfl) G
    · have hf := x_neg c hf
      exact K64 d hf _ _ ls (lv_sub hl [] rfl) G
  have K5 : ∀ (n : Nat) (q0 : Nat) (x1 : Int32) (x2 : Int32) (x3 : Int32) (x4 : Int32) (d : xD), xloop (fun _ _ _ _ _ _ => none) (b_X9_noStretchBeyond_5 sh) n q0 x1 x2 x3 x4 d = some (r, dz) → ∀ (H : Heap) (locs : List Loc) (ls : Array Slot), lv_has ls 6 [(0, .ref (b + q0)), (1, .int x1), (2, .int x2), (3, .int x3), (4, .int x4)] → xG D cid b A sh d s H locs → W p l e (xRm 1 0 0) s m av below meth c H locs 0 0 (MQ below (xQ D cid b ex A (some (.int r)) sh dz) av s 0 0 A) (F0 m 5 ls []) := by
    intro n
    induction n with
    | zero =>
      intro q0 x1 x2 x3 x4 d hf
      have hf : (none : Option (Int32 × xD)) = some (r, dz) := hf
      cases hf
    | succ n hrec5 =>
      intro q0 x1 x2 x3 x4 d hf H locs ls hl G
      have hf : b_X9_noStretchBeyond_5 sh (xloop (fun _ _ _ _ _ _ => none) (b_X9_noStretchBeyond_5 sh) n) q0 x1 x2 x3 x4 d = some (r, dz) := hf
      unfold b_X9_noStretchBeyond_5 at hf
      refine lv_iload hx hb dX9_noStretchBeyond_5 (lv_at hl 4 rfl) ?_
      refine lv_aload_n hx hb dX9_noStretchBeyond_7 rfl (lv_at hl 0 rfl) ?_
      obtain ⟨v1, hv1, hf⟩ := x_ob hf
      refine xr_getR (ci := 9) (k := 4) S G hv1 rfl kw_485 dX9_noStretchBeyond_8 ?_
      obtain ⟨v2, hv2, hf⟩ := x_ob hf
      refine xr_getI (ci := 3) (k := 0) S G hv2 rfl kw_81 dX9_noStretchBeyond_11 ?_
      refine lv_icmp_gt (tgt := 75) hx hb dX9_noStretchBeyond_14 (by decide) (fun c => ?_) (fun c => ?_)
      · have hf := x_pos c hf
        exact K75 d hf _ _ ls (lv_sub hl [] rfl) G
      · have hf := x_neg c hf
        refine lv_aload_n hx hb dX9_noStretchBeyond_17 rfl (lv_at hl 0 rfl) ?_
        obtain ⟨v3, hv3, hf⟩ := x_ob hf
        refine xr_getR (ci := 9) (k := 4) S G hv3 rfl kw_485 dX9_noStretchBeyond_18 ?_
        refine lv_iload hx hb dX9_noStretchBeyond_21 (lv_at hl 4 rfl) ?_
        obtain ⟨z4, hz4, hf⟩ := x_ob hf
        obtain ⟨hqz4, hz4⟩ := xon_of hz4
        refine xr_callV (ci := 3) (As := [.int x4]) (rest := []) (st1 := [.int z4.1]) S G hl.1 (fun _ => rfl) (mt_X3_benchOn l D cid b ex sa sv B0 sh v3 x4 d _ _ hz4) hqz4 (by decide) kw_791 kw_625 kw_626 kw_2 kw_627 hd_X3_benchOn ⟨Nat.le_of_ble_eq_true rfl, Nat.le_of_ble_eq_true rfl⟩ rfl rfl rfl (Nat.le_of_ble_eq_true rfl) ⟨Nat.le_of_ble_eq_true rfl, Nat.le_of_ble_eq_true rfl⟩ dX9_noStretchBeyond_23 (fun H locs G => ?_)
        refine lv_istore (lv' := [(5, .int z4.1), (0, .ref (b + q0)), (1, .int x1), (2, .int x2), (3, .int x3), (4, .int x4)]) hx hb dX9_noStretchBeyond_26 hl (by decide) rfl (fun ls hl => ?_)
        refine lv_iload hx hb dX9_noStretchBeyond_28 (lv_at hl 5 rfl) ?_
        refine lv_aload_n hx hb dX9_noStretchBeyond_30 rfl (lv_at hl 1 rfl) ?_
        obtain ⟨v5, hv5, hf⟩ := x_ob hf
        refine xr_getR (ci := 9) (k := 4) S G hv5 rfl kw_485 dX9_noStretchBeyond_31 ?_
        obtain ⟨v6, hv6, hf⟩ := x_ob hf
        refine xr_getI (ci := 3) (k := 0) S G hv6 rfl kw_81 dX9_noStretchBeyond_34 ?_
        refine lv_icmp_eq (tgt := 56) hx hb dX9_noStretchBeyond_37 (by decide) (fun c => ?_) (fun c => ?_)
        · have hf := x_pos c hf
          exact K56 _ hrec5 q0 x1 x2 x3 x4 z4.2 hf _ _ ls (lv_sub hl [1, 2, 3, 4, 5] rfl) G
        · have hf := x_neg c hf
          refine lv_iload hx hb dX9_noStretchBeyond_40 (lv_at hl 0 rfl) ?_
          refine lv_iconst (v := (-1 : Int32)) hx hb dX9_noStretchBeyond_42 (by decide) ?_
          refine lv_icmp_eq (tgt := 69) hx hb dX9_noStretchBeyond_43 (by decide) (fun c => ?_) (fun c => ?_)
          · have hf := x_pos c hf
            exact K69 _ hrec5 q0 x1 x2 x3 x4 z4.2 hf _ _ ls (lv_sub hl [1, 2, 3, 4, 5] rfl) G
          · have hf := x_neg c hf
            refine lv_iload_n hx hb dX9_noStretchBeyond_46 rfl (lv_at hl 3 rfl) ?_
            refine lv_iload hx hb dX9_noStretchBeyond_47 (lv_at hl 0 rfl) ?_
            refine lv_ishr hx hb dX9_noStretchBeyond_49 ?_
            refine lv_iconst (v := (1 : Int32)) hx hb dX9_noStretchBeyond_50 (by decide) ?_
            refine lv_iand hx hb dX9_noStretchBeyond_51 ?_
            refine lv_iconst (v := (1 : Int32)) hx hb dX9_noStretchBeyond_52 (by decide) ?_
            refine lv_icmp_ne (tgt := 69) hx hb dX9_noStretchBeyond_53 (by decide) (fun c => ?_) (fun c => ?_)
            · have hf := x_neg c hf
              exact K69 _ hrec5 q0 x1 x2 x3 x4 z4.2 hf _ _ ls (lv_sub hl [1, 2, 3, 4, 5] rfl) G
            · have hf := x_pos c hf
              exact K56 _ hrec5 q0 x1 x2 x3 x4 z4.2 hf _ _ ls (lv_sub hl [1, 2, 3, 4, 5] rfl) G
  unfold f_X9_noStretchBeyond at hf
  refine lv_iconst (v := (0 : Int32)) hx hb dX9_noStretchBeyond_0 (by decide) ?_
  refine lv_istore_n (lv' := [(3, .int (0 : Int32)), (0, .ref (b + q0)), (1, .int x1), (2, .int x2)]) hx hb dX9_noStretchBeyond_1 rfl hl (by decide) rfl (fun ls hl => ?_)
  refine lv_iconst (v := (1 : Int32)) hx hb dX9_noStretchBeyond_2 (by decide) ?_
  refine lv_istore (lv' := [(4, .int (1 : Int32)), (3, .int (0 : Int32)), (0, .ref (b + q0)), (1, .int x1), (2, .int x2)]) hx hb dX9_noStretchBeyond_3 hl (by decide) rfl (fun ls hl => ?_)
  exact K5 xF q0 x1 x2 (0 : Int32) (1 : Int32) d hf _ _ ls (lv_sub hl [2, 3, 4, 1, 0] rfl) G
-- HalfLandings.cover(I)I
theorem dX9_cover_0 : decode cX9_cover 0 = .ok (.iload_n 1, 1) := by decide +kernel
theorem dX9_cover_1 : decode cX9_cover 1 = .ok (.iconst 1, 1) := by decide +kernel
theorem dX9_cover_2 : decode cX9_cover 2 = .ok (.if_icmp .lt 9, 3) := by decide +kernel
theorem dX9_cover_5 : decode cX9_cover 5 = .ok (.iload_n 1, 1) := by decide +kernel
theorem dX9_cover_6 : decode cX9_cover 6 = .ok (.bipush 60, 2) := by decide +kernel
theorem dX9_cover_8 : decode cX9_cover 8 = .ok (.if_icmp .le 5, 3) := by decide +kernel
theorem dX9_cover_11 : decode cX9_cover 11 = .ok (.iconst (-1), 1) := by decide +kernel
theorem dX9_cover_12 : decode cX9_cover 12 = .ok (.ireturn, 1) := by decide +kernel
theorem dX9_cover_13 : decode cX9_cover 13 = .ok (.bipush 9, 2) := by decide +kernel
theorem dX9_cover_15 : decode cX9_cover 15 = .ok (.istore_n 2, 1) := by decide +kernel
theorem dX9_cover_16 : decode cX9_cover 16 = .ok (.bipush (-2), 2) := by decide +kernel
theorem dX9_cover_18 : decode cX9_cover 18 = .ok (.istore_n 3, 1) := by decide +kernel
theorem dX9_cover_19 : decode cX9_cover 19 = .ok (.iconst 0, 1) := by decide +kernel
theorem dX9_cover_20 : decode cX9_cover 20 = .ok (.istore 4, 2) := by decide +kernel
theorem dX9_cover_22 : decode cX9_cover 22 = .ok (.iload 4, 2) := by decide +kernel
theorem dX9_cover_24 : decode cX9_cover 24 = .ok (.iconst 1, 1) := by decide +kernel
theorem dX9_cover_25 : decode cX9_cover 25 = .ok (.aload_n 0, 1) := by decide +kernel
theorem dX9_cover_26 : decode cX9_cover 26 = .ok (.getfield 28, 3) := by decide +kernel
theorem dX9_cover_29 : decode cX9_cover 29 = .ok (.getfield 255, 3) := by decide +kernel
theorem dX9_cover_32 : decode cX9_cover 32 = .ok (.ishl, 1) := by decide +kernel
theorem dX9_cover_33 : decode cX9_cover 33 = .ok (.if_icmp .ge 38, 3) := by decide +kernel
theorem dX9_cover_36 : decode cX9_cover 36 = .ok (.iload 4, 2) := by decide +kernel
theorem dX9_cover_38 : decode cX9_cover 38 = .ok (.invokestatic 174, 3) := by decide +kernel
theorem dX9_cover_41 : decode cX9_cover 41 = .ok (.istore 5, 2) := by decide +kernel
theorem dX9_cover_43 : decode cX9_cover 43 = .ok (.iload 5, 2) := by decide +kernel
theorem dX9_cover_45 : decode cX9_cover 45 = .ok (.iload_n 2, 1) := by decide +kernel
theorem dX9_cover_46 : decode cX9_cover 46 = .ok (.if_icmp .ge 19, 3) := by decide +kernel
theorem dX9_cover_49 : decode cX9_cover 49 = .ok (.aload_n 0, 1) := by decide +kernel
theorem dX9_cover_50 : decode cX9_cover 50 = .ok (.iload_n 1, 1) := by decide +kernel
theorem dX9_cover_51 : decode cX9_cover 51 = .ok (.iload 4, 2) := by decide +kernel
theorem dX9_cover_53 : decode cX9_cover 53 = .ok (.invokevirtual 258, 3) := by decide +kernel
theorem dX9_cover_56 : decode cX9_cover 56 = .ok (.ifCond .eq 9, 3) := by decide +kernel
theorem dX9_cover_59 : decode cX9_cover 59 = .ok (.iload 5, 2) := by decide +kernel
theorem dX9_cover_61 : decode cX9_cover 61 = .ok (.istore_n 2, 1) := by decide +kernel
theorem dX9_cover_62 : decode cX9_cover 62 = .ok (.iload 4, 2) := by decide +kernel
theorem dX9_cover_64 : decode cX9_cover 64 = .ok (.istore_n 3, 1) := by decide +kernel
theorem dX9_cover_65 : decode cX9_cover 65 = .ok (.iinc 4 1, 3) := by decide +kernel
theorem dX9_cover_68 : decode cX9_cover 68 = .ok (.goto (-46), 3) := by decide +kernel
theorem dX9_cover_71 : decode cX9_cover 71 = .ok (.iload_n 3, 1) := by decide +kernel
theorem dX9_cover_72 : decode cX9_cover 72 = .ok (.ireturn, 1) := by decide +kernel
theorem hd_X9_cover : yX9_cover.cls = xCn 9 ∧ yX9_cover.cls ≠ "java/lang/invoke/MethodHandle" ∧ yX9_cover.cls ≠ "java/lang/invoke/VarHandle" ∧ (parseMethodDescriptor yX9_cover.desc).map (fun d => d.parameters.length) = some 1 := by decide +kernel
def k_X9_cover_11 (sh : List xSh) (d : xD) : Option (Int32 × xD) :=
  some ((-1 : Int32), d)
def k_X9_cover_71 (sh : List xSh) (x3 : Int32) (d : xD) : Option (Int32 × xD) :=
  some (x3, d)
def k_X9_cover_65 (sh : List xSh) (rec22 : Nat → Int32 → Int32 → Int32 → Int32 → xD → Option (Int32 × xD)) (q0 : Nat) (x1 : Int32) (x2 : Int32) (x3 : Int32) (x4 : Int32) (d : xD) : Option (Int32 × xD) :=
  rec22 q0 x1 x2 x3 (x4 + 1) d
def b_X9_cover_22 (sh : List xSh) (rec22 : Nat → Int32 → Int32 → Int32 → Int32 → xD → Option (Int32 × xD)) (q0 : Nat) (x1 : Int32) (x2 : Int32) (x3 : Int32) (x4 : Int32) (d : xD) : Option (Int32 × xD) :=
  (xgR 9 sh d q0 4).bind fun v1 => (xgI 3 sh d v1 4).bind fun v2 => if ((1 : Int32) <<< (v2 &&& 31)) ≤ x4 then (k_X9_cover_71 sh x3 d) else ((f_J6_bitCount_0f7a4 sh x4 d).bind fun z3 => if x2 ≤ z3.1 then (k_X9_cover_65 sh rec22 q0 x1 x2 x3 x4 z3.2) else ((xon 9 sh q0 (f_X9_noStretchBeyond sh q0 x1 x4 z3.2)).bind fun z4 => if z4.1 = 0 then (k_X9_cover_65 sh rec22 q0 x1 x2 x3 x4 z4.2) else (k_X9_cover_65 sh rec22 q0 x1 z3.1 x4 x4 z4.2)))
def f_X9_cover (sh : List xSh) (q0 : Nat) (x1 : Int32) (d : xD) : Option (Int32 × xD) :=
  if x1 < (1 : Int32) then (k_X9_cover_11 sh d) else (if x1 ≤ (60 : Int32) then (xloop (fun _ _ _ _ _ _ => none) (b_X9_cover_22 sh) xF q0 x1 (9 : Int32) (-2 : Int32) (0 : Int32) d) else (k_X9_cover_11 sh d))
set_option maxHeartbeats 4000000 in
set_option maxRecDepth 100000 in
theorem mt_X9_cover (l : Launch) (D : va_G) (cid : FieldType → ClassId) (b : Nat) (ex : Bool) (sa sv B0 : Nat) (sh : List xSh) (q0 : Nat) (x1 : Int32) (d : xD) (r : Int32) (dz : xD) (hf : f_X9_cover sh q0 x1 d = some (r, dz)) : xMet l yX9_cover cX9_cover 6 (some .int) 2 0 0 D cid b ex sa sv B0 [.ref (b + q0), .int x1] sh d (some (.int r)) sh dz := by
  refine xMet.of (by decide) (Nat.le_of_ble_eq_true rfl) ?_
  intro p e s m below meth c ls A S hr hin G hl
  have hl : lv_has ls 6 [(0, .ref (b + q0)), (1, .int x1)] := hl
  generalize ([.ref (b + q0), .int x1] : List Value).toArray = av at S ⊢
  have hx := S.1
  have hb := S.2.1
  have hml := S.2.2.1
  have hown := S.2.2.2.1
  have hts := S.2.2.2.2.1
  have K11 : ∀ (d : xD), k_X9_cover_11 sh d = some (r, dz) → ∀ (H : Heap) (locs : List Loc) (ls : Array Slot), lv_has ls 6 [] → xG D cid b A sh d s H locs → W p l e (xRm 2 0 0) s m av below meth c H locs 0 0 (MQ below (xQ D cid b ex A (some (.int r)) sh dz) av s 0 0 A) (F0 m 11 ls []) := by
    intro d hf H locs ls hl G
    unfold k_X9_cover_11 at hf
    refine lv_iconst (v := (-1 : Int32)) hx hb dX9_cover_11 (by decide) ?_
    cases hf
    exact xr_iret S G (fun _ => rfl) hr dX9_cover_12
  have K71 : ∀ (x3 : Int32) (d : xD), k_X9_cover_71 sh x3 d = some (r, dz) → ∀ (H : Heap) (locs : List Loc) (ls : Array Slot), lv_has ls 6 [(3, .int x3)] → xG D cid b A sh d s H locs → W p l e (xRm 2 0 0) s m av below meth c H locs 0 0 (MQ below (xQ D cid b ex A (some (.int r)) sh dz) av s 0 0 A) (F0 m 71 ls []) := by
    intro x3 d hf H locs ls hl G
    unfold k_X9_cover_71 at hf
    refine lv_iload_n hx hb dX9_cover_71 rfl (lv_at hl 0 rfl) ?_
    cases hf
    exact xr_iret S G (fun _ => rfl) hr dX9_cover_72
  have K65 : ∀ (rec22 : Nat → Int32 → Int32 → Int32 → Int32 → xD → Option (Int32 × xD)) (hrec22 : ∀ (q0 : Nat) (x1 : Int32) (x2 : Int32) (x3 : Int32) (x4 : Int32) (d : xD), rec22 q0 x1 x2 x3 x4 d = some (r, dz) → ∀ (H : Heap) (locs : List Loc) (ls : Array Slot), lv_has ls 6 [(0, .ref (b + q0)), (1, .int x1), (2, .int x2), (3, .int x3), (4, .int x4)] → xG D cid b A sh d s H locs → W p l e (xRm 2 0 0) s m av below meth c H locs 0 0 (MQ below (xQ D cid b ex A (some (.int r)) sh dz) av s 0 0 A) (F0 m 22 ls [])) (q0 : Nat) (x1 : Int32) (x2 : Int32) (x3 : Int32) (x4 : Int32) (d : xD), k_X9_cover_65 sh rec22 q0 x1 x2 x3 x4 d = some (r, dz) → ∀ (H : Heap) (locs : List Loc) (ls : Array Slot), lv_has ls 6 [(0, .ref (b + q0)), (1, .int x1), (2, .int x2), (3, .int x3), (4, .int x4)] → xG D cid b A sh d s H locs → W p l e (xRm 2 0 0) s m av below meth c H locs 0 0 (MQ below (xQ D cid b ex A (some (.int r)) sh dz) av s 0 0 A) (F0 m 65 ls []) := by
    intro rec22 hrec22 q0 x1 x2 x3 x4 d hf H locs ls hl G
    unfold k_X9_cover_65 at hf
    refine lv_iinc (v := (x4 + 1)) (lv' := [(4, .int (x4 + 1)), (0, .ref (b + q0)), (1, .int x1), (2, .int x2), (3, .int x3)]) hx hb dX9_cover_65 hl (k := 4) rfl rfl (by decide) rfl (fun ls hl => ?_)
    refine lv_goto (tgt := 22) hx hb dX9_cover_68 (by decide) ?_
    exact hrec22 q0 x1 x2 x3 (x4 + 1) d hf _ _ ls (lv_sub hl [1, 2, 3, 4, 0] rfl) G
  have K22 : ∀ (n : Nat) (q0 : Nat) (x1 : Int32) (x2 : Int32) (x3 : Int32) (x4 : Int32) (d : xD), xloop (fun _ _ _ _ _ _ => none) (b_X9_cover_22 sh) n q0 x1 x2 x3 x4 d = some (r, dz) → ∀ (H : Heap) (locs : List Loc) (ls : Array Slot), lv_has ls 6 [(0, .ref (b + q0)), (1, .int x1), (2, .int x2), (3, .int x3), (4, .int x4)] → xG D cid b A sh d s H locs → W p l e (xRm 2 0 0) s m av below meth c H locs 0 0 (MQ below (xQ D cid b ex A (some (.int r)) sh dz) av s 0 0 A) (F0 m 22 ls []) := by
    intro n
    induction n with
    | zero =>
      intro q0 x1 x2 x3 x4 d hf
      have hf : (none : Option (Int32 × xD)) = some (r, dz) := hf
      cases hf
    | succ n hrec22 =>
      intro q0 x1 x2 x3 x4 d hf H locs ls hl G
      have hf : b_X9_cover_22 sh (xloop (fun _ _ _ _ _ _ => none) (b_X9_cover_22 sh) n) q0 x1 x2 x3 x4 d = some (r, dz) := hf
      unfold b_X9_cover_22 at hf
      refine lv_iload hx hb dX9_cover_22 (lv_at hl 4 rfl) ?_
      refine lv_iconst (v := (1 : Int32)) hx hb dX9_cover_24 (by decide) ?_
      refine lv_aload_n hx hb dX9_cover_25 rfl (lv_at hl 0 rfl) ?_
      obtain ⟨v1, hv1, hf⟩ := x_ob hf
      refine xr_getR (ci := 9) (k := 4) S G hv1 rfl kw_485 dX9_cover_26 ?_
      obtain ⟨v2, hv2, hf⟩ := x_ob hf
      refine xr_getI (ci := 3) (k := 4) S G hv2 rfl kw_94 dX9_cover_29 ?_
      refine lv_ishl hx hb dX9_cover_32 ?_
      refine lv_icmp_ge (tgt := 71) hx hb dX9_cover_33 (by decide) (fun c => ?_) (fun c => ?_)
      · have hf := x_pos c hf
        exact K71 x3 d hf _ _ ls (lv_sub hl [3] rfl) G
      · have hf := x_neg c hf
        refine lv_iload hx hb dX9_cover_36 (lv_at hl 4 rfl) ?_
        obtain ⟨z3, hz3, hf⟩ := x_ob hf
        refine xr_callS (As := [.int x4]) (rest := []) (st1 := [.int z3.1]) S G hl.1 (fun _ => rfl) (mt_J6_bitCount_0f7a4 l D cid b ex sa sv B0 sh x4 d _ _ hz3) kw_740 kw_741 kw_24 kw_742 hd_J6_bitCount_0f7a4 ⟨Nat.le_of_ble_eq_true rfl, Nat.le_of_ble_eq_true rfl⟩ rfl rfl rfl (Nat.le_of_ble_eq_true rfl) ⟨Nat.le_of_ble_eq_true rfl, Nat.le_of_ble_eq_true rfl⟩ dX9_cover_38 (fun H locs G => ?_)
        refine lv_istore (lv' := [(5, .int z3.1), (0, .ref (b + q0)), (1, .int x1), (2, .int x2), (3, .int x3), (4, .int x4)]) hx hb dX9_cover_41 hl (by decide) rfl (fun ls hl => ?_)
        refine lv_iload hx hb dX9_cover_43 (lv_at hl 0 rfl) ?_
        refine lv_iload_n hx hb dX9_cover_45 rfl (lv_at hl 3 rfl) ?_
        refine lv_icmp_ge (tgt := 65) hx hb dX9_cover_46 (by decide) (fun c => ?_) (fun c => ?_)
        · have hf := x_pos c hf
          exact K65 _ hrec22 q0 x1 x2 x3 x4 z3.2 hf _ _ ls (lv_sub hl [1, 2, 3, 4, 5] rfl) G
        · have hf := x_neg c hf
          refine lv_aload_n hx hb dX9_cover_49 rfl (lv_at hl 1 rfl) ?_
          refine lv_iload_n hx hb dX9_cover_50 rfl (lv_at hl 2 rfl) ?_
          refine lv_iload hx hb dX9_cover_51 (lv_at hl 5 rfl) ?_
          obtain ⟨z4, hz4, hf⟩ := x_ob hf
          obtain ⟨hqz4, hz4⟩ := xon_of hz4
          refine xr_callV (ci := 9) (As := [.int x1, .int x4]) (rest := []) (st1 := [.int z4.1]) S G hl.1 (fun _ => rfl) (mt_X9_noStretchBeyond l D cid b ex sa sv B0 sh q0 x1 x4 z3.2 _ _ hz4) hqz4 (by decide) kw_939 kw_941 ks_30 kw_1 kw_942 hd_X9_noStretchBeyond ⟨Nat.le_of_ble_eq_true rfl, Nat.le_of_ble_eq_true rfl⟩ rfl rfl rfl (Nat.le_of_ble_eq_true rfl) ⟨Nat.le_of_ble_eq_true rfl, Nat.le_of_ble_eq_true rfl⟩ dX9_cover_53 (fun H locs G => ?_)
          refine lv_if_eq (tgt := 65) hx hb dX9_cover_56 (by decide) (fun c => ?_) (fun c => ?_)
          · have hf := x_pos c hf
            exact K65 _ hrec22 q0 x1 x2 x3 x4 z4.2 hf _ _ ls (lv_sub hl [1, 2, 3, 4, 5] rfl) G
          · have hf := x_neg c hf
            refine lv_iload hx hb dX9_cover_59 (lv_at hl 0 rfl) ?_
            refine lv_istore_n (lv' := [(2, .int z3.1), (5, .int z3.1), (0, .ref (b + q0)), (1, .int x1), (3, .int x3), (4, .int x4)]) hx hb dX9_cover_61 rfl hl (by decide) rfl (fun ls hl => ?_)
            refine lv_iload hx hb dX9_cover_62 (lv_at hl 5 rfl) ?_
            refine lv_istore_n (lv' := [(3, .int x4), (2, .int z3.1), (5, .int z3.1), (0, .ref (b + q0)), (1, .int x1), (4, .int x4)]) hx hb dX9_cover_64 rfl hl (by decide) rfl (fun ls hl => ?_)
            exact K65 _ hrec22 q0 x1 z3.1 x4 x4 z4.2 hf _ _ ls (lv_sub hl [3, 4, 1, 0, 5] rfl) G
  unfold f_X9_cover at hf
  refine lv_iload_n hx hb dX9_cover_0 rfl (lv_at hl 1 rfl) ?_
  refine lv_iconst (v := (1 : Int32)) hx hb dX9_cover_1 (by decide) ?_
  refine lv_icmp_lt (tgt := 11) hx hb dX9_cover_2 (by decide) (fun c => ?_) (fun c => ?_)
  · have hf := x_pos c hf
    exact K11 d hf _ _ ls (lv_sub hl [] rfl) G
  · have hf := x_neg c hf
    refine lv_iload_n hx hb dX9_cover_5 rfl (lv_at hl 1 rfl) ?_
    refine lv_bipush (v := (60 : Int32)) hx hb dX9_cover_6 (by decide) ?_
    refine lv_icmp_le (tgt := 13) hx hb dX9_cover_8 (by decide) (fun c => ?_) (fun c => ?_)
    · have hf := x_pos c hf
      refine lv_bipush (v := (9 : Int32)) hx hb dX9_cover_13 (by decide) ?_
      refine lv_istore_n (lv' := [(2, .int (9 : Int32)), (0, .ref (b + q0)), (1, .int x1)]) hx hb dX9_cover_15 rfl hl (by decide) rfl (fun ls hl => ?_)
      refine lv_bipush (v := (-2 : Int32)) hx hb dX9_cover_16 (by decide) ?_
      refine lv_istore_n (lv' := [(3, .int (-2 : Int32)), (2, .int (9 : Int32)), (0, .ref (b + q0)), (1, .int x1)]) hx hb dX9_cover_18 rfl hl (by decide) rfl (fun ls hl => ?_)
      refine lv_iconst (v := (0 : Int32)) hx hb dX9_cover_19 (by decide) ?_
      refine lv_istore (lv' := [(4, .int (0 : Int32)), (3, .int (-2 : Int32)), (2, .int (9 : Int32)), (0, .ref (b + q0)), (1, .int x1)]) hx hb dX9_cover_20 hl (by decide) rfl (fun ls hl => ?_)
      exact K22 xF q0 x1 (9 : Int32) (-2 : Int32) (0 : Int32) d hf _ _ ls (lv_sub hl [3, 4, 2, 1, 0] rfl) G
    · have hf := x_neg c hf
      exact K11 d hf _ _ ls (lv_sub hl [] rfl) G
-- HalfLandings.carry()I
theorem dX9_carry_0 : decode cX9_carry 0 = .ok (.aload_n 0, 1) := by decide +kernel
theorem dX9_carry_1 : decode cX9_carry 1 = .ok (.getfield 56, 3) := by decide +kernel
theorem dX9_carry_4 : decode cX9_carry 4 = .ok (.getfield 194, 3) := by decide +kernel
theorem dX9_carry_7 : decode cX9_carry 7 = .ok (.bipush (-2), 2) := by decide +kernel
theorem dX9_carry_9 : decode cX9_carry 9 = .ok (.if_icmp .ne 5, 3) := by decide +kernel
theorem dX9_carry_12 : decode cX9_carry 12 = .ok (.iconst (-1), 1) := by decide +kernel
theorem dX9_carry_13 : decode cX9_carry 13 = .ok (.ireturn, 1) := by decide +kernel
theorem dX9_carry_14 : decode cX9_carry 14 = .ok (.aload_n 0, 1) := by decide +kernel
theorem dX9_carry_15 : decode cX9_carry 15 = .ok (.getfield 56, 3) := by decide +kernel
theorem dX9_carry_18 : decode cX9_carry 18 = .ok (.getfield 194, 3) := by decide +kernel
theorem dX9_carry_21 : decode cX9_carry 21 = .ok (.iconst 1, 1) := by decide +kernel
theorem dX9_carry_22 : decode cX9_carry 22 = .ok (.iadd, 1) := by decide +kernel
theorem dX9_carry_23 : decode cX9_carry 23 = .ok (.istore_n 1, 1) := by decide +kernel
theorem dX9_carry_24 : decode cX9_carry 24 = .ok (.iload_n 1, 1) := by decide +kernel
theorem dX9_carry_25 : decode cX9_carry 25 = .ok (.aload_n 0, 1) := by decide +kernel
theorem dX9_carry_26 : decode cX9_carry 26 = .ok (.getfield 28, 3) := by decide +kernel
theorem dX9_carry_29 : decode cX9_carry 29 = .ok (.getfield 220, 3) := by decide +kernel
theorem dX9_carry_32 : decode cX9_carry 32 = .ok (.if_icmp .ge 23, 3) := by decide +kernel
theorem dX9_carry_35 : decode cX9_carry 35 = .ok (.aload_n 0, 1) := by decide +kernel
theorem dX9_carry_36 : decode cX9_carry 36 = .ok (.getfield 56, 3) := by decide +kernel
theorem dX9_carry_39 : decode cX9_carry 39 = .ok (.iload_n 1, 1) := by decide +kernel
theorem dX9_carry_40 : decode cX9_carry 40 = .ok (.invokevirtual 223, 3) := by decide +kernel
theorem dX9_carry_43 : decode cX9_carry 43 = .ok (.ifCond .eq 6, 3) := by decide +kernel
theorem dX9_carry_46 : decode cX9_carry 46 = .ok (.bipush (-2), 2) := by decide +kernel
theorem dX9_carry_48 : decode cX9_carry 48 = .ok (.ireturn, 1) := by decide +kernel
theorem dX9_carry_49 : decode cX9_carry 49 = .ok (.iinc 1 1, 3) := by decide +kernel
theorem dX9_carry_52 : decode cX9_carry 52 = .ok (.goto (-28), 3) := by decide +kernel
theorem dX9_carry_55 : decode cX9_carry 55 = .ok (.aload_n 0, 1) := by decide +kernel
theorem dX9_carry_56 : decode cX9_carry 56 = .ok (.getfield 28, 3) := by decide +kernel
theorem dX9_carry_59 : decode cX9_carry 59 = .ok (.getfield 220, 3) := by decide +kernel
theorem dX9_carry_62 : decode cX9_carry 62 = .ok (.iconst 1, 1) := by decide +kernel
theorem dX9_carry_63 : decode cX9_carry 63 = .ok (.isub, 1) := by decide +kernel
theorem dX9_carry_64 : decode cX9_carry 64 = .ok (.aload_n 0, 1) := by decide +kernel
theorem dX9_carry_65 : decode cX9_carry 65 = .ok (.getfield 56, 3) := by decide +kernel
theorem dX9_carry_68 : decode cX9_carry 68 = .ok (.getfield 194, 3) := by decide +kernel
theorem dX9_carry_71 : decode cX9_carry 71 = .ok (.isub, 1) := by decide +kernel
theorem dX9_carry_72 : decode cX9_carry 72 = .ok (.iconst 3, 1) := by decide +kernel
theorem dX9_carry_73 : decode cX9_carry 73 = .ok (.iadd, 1) := by decide +kernel
theorem dX9_carry_74 : decode cX9_carry 74 = .ok (.iconst 1, 1) := by decide +kernel
theorem dX9_carry_75 : decode cX9_carry 75 = .ok (.isub, 1) := by decide +kernel
theorem dX9_carry_76 : decode cX9_carry 76 = .ok (.iconst 3, 1) := by decide +kernel
theorem dX9_carry_77 : decode cX9_carry 77 = .ok (.idiv, 1) := by decide +kernel
theorem dX9_carry_78 : decode cX9_carry 78 = .ok (.ireturn, 1) := by decide +kernel
theorem hd_X9_carry : yX9_carry.cls = xCn 9 ∧ yX9_carry.cls ≠ "java/lang/invoke/MethodHandle" ∧ yX9_carry.cls ≠ "java/lang/invoke/VarHandle" ∧ (parseMethodDescriptor yX9_carry.desc).map (fun d => d.parameters.length) = some 0 := by decide +kernel
def k_X9_carry_55 (sh : List xSh) (q0 : Nat) (d : xD) : Option (Int32 × xD) :=
  (xgR 9 sh d q0 4).bind fun v1 => (xgI 3 sh d v1 0).bind fun v2 => (xgR 9 sh d q0 8).bind fun v3 => (xgI 4 sh d v3 2).bind fun v4 => (xdI ((((v2 - (1 : Int32)) - v4) + (3 : Int32)) - (1 : Int32)) (3 : Int32)).bind fun v5 => some (v5, d)
def k_X9_carry_46 (sh : List xSh) (d : xD) : Option (Int32 × xD) :=
  some ((-2 : Int32), d)
def b_X9_carry_24 (sh : List xSh) (rec24 : Nat → Int32 → xD → Option (Int32 × xD)) (q0 : Nat) (x1 : Int32) (d : xD) : Option (Int32 × xD) :=
  (xgR 9 sh d q0 4).bind fun v6 => (xgI 3 sh d v6 0).bind fun v7 => if v7 ≤ x1 then (k_X9_carry_55 sh q0 d) else ((xgR 9 sh d q0 8).bind fun v8 => (xon 4 sh v8 (f_X4_someoneOn sh v8 x1 d)).bind fun z9 => if z9.1 = 0 then (rec24 q0 (x1 + 1) z9.2) else (k_X9_carry_46 sh z9.2))
def f_X9_carry (sh : List xSh) (q0 : Nat) (d : xD) : Option (Int32 × xD) :=
  (xgR 9 sh d q0 8).bind fun v10 => (xgI 4 sh d v10 2).bind fun v11 => if v11 = (-2 : Int32) then (some ((-1 : Int32), d)) else ((xgR 9 sh d q0 8).bind fun v12 => (xgI 4 sh d v12 2).bind fun v13 => xloop (fun _ _ _ => none) (b_X9_carry_24 sh) xF q0 (v13 + (1 : Int32)) d)
set_option maxHeartbeats 4000000 in
set_option maxRecDepth 100000 in
theorem mt_X9_carry (l : Launch) (D : va_G) (cid : FieldType → ClassId) (b : Nat) (ex : Bool) (sa sv B0 : Nat) (sh : List xSh) (q0 : Nat) (d : xD) (r : Int32) (dz : xD) (hf : f_X9_carry sh q0 d = some (r, dz)) : xMet l yX9_carry cX9_carry 2 (some .int) 2 0 0 D cid b ex sa sv B0 [.ref (b + q0)] sh d (some (.int r)) sh dz := by
  refine xMet.of (by decide) (Nat.le_of_ble_eq_true rfl) ?_
  intro p e s m below meth c ls A S hr hin G hl
  have hl : lv_has ls 2 [(0, .ref (b + q0))] := hl
  generalize ([.ref (b + q0)] : List Value).toArray = av at S ⊢
  have hx := S.1
  have hb := S.2.1
  have hml := S.2.2.1
  have hown := S.2.2.2.1
  have hts := S.2.2.2.2.1
  have K55 : ∀ (q0 : Nat) (d : xD), k_X9_carry_55 sh q0 d = some (r, dz) → ∀ (H : Heap) (locs : List Loc) (ls : Array Slot), lv_has ls 2 [(0, .ref (b + q0))] → xG D cid b A sh d s H locs → W p l e (xRm 2 0 0) s m av below meth c H locs 0 0 (MQ below (xQ D cid b ex A (some (.int r)) sh dz) av s 0 0 A) (F0 m 55 ls []) := by
    intro q0 d hf H locs ls hl G
    unfold k_X9_carry_55 at hf
    refine lv_aload_n hx hb dX9_carry_55 rfl (lv_at hl 0 rfl) ?_
    obtain ⟨v1, hv1, hf⟩ := x_ob hf
    refine xr_getR (ci := 9) (k := 4) S G hv1 rfl kw_485 dX9_carry_56 ?_
    obtain ⟨v2, hv2, hf⟩ := x_ob hf
    refine xr_getI (ci := 3) (k := 0) S G hv2 rfl kw_81 dX9_carry_59 ?_
    refine lv_iconst (v := (1 : Int32)) hx hb dX9_carry_62 (by decide) ?_
    refine lv_isub hx hb dX9_carry_63 ?_
    refine lv_aload_n hx hb dX9_carry_64 rfl (lv_at hl 0 rfl) ?_
    obtain ⟨v3, hv3, hf⟩ := x_ob hf
    refine xr_getR (ci := 9) (k := 8) S G hv3 rfl kw_489 dX9_carry_65 ?_
    obtain ⟨v4, hv4, hf⟩ := x_ob hf
    refine xr_getI (ci := 4) (k := 2) S G hv4 rfl kw_322 dX9_carry_68 ?_
    refine lv_isub hx hb dX9_carry_71 ?_
    refine lv_iconst (v := (3 : Int32)) hx hb dX9_carry_72 (by decide) ?_
    refine lv_iadd hx hb dX9_carry_73 ?_
    refine lv_iconst (v := (1 : Int32)) hx hb dX9_carry_74 (by decide) ?_
    refine lv_isub hx hb dX9_carry_75 ?_
    refine lv_iconst (v := (3 : Int32)) hx hb dX9_carry_76 (by decide) ?_
    obtain ⟨v5, hv5, hf⟩ := x_ob hf
    refine xr_idiv hx hb hv5 dX9_carry_77 ?_
    cases hf
    exact xr_iret S G (fun _ => rfl) hr dX9_carry_78
  have K46 : ∀ (d : xD), k_X9_carry_46 sh d = some (r, dz) → ∀ (H : Heap) (locs : List Loc) (ls : Array Slot), lv_has ls 2 [] → xG D cid b A sh d s H locs → W p l e (xRm 2 0 0) s m av below meth c H locs 0 0 (MQ below (xQ D cid b ex A (some (.int r)) sh dz) av s 0 0 A) (F0 m 46 ls []) := by
    intro d hf H locs ls hl G
    unfold k_X9_carry_46 at hf
    refine lv_bipush (v := (-2 : Int32)) hx hb dX9_carry_46 (by decide) ?_
    cases hf
    exact xr_iret S G (fun _ => rfl) hr dX9_carry_48
  have K24 : ∀ (n : Nat) (q0 : Nat) (x1 : Int32) (d : xD), xloop (fun _ _ _ => none) (b_X9_carry_24 sh) n q0 x1 d = some (r, dz) → ∀ (H : Heap) (locs : List Loc) (ls : Array Slot), lv_has ls 2 [(0, .ref (b + q0)), (1, .int x1)] → xG D cid b A sh d s H locs → W p l e (xRm 2 0 0) s m av below meth c H locs 0 0 (MQ below (xQ D cid b ex A (some (.int r)) sh dz) av s 0 0 A) (F0 m 24 ls []) := by
    intro n
    induction n with
    | zero =>
      intro q0 x1 d hf
      have hf : (none : Option (Int32 × xD)) = some (r, dz) := hf
      cases hf
    | succ n hrec24 =>
      intro q0 x1 d hf H locs ls hl G
      have hf : b_X9_carry_24 sh (xloop (fun _ _ _ => none) (b_X9_carry_24 sh) n) q0 x1 d = some (r, dz) := hf
      unfold b_X9_carry_24 at hf
      refine lv_iload_n hx hb dX9_carry_24 rfl (lv_at hl 1 rfl) ?_
      refine lv_aload_n hx hb dX9_carry_25 rfl (lv_at hl 0 rfl) ?_
      obtain ⟨v6, hv6, hf⟩ := x_ob hf
      refine xr_getR (ci := 9) (k := 4) S G hv6 rfl kw_485 dX9_carry_26 ?_
      obtain ⟨v7, hv7, hf⟩ := x_ob hf
      refine xr_getI (ci := 3) (k := 0) S G hv7 rfl kw_81 dX9_carry_29 ?_
      refine lv_icmp_ge (tgt := 55) hx hb dX9_carry_32 (by decide) (fun c => ?_) (fun c => ?_)
      · have hf := x_pos c hf
        exact K55 q0 d hf _ _ ls (lv_sub hl [0] rfl) G
      · have hf := x_neg c hf
        refine lv_aload_n hx hb dX9_carry_35 rfl (lv_at hl 0 rfl) ?_
        obtain ⟨v8, hv8, hf⟩ := x_ob hf
        refine xr_getR (ci := 9) (k := 8) S G hv8 rfl kw_489 dX9_carry_36 ?_
        refine lv_iload_n hx hb dX9_carry_39 rfl (lv_at hl 1 rfl) ?_
        obtain ⟨z9, hz9, hf⟩ := x_ob hf
        obtain ⟨hqz9, hz9⟩ := xon_of hz9
        refine xr_callV (ci := 4) (As := [.int x1]) (rest := []) (st1 := [.int z9.1]) S G hl.1 (fun _ => rfl) (mt_X4_someoneOn l D cid b ex sa sv B0 sh v8 x1 d _ _ hz9) hqz9 (by decide) kw_819 kw_820 kw_821 kw_12 kw_822 hd_X4_someoneOn ⟨Nat.le_of_ble_eq_true rfl, Nat.le_of_ble_eq_true rfl⟩ rfl rfl rfl (Nat.le_of_ble_eq_true rfl) ⟨Nat.le_of_ble_eq_true rfl, Nat.le_of_ble_eq_true rfl⟩ dX9_carry_40 (fun H locs G => ?_)
        refine lv_if_eq (tgt := 49) hx hb dX9_carry_43 (by decide) (fun c => ?_) (fun c => ?_)
        · have hf := x_pos c hf
          refine lv_iinc (v := (x1 + 1)) (lv' := [(1, .int (x1 + 1)), (0, .ref (b + q0))]) hx hb dX9_carry_49 hl (k := 1) rfl rfl (by decide) rfl (fun ls hl => ?_)
          refine lv_goto (tgt := 24) hx hb dX9_carry_52 (by decide) ?_
          exact hrec24 q0 (x1 + 1) z9.2 hf _ _ ls (lv_sub hl [1, 0] rfl) G
        · have hf := x_neg c hf
          exact K46 z9.2 hf _ _ ls (lv_sub hl [] rfl) G
  unfold f_X9_carry at hf
  refine lv_aload_n hx hb dX9_carry_0 rfl (lv_at hl 0 rfl) ?_
  obtain ⟨v10, hv10, hf⟩ := x_ob hf
  refine xr_getR (ci := 9) (k := 8) S G hv10 rfl kw_489 dX9_carry_1 ?_
  obtain ⟨v11, hv11, hf⟩ := x_ob hf
  refine xr_getI (ci := 4) (k := 2) S G hv11 rfl kw_322 dX9_carry_4 ?_
  refine lv_bipush (v := (-2 : Int32)) hx hb dX9_carry_7 (by decide) ?_
  refine lv_icmp_ne (tgt := 14) hx hb dX9_carry_9 (by decide) (fun c => ?_) (fun c => ?_)
  · have hf := x_neg c hf
    refine lv_aload_n hx hb dX9_carry_14 rfl (lv_at hl 0 rfl) ?_
    obtain ⟨v12, hv12, hf⟩ := x_ob hf
    refine xr_getR (ci := 9) (k := 8) S G hv12 rfl kw_489 dX9_carry_15 ?_
    obtain ⟨v13, hv13, hf⟩ := x_ob hf
    refine xr_getI (ci := 4) (k := 2) S G hv13 rfl kw_322 dX9_carry_18 ?_
    refine lv_iconst (v := (1 : Int32)) hx hb dX9_carry_21 (by decide) ?_
    refine lv_iadd hx hb dX9_carry_22 ?_
    refine lv_istore_n (lv' := [(1, .int (v13 + (1 : Int32))), (0, .ref (b + q0))]) hx hb dX9_carry_23 rfl hl (by decide) rfl (fun ls hl => ?_)
    exact K24 xF q0 (v13 + (1 : Int32)) d hf _ _ ls (lv_sub hl [1, 0] rfl) G
  · have hf := x_pos c hf
    refine lv_iconst (v := (-1 : Int32)) hx hb dX9_carry_12 (by decide) ?_
    cases hf
    exact xr_iret S G (fun _ => rfl) hr dX9_carry_13

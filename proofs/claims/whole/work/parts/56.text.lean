-- HalfLandingsModel.lawLine()V
theorem dX10_lawLine_0 : decode cX10_lawLine 0 = .ok (.aload_n 0, 1) := by decide +kernel
theorem dX10_lawLine_1 : decode cX10_lawLine 1 = .ok (.getfield 164, 3) := by decide +kernel
theorem dX10_lawLine_4 : decode cX10_lawLine 4 = .ok (.ifCond .ne 21, 3) := by decide +kernel
theorem dX10_lawLine_7 : decode cX10_lawLine 7 = .ok (.aload_n 0, 1) := by decide +kernel
theorem dX10_lawLine_8 : decode cX10_lawLine 8 = .ok (.getfield 174, 3) := by decide +kernel
theorem dX10_lawLine_11 : decode cX10_lawLine 11 = .ok (.bipush 8, 2) := by decide +kernel
theorem dX10_lawLine_13 : decode cX10_lawLine 13 = .ok (.if_icmp .lt 12, 3) := by decide +kernel
theorem dX10_lawLine_16 : decode cX10_lawLine 16 = .ok (.aload_n 0, 1) := by decide +kernel
theorem dX10_lawLine_17 : decode cX10_lawLine 17 = .ok (.getfield 174, 3) := by decide +kernel
theorem dX10_lawLine_20 : decode cX10_lawLine 20 = .ok (.bipush 10, 2) := by decide +kernel
theorem dX10_lawLine_22 : decode cX10_lawLine 22 = .ok (.if_icmp .le 8, 3) := by decide +kernel
theorem dX10_lawLine_25 : decode cX10_lawLine 25 = .ok (.aload_n 0, 1) := by decide +kernel
theorem dX10_lawLine_26 : decode cX10_lawLine 26 = .ok (.iconst 1, 1) := by decide +kernel
theorem dX10_lawLine_27 : decode cX10_lawLine 27 = .ok (.invokevirtual 208, 3) := by decide +kernel
theorem dX10_lawLine_30 : decode cX10_lawLine 30 = .ok (.aload_n 0, 1) := by decide +kernel
theorem dX10_lawLine_31 : decode cX10_lawLine 31 = .ok (.getfield 174, 3) := by decide +kernel
theorem dX10_lawLine_34 : decode cX10_lawLine 34 = .ok (.bipush 8, 2) := by decide +kernel
theorem dX10_lawLine_36 : decode cX10_lawLine 36 = .ok (.isub, 1) := by decide +kernel
theorem dX10_lawLine_37 : decode cX10_lawLine 37 = .ok (.istore_n 1, 1) := by decide +kernel
theorem dX10_lawLine_38 : decode cX10_lawLine 38 = .ok (.aload_n 0, 1) := by decide +kernel
theorem dX10_lawLine_39 : decode cX10_lawLine 39 = .ok (.getfield 199, 3) := by decide +kernel
theorem dX10_lawLine_42 : decode cX10_lawLine 42 = .ok (.ifCond .ne 23, 3) := by decide +kernel
theorem dX10_lawLine_45 : decode cX10_lawLine 45 = .ok (.aload_n 0, 1) := by decide +kernel
theorem dX10_lawLine_46 : decode cX10_lawLine 46 = .ok (.getfield 228, 3) := by decide +kernel
theorem dX10_lawLine_49 : decode cX10_lawLine 49 = .ok (.bipush 16, 2) := by decide +kernel
theorem dX10_lawLine_51 : decode cX10_lawLine 51 = .ok (.iload_n 1, 1) := by decide +kernel
theorem dX10_lawLine_52 : decode cX10_lawLine 52 = .ok (.iadd, 1) := by decide +kernel
theorem dX10_lawLine_53 : decode cX10_lawLine 53 = .ok (.ishr, 1) := by decide +kernel
theorem dX10_lawLine_54 : decode cX10_lawLine 54 = .ok (.iconst 1, 1) := by decide +kernel
theorem dX10_lawLine_55 : decode cX10_lawLine 55 = .ok (.iand, 1) := by decide +kernel
theorem dX10_lawLine_56 : decode cX10_lawLine 56 = .ok (.iconst 1, 1) := by decide +kernel
theorem dX10_lawLine_57 : decode cX10_lawLine 57 = .ok (.if_icmp .ne 8, 3) := by decide +kernel
theorem dX10_lawLine_60 : decode cX10_lawLine 60 = .ok (.aload_n 0, 1) := by decide +kernel
theorem dX10_lawLine_61 : decode cX10_lawLine 61 = .ok (.iconst 3, 1) := by decide +kernel
theorem dX10_lawLine_62 : decode cX10_lawLine 62 = .ok (.invokevirtual 208, 3) := by decide +kernel
theorem dX10_lawLine_65 : decode cX10_lawLine 65 = .ok (.aload_n 0, 1) := by decide +kernel
theorem dX10_lawLine_66 : decode cX10_lawLine 66 = .ok (.getfield 199, 3) := by decide +kernel
theorem dX10_lawLine_69 : decode cX10_lawLine 69 = .ok (.ifCond .eq 4, 3) := by decide +kernel
theorem dX10_lawLine_72 : decode cX10_lawLine 72 = .ok (.return_, 1) := by decide +kernel
theorem dX10_lawLine_73 : decode cX10_lawLine 73 = .ok (.aload_n 0, 1) := by decide +kernel
theorem dX10_lawLine_74 : decode cX10_lawLine 74 = .ok (.dup, 1) := by decide +kernel
theorem dX10_lawLine_75 : decode cX10_lawLine 75 = .ok (.getfield 228, 3) := by decide +kernel
theorem dX10_lawLine_78 : decode cX10_lawLine 78 = .ok (.iconst 1, 1) := by decide +kernel
theorem dX10_lawLine_79 : decode cX10_lawLine 79 = .ok (.bipush 16, 2) := by decide +kernel
theorem dX10_lawLine_81 : decode cX10_lawLine 81 = .ok (.iload_n 1, 1) := by decide +kernel
theorem dX10_lawLine_82 : decode cX10_lawLine 82 = .ok (.iadd, 1) := by decide +kernel
theorem dX10_lawLine_83 : decode cX10_lawLine 83 = .ok (.ishl, 1) := by decide +kernel
theorem dX10_lawLine_84 : decode cX10_lawLine 84 = .ok (.ior, 1) := by decide +kernel
theorem dX10_lawLine_85 : decode cX10_lawLine 85 = .ok (.putfield 228, 3) := by decide +kernel
theorem dX10_lawLine_88 : decode cX10_lawLine 88 = .ok (.aload_n 0, 1) := by decide +kernel
theorem dX10_lawLine_89 : decode cX10_lawLine 89 = .ok (.invokevirtual 205, 3) := by decide +kernel
theorem dX10_lawLine_92 : decode cX10_lawLine 92 = .ok (.aload_n 0, 1) := by decide +kernel
theorem dX10_lawLine_93 : decode cX10_lawLine 93 = .ok (.getfield 49, 3) := by decide +kernel
theorem dX10_lawLine_96 : decode cX10_lawLine 96 = .ok (.iconst 3, 1) := by decide +kernel
theorem dX10_lawLine_97 : decode cX10_lawLine 97 = .ok (.iload_n 1, 1) := by decide +kernel
theorem dX10_lawLine_98 : decode cX10_lawLine 98 = .ok (.iadd, 1) := by decide +kernel
theorem dX10_lawLine_99 : decode cX10_lawLine 99 = .ok (.aload_n 0, 1) := by decide +kernel
theorem dX10_lawLine_100 : decode cX10_lawLine 100 = .ok (.bipush 7, 2) := by decide +kernel
theorem dX10_lawLine_102 : decode cX10_lawLine 102 = .ok (.invokevirtual 218, 3) := by decide +kernel
theorem dX10_lawLine_105 : decode cX10_lawLine 105 = .ok (.iastore, 1) := by decide +kernel
theorem dX10_lawLine_106 : decode cX10_lawLine 106 = .ok (.aload_n 0, 1) := by decide +kernel
theorem dX10_lawLine_107 : decode cX10_lawLine 107 = .ok (.invokevirtual 252, 3) := by decide +kernel
theorem dX10_lawLine_110 : decode cX10_lawLine 110 = .ok (.aload_n 0, 1) := by decide +kernel
theorem dX10_lawLine_111 : decode cX10_lawLine 111 = .ok (.getfield 52, 3) := by decide +kernel
theorem dX10_lawLine_114 : decode cX10_lawLine 114 = .ok (.iconst 3, 1) := by decide +kernel
theorem dX10_lawLine_115 : decode cX10_lawLine 115 = .ok (.iload_n 1, 1) := by decide +kernel
theorem dX10_lawLine_116 : decode cX10_lawLine 116 = .ok (.iadd, 1) := by decide +kernel
theorem dX10_lawLine_117 : decode cX10_lawLine 117 = .ok (.aload_n 0, 1) := by decide +kernel
theorem dX10_lawLine_118 : decode cX10_lawLine 118 = .ok (.bipush 7, 2) := by decide +kernel
theorem dX10_lawLine_120 : decode cX10_lawLine 120 = .ok (.invokevirtual 218, 3) := by decide +kernel
theorem dX10_lawLine_123 : decode cX10_lawLine 123 = .ok (.iastore, 1) := by decide +kernel
theorem dX10_lawLine_124 : decode cX10_lawLine 124 = .ok (.return_, 1) := by decide +kernel
theorem hd_X10_lawLine : yX10_lawLine.cls = xCn 10 ∧ yX10_lawLine.cls ≠ "java/lang/invoke/MethodHandle" ∧ yX10_lawLine.cls ≠ "java/lang/invoke/VarHandle" ∧ (parseMethodDescriptor yX10_lawLine.desc).map (fun d => d.parameters.length) = some 0 := by decide +kernel
def k_X10_lawLine_65 (sh : List xSh) (q0 : Nat) (x1 : Int32) (d : xD) : Option xD :=
  (xgI 10 sh d q0 26).bind fun v1 => if v1 = 0 then ((xgI 10 sh d q0 19).bind fun v2 => (xpI 10 sh d q0 19 (v2 ||| ((1 : Int32) <<< (((16 : Int32) + x1) &&& 31)))).bind fun d3 => (xon 10 sh q0 (f_X10_token sh q0 d3)).bind fun d4 => (xgR 10 sh d4 q0 15).bind fun v5 => (xon 10 sh q0 (f_X10_fresher sh q0 (7 : Int32) d4)).bind fun z6 => (xsI .int sh z6.2 v5 ((3 : Int32) + x1) z6.1).bind fun d7 => (xon 10 sh q0 (f_X10_expression sh q0 d7)).bind fun d8 => (xgR 10 sh d8 q0 16).bind fun v9 => (xon 10 sh q0 (f_X10_fresher sh q0 (7 : Int32) d8)).bind fun z10 => (xsI .int sh z10.2 v9 ((3 : Int32) + x1) z10.1).bind fun d11 => some d11) else (some d)
def k_X10_lawLine_30 (sh : List xSh) (q0 : Nat) (d : xD) : Option xD :=
  (xgI 10 sh d q0 25).bind fun v12 => (xgI 10 sh d q0 26).bind fun v13 => if v13 = 0 then ((xgI 10 sh d q0 19).bind fun v14 => if ((v14 >>> (((16 : Int32) + (v12 - (8 : Int32))) &&& 31)) &&& (1 : Int32)) = (1 : Int32) then ((xon 10 sh q0 (f_X10_wrong sh q0 (3 : Int32) d)).bind fun d15 => k_X10_lawLine_65 sh q0 (v12 - (8 : Int32)) d15) else (k_X10_lawLine_65 sh q0 (v12 - (8 : Int32)) d)) else (k_X10_lawLine_65 sh q0 (v12 - (8 : Int32)) d)
def k_X10_lawLine_25 (sh : List xSh) (q0 : Nat) (d : xD) : Option xD :=
  (xon 10 sh q0 (f_X10_wrong sh q0 (1 : Int32) d)).bind fun d16 => k_X10_lawLine_30 sh q0 d16
def f_X10_lawLine (sh : List xSh) (q0 : Nat) (d : xD) : Option xD :=
  (xgI 10 sh d q0 24).bind fun v17 => if v17 = 0 then ((xgI 10 sh d q0 25).bind fun v18 => if v18 < (8 : Int32) then (k_X10_lawLine_25 sh q0 d) else ((xgI 10 sh d q0 25).bind fun v19 => if v19 ≤ (10 : Int32) then (k_X10_lawLine_30 sh q0 d) else (k_X10_lawLine_25 sh q0 d))) else (k_X10_lawLine_25 sh q0 d)
set_option maxHeartbeats 4000000 in
set_option maxRecDepth 100000 in
theorem mt_X10_lawLine (l : Launch) (D : va_G) (cid : FieldType → ClassId) (b : Nat) (ex : Bool) (sa sv B0 : Nat) (sh : List xSh) (q0 : Nat) (d : xD) (dz : xD) (hf : f_X10_lawLine sh q0 d = some dz) : xMet l yX10_lawLine cX10_lawLine 2 none 491 0 0 D cid b ex sa sv B0 [.ref (b + q0)] sh d none sh dz := by
  refine xMet.of (by decide) (Nat.le_of_ble_eq_true rfl) ?_
  intro p e s m below meth c ls A S hr hin G hl
  have hl : lv_has ls 2 [(0, .ref (b + q0))] := hl
  generalize ([.ref (b + q0)] : List Value).toArray = av at S ⊢
  have hx := S.1
  have hb := S.2.1
  have hml := S.2.2.1
  have hown := S.2.2.2.1
  have hts := S.2.2.2.2.1
  have K65 : ∀ (q0 : Nat) (x1 : Int32) (d : xD), k_X10_lawLine_65 sh q0 x1 d = some dz → ∀ (H : Heap) (locs : List Loc) (ls : Array Slot), lv_has ls 2 [(0, .ref (b + q0)), (1, .int x1)] → xG D cid b A sh d s H locs → W p l e (xRm 491 0 0) s m av below meth c H locs 0 0 (MQ below (xQ D cid b ex A none sh dz) av s 0 0 A) (F0 m 65 ls []) := by
    intro q0 x1 d hf H locs ls hl G
    unfold k_X10_lawLine_65 at hf
    refine lv_aload_n hx hb dX10_lawLine_65 rfl (lv_at hl 0 rfl) ?_
    obtain ⟨v1, hv1, hf⟩ := x_ob hf
    refine xr_getI (ci := 10) (k := 26) S G hv1 rfl kw_1194 dX10_lawLine_66 ?_
    refine lv_if_eq (tgt := 73) hx hb dX10_lawLine_69 (by decide) (fun c => ?_) (fun c => ?_)
    · have hf := x_pos c hf
      refine lv_aload_n hx hb dX10_lawLine_73 rfl (lv_at hl 0 rfl) ?_
      refine lv_dup hx hb dX10_lawLine_74 rfl ?_
      obtain ⟨v2, hv2, hf⟩ := x_ob hf
      refine xr_getI (ci := 10) (k := 19) S G hv2 rfl kw_1187 dX10_lawLine_75 ?_
      refine lv_iconst (v := (1 : Int32)) hx hb dX10_lawLine_78 (by decide) ?_
      refine lv_bipush (v := (16 : Int32)) hx hb dX10_lawLine_79 (by decide) ?_
      refine lv_iload_n hx hb dX10_lawLine_81 rfl (lv_at hl 1 rfl) ?_
      refine lv_iadd hx hb dX10_lawLine_82 ?_
      refine lv_ishl hx hb dX10_lawLine_83 ?_
      refine lv_ior hx hb dX10_lawLine_84 ?_
      obtain ⟨d3, hd3, hf⟩ := x_ob hf
      refine xr_putI (ci := 10) (k := 19) S G hd3 rfl kw_1187 dX10_lawLine_85 (fun H locs G => ?_)
      refine lv_aload_n hx hb dX10_lawLine_88 rfl (lv_at hl 0 rfl) ?_
      obtain ⟨d4, hd4, hf⟩ := x_ob hf
      obtain ⟨hqd4, hd4⟩ := xon_of hd4
      refine xr_callV (ci := 10) (As := []) (rest := []) (st1 := []) S G hl.1 (fun _ => rfl) (mt_X10_token l D cid b ex sa sv B0 sh q0 d3 _ hd4) hqd4 (by decide) kw_1380 kw_1382 ks_38 kw_17 kw_1383 hd_X10_token ⟨Nat.le_of_ble_eq_true rfl, Nat.le_of_ble_eq_true rfl⟩ rfl rfl rfl (Nat.le_of_ble_eq_true rfl) ⟨Nat.le_of_ble_eq_true rfl, Nat.le_of_ble_eq_true rfl⟩ dX10_lawLine_89 (fun H locs G => ?_)
      refine lv_aload_n hx hb dX10_lawLine_92 rfl (lv_at hl 0 rfl) ?_
      obtain ⟨v5, hv5, hf⟩ := x_ob hf
      refine xr_getR (ci := 10) (k := 15) S G hv5 rfl kw_1183 dX10_lawLine_93 ?_
      refine lv_iconst (v := (3 : Int32)) hx hb dX10_lawLine_96 (by decide) ?_
      refine lv_iload_n hx hb dX10_lawLine_97 rfl (lv_at hl 1 rfl) ?_
      refine lv_iadd hx hb dX10_lawLine_98 ?_
      refine lv_aload_n hx hb dX10_lawLine_99 rfl (lv_at hl 0 rfl) ?_
      refine lv_bipush (v := (7 : Int32)) hx hb dX10_lawLine_100 (by decide) ?_
      obtain ⟨z6, hz6, hf⟩ := x_ob hf
      obtain ⟨hqz6, hz6⟩ := xon_of hz6
      refine xr_callV (ci := 10) (As := [.int (7 : Int32)]) (rest := [.int ((3 : Int32) + x1), .ref (b + v5)]) (st1 := [.int z6.1, .int ((3 : Int32) + x1), .ref (b + v5)]) S G hl.1 (fun _ => rfl) (mt_X10_fresher l D cid b ex sa sv B0 sh q0 (7 : Int32) d4 _ _ hz6) hqz6 (by decide) kw_1422 kw_1424 ks_46 kw_17 kw_1425 hd_X10_fresher ⟨Nat.le_of_ble_eq_true rfl, Nat.le_of_ble_eq_true rfl⟩ rfl rfl rfl (Nat.le_of_ble_eq_true rfl) ⟨Nat.le_of_ble_eq_true rfl, Nat.le_of_ble_eq_true rfl⟩ dX10_lawLine_102 (fun H locs G => ?_)
      obtain ⟨d7, hd7, hf⟩ := x_ob hf
      refine xr_iast S G hd7 dX10_lawLine_105 (fun H locs G => ?_)
      refine lv_aload_n hx hb dX10_lawLine_106 rfl (lv_at hl 0 rfl) ?_
      obtain ⟨d8, hd8, hf⟩ := x_ob hf
      obtain ⟨hqd8, hd8⟩ := xon_of hd8
      refine xr_callV (ci := 10) (As := []) (rest := []) (st1 := []) S G hl.1 (fun _ => rfl) (mt_X10_expression l D cid b ex sa sv B0 sh q0 d7 _ hd8) hqd8 (by decide) kw_1449 kw_1451 ks_52 kw_17 kw_1452 hd_X10_expression ⟨Nat.le_of_ble_eq_true rfl, Nat.le_of_ble_eq_true rfl⟩ rfl rfl rfl (Nat.le_of_ble_eq_true rfl) ⟨Nat.le_of_ble_eq_true rfl, Nat.le_of_ble_eq_true rfl⟩ dX10_lawLine_107 (fun H locs G => ?_)
      refine lv_aload_n hx hb dX10_lawLine_110 rfl (lv_at hl 0 rfl) ?_
      obtain ⟨v9, hv9, hf⟩ := x_ob hf
      refine xr_getR (ci := 10) (k := 16) S G hv9 rfl kw_1184 dX10_lawLine_111 ?_
      refine lv_iconst (v := (3 : Int32)) hx hb dX10_lawLine_114 (by decide) ?_
      refine lv_iload_n hx hb dX10_lawLine_115 rfl (lv_at hl 1 rfl) ?_
      refine lv_iadd hx hb dX10_lawLine_116 ?_
      refine lv_aload_n hx hb dX10_lawLine_117 rfl (lv_at hl 0 rfl) ?_
      refine lv_bipush (v := (7 : Int32)) hx hb dX10_lawLine_118 (by decide) ?_
      obtain ⟨z10, hz10, hf⟩ := x_ob hf
      obtain ⟨hqz10, hz10⟩ := xon_of hz10
      refine xr_callV (ci := 10) (As := [.int (7 : Int32)]) (rest := [.int ((3 : Int32) + x1), .ref (b + v9)]) (st1 := [.int z10.1, .int ((3 : Int32) + x1), .ref (b + v9)]) S G hl.1 (fun _ => rfl) (mt_X10_fresher l D cid b ex sa sv B0 sh q0 (7 : Int32) d8 _ _ hz10) hqz10 (by decide) kw_1422 kw_1424 ks_46 kw_17 kw_1425 hd_X10_fresher ⟨Nat.le_of_ble_eq_true rfl, Nat.le_of_ble_eq_true rfl⟩ rfl rfl rfl (Nat.le_of_ble_eq_true rfl) ⟨Nat.le_of_ble_eq_true rfl, Nat.le_of_ble_eq_true rfl⟩ dX10_lawLine_120 (fun H locs G => ?_)
      obtain ⟨d11, hd11, hf⟩ := x_ob hf
      refine xr_iast S G hd11 dX10_lawLine_123 (fun H locs G => ?_)
      cases hf
      exact xr_vret S G (fun _ => rfl) hr dX10_lawLine_124
    · have hf := x_neg c hf
      cases hf
      exact xr_vret S G (fun _ => rfl) hr dX10_lawLine_72
  have K30 : ∀ (q0 : Nat) (d : xD), k_X10_lawLine_30 sh q0 d = some dz → ∀ (H : Heap) (locs : List Loc) (ls : Array Slot), lv_has ls 2 [(0, .ref (b + q0))] → xG D cid b A sh d s H locs → W p l e (xRm 491 0 0) s m av below meth c H locs 0 0 (MQ below (xQ D cid b ex A none sh dz) av s 0 0 A) (F0 m 30 ls []) := by
    intro q0 d hf H locs ls hl G
    unfold k_X10_lawLine_30 at hf
    refine lv_aload_n hx hb dX10_lawLine_30 rfl (lv_at hl 0 rfl) ?_
    obtain ⟨v12, hv12, hf⟩ := x_ob hf
    refine xr_getI (ci := 10) (k := 25) S G hv12 rfl kw_1193 dX10_lawLine_31 ?_
    refine lv_bipush (v := (8 : Int32)) hx hb dX10_lawLine_34 (by decide) ?_
    refine lv_isub hx hb dX10_lawLine_36 ?_
    refine lv_istore_n (lv' := [(1, .int (v12 - (8 : Int32))), (0, .ref (b + q0))]) hx hb dX10_lawLine_37 rfl hl (by decide) rfl (fun ls hl => ?_)
    refine lv_aload_n hx hb dX10_lawLine_38 rfl (lv_at hl 1 rfl) ?_
    obtain ⟨v13, hv13, hf⟩ := x_ob hf
    refine xr_getI (ci := 10) (k := 26) S G hv13 rfl kw_1194 dX10_lawLine_39 ?_
    refine lv_if_ne (tgt := 65) hx hb dX10_lawLine_42 (by decide) (fun c => ?_) (fun c => ?_)
    · have hf := x_neg c hf
      exact K65 q0 (v12 - (8 : Int32)) d hf _ _ ls (lv_sub hl [1, 0] rfl) G
    · have hf := x_pos c hf
      refine lv_aload_n hx hb dX10_lawLine_45 rfl (lv_at hl 1 rfl) ?_
      obtain ⟨v14, hv14, hf⟩ := x_ob hf
      refine xr_getI (ci := 10) (k := 19) S G hv14 rfl kw_1187 dX10_lawLine_46 ?_
      refine lv_bipush (v := (16 : Int32)) hx hb dX10_lawLine_49 (by decide) ?_
      refine lv_iload_n hx hb dX10_lawLine_51 rfl (lv_at hl 0 rfl) ?_
      refine lv_iadd hx hb dX10_lawLine_52 ?_
      refine lv_ishr hx hb dX10_lawLine_53 ?_
      refine lv_iconst (v := (1 : Int32)) hx hb dX10_lawLine_54 (by decide) ?_
      refine lv_iand hx hb dX10_lawLine_55 ?_
      refine lv_iconst (v := (1 : Int32)) hx hb dX10_lawLine_56 (by decide) ?_
      refine lv_icmp_ne (tgt := 65) hx hb dX10_lawLine_57 (by decide) (fun c => ?_) (fun c => ?_)
      · have hf := x_neg c hf
        exact K65 q0 (v12 - (8 : Int32)) d hf _ _ ls (lv_sub hl [1, 0] rfl) G
      · have hf := x_pos c hf
        refine lv_aload_n hx hb dX10_lawLine_60 rfl (lv_at hl 1 rfl) ?_
        refine lv_iconst (v := (3 : Int32)) hx hb dX10_lawLine_61 (by decide) ?_
        obtain ⟨d15, hd15, hf⟩ := x_ob hf
        obtain ⟨hqd15, hd15⟩ := xon_of hd15
        refine xr_callV (ci := 10) (As := [.int (3 : Int32)]) (rest := []) (st1 := []) S G hl.1 (fun _ => rfl) (mt_X10_wrong l D cid b ex sa sv B0 sh q0 (3 : Int32) d _ hd15) hqd15 (by decide) kw_1414 kw_1416 ks_44 kw_17 kw_1417 hd_X10_wrong ⟨Nat.le_of_ble_eq_true rfl, Nat.le_of_ble_eq_true rfl⟩ rfl rfl rfl (Nat.le_of_ble_eq_true rfl) ⟨Nat.le_of_ble_eq_true rfl, Nat.le_of_ble_eq_true rfl⟩ dX10_lawLine_62 (fun H locs G => ?_)
        exact K65 q0 (v12 - (8 : Int32)) d15 hf _ _ ls (lv_sub hl [1, 0] rfl) G
  have K25 : ∀ (q0 : Nat) (d : xD), k_X10_lawLine_25 sh q0 d = some dz → ∀ (H : Heap) (locs : List Loc) (ls : Array Slot), lv_has ls 2 [(0, .ref (b + q0))] → xG D cid b A sh d s H locs → W p l e (xRm 491 0 0) s m av below meth c H locs 0 0 (MQ below (xQ D cid b ex A none sh dz) av s 0 0 A) (F0 m 25 ls []) := by
    intro q0 d hf H locs ls hl G
    unfold k_X10_lawLine_25 at hf
    refine lv_aload_n hx hb dX10_lawLine_25 rfl (lv_at hl 0 rfl) ?_
    refine lv_iconst (v := (1 : Int32)) hx hb dX10_lawLine_26 (by decide) ?_
    obtain ⟨d16, hd16, hf⟩ := x_ob hf
    obtain ⟨hqd16, hd16⟩ := xon_of hd16
    refine xr_callV (ci := 10) (As := [.int (1 : Int32)]) (rest := []) (st1 := []) S G hl.1 (fun _ => rfl) (mt_X10_wrong l D cid b ex sa sv B0 sh q0 (1 : Int32) d _ hd16) hqd16 (by decide) kw_1414 kw_1416 ks_44 kw_17 kw_1417 hd_X10_wrong ⟨Nat.le_of_ble_eq_true rfl, Nat.le_of_ble_eq_true rfl⟩ rfl rfl rfl (Nat.le_of_ble_eq_true rfl) ⟨Nat.le_of_ble_eq_true rfl, Nat.le_of_ble_eq_true rfl⟩ dX10_lawLine_27 (fun H locs G => ?_)
    exact K30 q0 d16 hf _ _ ls (lv_sub hl [0] rfl) G
  unfold f_X10_lawLine at hf
  refine lv_aload_n hx hb dX10_lawLine_0 rfl (lv_at hl 0 rfl) ?_
  obtain ⟨v17, hv17, hf⟩ := x_ob hf
  refine xr_getI (ci := 10) (k := 24) S G hv17 rfl kw_1192 dX10_lawLine_1 ?_
  refine lv_if_ne (tgt := 25) hx hb dX10_lawLine_4 (by decide) (fun c => ?_) (fun c => ?_)
  · have hf := x_neg c hf
    exact K25 q0 d hf _ _ ls (lv_sub hl [0] rfl) G
  · have hf := x_pos c hf
    refine lv_aload_n hx hb dX10_lawLine_7 rfl (lv_at hl 0 rfl) ?_
    obtain ⟨v18, hv18, hf⟩ := x_ob hf
    refine xr_getI (ci := 10) (k := 25) S G hv18 rfl kw_1193 dX10_lawLine_8 ?_
    refine lv_bipush (v := (8 : Int32)) hx hb dX10_lawLine_11 (by decide) ?_
    refine lv_icmp_lt (tgt := 25) hx hb dX10_lawLine_13 (by decide) (fun c => ?_) (fun c => ?_)
    · have hf := x_pos c hf
      exact K25 q0 d hf _ _ ls (lv_sub hl [0] rfl) G
    · have hf := x_neg c hf
      refine lv_aload_n hx hb dX10_lawLine_16 rfl (lv_at hl 0 rfl) ?_
      obtain ⟨v19, hv19, hf⟩ := x_ob hf
      refine xr_getI (ci := 10) (k := 25) S G hv19 rfl kw_1193 dX10_lawLine_17 ?_
      refine lv_bipush (v := (10 : Int32)) hx hb dX10_lawLine_20 (by decide) ?_
      refine lv_icmp_le (tgt := 30) hx hb dX10_lawLine_22 (by decide) (fun c => ?_) (fun c => ?_)
      · have hf := x_pos c hf
        exact K30 q0 d hf _ _ ls (lv_sub hl [0] rfl) G
      · have hf := x_neg c hf
        exact K25 q0 d hf _ _ ls (lv_sub hl [0] rfl) G
-- HalfLandingsModel.line()V
theorem dX10_line_0 : decode cX10_line 0 = .ok (.aload_n 0, 1) := by decide +kernel
theorem dX10_line_1 : decode cX10_line 1 = .ok (.getfield 164, 3) := by decide +kernel
theorem dX10_line_4 : decode cX10_line 4 = .ok (.ifCond .ne 26, 3) := by decide +kernel
theorem dX10_line_7 : decode cX10_line 7 = .ok (.aload_n 0, 1) := by decide +kernel
theorem dX10_line_8 : decode cX10_line 8 = .ok (.getfield 174, 3) := by decide +kernel
theorem dX10_line_11 : decode cX10_line 11 = .ok (.bipush 7, 2) := by decide +kernel
theorem dX10_line_13 : decode cX10_line 13 = .ok (.if_icmp .gt 17, 3) := by decide +kernel
theorem dX10_line_16 : decode cX10_line 16 = .ok (.aload_n 0, 1) := by decide +kernel
theorem dX10_line_17 : decode cX10_line 17 = .ok (.getfield 174, 3) := by decide +kernel
theorem dX10_line_20 : decode cX10_line 20 = .ok (.ifCond .ne 16, 3) := by decide +kernel
theorem dX10_line_23 : decode cX10_line 23 = .ok (.aload_n 0, 1) := by decide +kernel
theorem dX10_line_24 : decode cX10_line 24 = .ok (.getfield 222, 3) := by decide +kernel
theorem dX10_line_27 : decode cX10_line 27 = .ok (.ifCond .le 9, 3) := by decide +kernel
theorem dX10_line_30 : decode cX10_line 30 = .ok (.aload_n 0, 1) := by decide +kernel
theorem dX10_line_31 : decode cX10_line 31 = .ok (.iconst 1, 1) := by decide +kernel
theorem dX10_line_32 : decode cX10_line 32 = .ok (.invokevirtual 208, 3) := by decide +kernel
theorem dX10_line_35 : decode cX10_line 35 = .ok (.return_, 1) := by decide +kernel
theorem dX10_line_36 : decode cX10_line 36 = .ok (.aload_n 0, 1) := by decide +kernel
theorem dX10_line_37 : decode cX10_line 37 = .ok (.getfield 174, 3) := by decide +kernel
theorem dX10_line_40 : decode cX10_line 40 = .ok (.istore_n 1, 1) := by decide +kernel
theorem dX10_line_41 : decode cX10_line 41 = .ok (.aload_n 0, 1) := by decide +kernel
theorem dX10_line_42 : decode cX10_line 42 = .ok (.iload_n 1, 1) := by decide +kernel
theorem dX10_line_43 : decode cX10_line 43 = .ok (.invokevirtual 225, 3) := by decide +kernel
theorem dX10_line_46 : decode cX10_line 46 = .ok (.ifCond .eq 11, 3) := by decide +kernel
theorem dX10_line_49 : decode cX10_line 49 = .ok (.aload_n 0, 1) := by decide +kernel
theorem dX10_line_50 : decode cX10_line 50 = .ok (.iconst 2, 1) := by decide +kernel
theorem dX10_line_51 : decode cX10_line 51 = .ok (.invokevirtual 208, 3) := by decide +kernel
theorem dX10_line_54 : decode cX10_line 54 = .ok (.goto 31, 3) := by decide +kernel
theorem dX10_line_57 : decode cX10_line 57 = .ok (.iload_n 1, 1) := by decide +kernel
theorem dX10_line_58 : decode cX10_line 58 = .ok (.iconst 4, 1) := by decide +kernel
theorem dX10_line_59 : decode cX10_line 59 = .ok (.if_icmp .lt 26, 3) := by decide +kernel
theorem dX10_line_62 : decode cX10_line 62 = .ok (.iload_n 1, 1) := by decide +kernel
theorem dX10_line_63 : decode cX10_line 63 = .ok (.bipush 6, 2) := by decide +kernel
theorem dX10_line_65 : decode cX10_line 65 = .ok (.if_icmp .gt 20, 3) := by decide +kernel
theorem dX10_line_68 : decode cX10_line 68 = .ok (.aload_n 0, 1) := by decide +kernel
theorem dX10_line_69 : decode cX10_line 69 = .ok (.getfield 228, 3) := by decide +kernel
theorem dX10_line_72 : decode cX10_line 72 = .ok (.iload_n 1, 1) := by decide +kernel
theorem dX10_line_73 : decode cX10_line 73 = .ok (.ishr, 1) := by decide +kernel
theorem dX10_line_74 : decode cX10_line 74 = .ok (.iconst 1, 1) := by decide +kernel
theorem dX10_line_75 : decode cX10_line 75 = .ok (.iand, 1) := by decide +kernel
theorem dX10_line_76 : decode cX10_line 76 = .ok (.iconst 1, 1) := by decide +kernel
theorem dX10_line_77 : decode cX10_line 77 = .ok (.if_icmp .ne 8, 3) := by decide +kernel
theorem dX10_line_80 : decode cX10_line 80 = .ok (.aload_n 0, 1) := by decide +kernel
theorem dX10_line_81 : decode cX10_line 81 = .ok (.iconst 3, 1) := by decide +kernel
theorem dX10_line_82 : decode cX10_line 82 = .ok (.invokevirtual 208, 3) := by decide +kernel
theorem dX10_line_85 : decode cX10_line 85 = .ok (.aload_n 0, 1) := by decide +kernel
theorem dX10_line_86 : decode cX10_line 86 = .ok (.getfield 199, 3) := by decide +kernel
theorem dX10_line_89 : decode cX10_line 89 = .ok (.ifCond .eq 4, 3) := by decide +kernel
theorem dX10_line_92 : decode cX10_line 92 = .ok (.return_, 1) := by decide +kernel
theorem dX10_line_93 : decode cX10_line 93 = .ok (.aload_n 0, 1) := by decide +kernel
theorem dX10_line_94 : decode cX10_line 94 = .ok (.dup, 1) := by decide +kernel
theorem dX10_line_95 : decode cX10_line 95 = .ok (.getfield 228, 3) := by decide +kernel
theorem dX10_line_98 : decode cX10_line 98 = .ok (.iconst 1, 1) := by decide +kernel
theorem dX10_line_99 : decode cX10_line 99 = .ok (.iload_n 1, 1) := by decide +kernel
theorem dX10_line_100 : decode cX10_line 100 = .ok (.ishl, 1) := by decide +kernel
theorem dX10_line_101 : decode cX10_line 101 = .ok (.ior, 1) := by decide +kernel
theorem dX10_line_102 : decode cX10_line 102 = .ok (.putfield 228, 3) := by decide +kernel
theorem dX10_line_105 : decode cX10_line 105 = .ok (.aload_n 0, 1) := by decide +kernel
theorem dX10_line_106 : decode cX10_line 106 = .ok (.invokevirtual 205, 3) := by decide +kernel
theorem dX10_line_109 : decode cX10_line 109 = .ok (.iload_n 1, 1) := by decide +kernel
theorem dX10_line_110 : decode cX10_line 110 = .ok (.tableswitch 407 0 6 #[42, 57, 174, 273, 356, 376, 391], 42) := by decide +kernel
theorem dX10_line_152 : decode cX10_line 152 = .ok (.aload_n 0, 1) := by decide +kernel
theorem dX10_line_153 : decode cX10_line 153 = .ok (.iconst 0, 1) := by decide +kernel
theorem dX10_line_154 : decode cX10_line 154 = .ok (.aload_n 0, 1) := by decide +kernel
theorem dX10_line_155 : decode cX10_line 155 = .ok (.iconst 2, 1) := by decide +kernel
theorem dX10_line_156 : decode cX10_line 156 = .ok (.bipush 60, 2) := by decide +kernel
theorem dX10_line_158 : decode cX10_line 158 = .ok (.invokevirtual 231, 3) := by decide +kernel
theorem dX10_line_161 : decode cX10_line 161 = .ok (.invokevirtual 235, 3) := by decide +kernel
theorem dX10_line_164 : decode cX10_line 164 = .ok (.goto 357, 3) := by decide +kernel
theorem dX10_line_167 : decode cX10_line 167 = .ok (.bipush 8, 2) := by decide +kernel
theorem dX10_line_169 : decode cX10_line 169 = .ok (.aload_n 0, 1) := by decide +kernel
theorem dX10_line_170 : decode cX10_line 170 = .ok (.iconst 1, 1) := by decide +kernel
theorem dX10_line_171 : decode cX10_line 171 = .ok (.invokevirtual 218, 3) := by decide +kernel
theorem dX10_line_174 : decode cX10_line 174 = .ok (.iadd, 1) := by decide +kernel
theorem dX10_line_175 : decode cX10_line 175 = .ok (.istore_n 2, 1) := by decide +kernel
theorem dX10_line_176 : decode cX10_line 176 = .ok (.aload_n 0, 1) := by decide +kernel
theorem dX10_line_177 : decode cX10_line 177 = .ok (.getfield 16, 3) := by decide +kernel
theorem dX10_line_180 : decode cX10_line 180 = .ok (.iload_n 2, 1) := by decide +kernel
theorem dX10_line_181 : decode cX10_line 181 = .ok (.aload_n 0, 1) := by decide +kernel
theorem dX10_line_182 : decode cX10_line 182 = .ok (.aload_n 0, 1) := by decide +kernel
theorem dX10_line_183 : decode cX10_line 183 = .ok (.getfield 16, 3) := by decide +kernel
theorem dX10_line_186 : decode cX10_line 186 = .ok (.bipush 8, 2) := by decide +kernel
theorem dX10_line_188 : decode cX10_line 188 = .ok (.aload_n 0, 1) := by decide +kernel
theorem dX10_line_189 : decode cX10_line 189 = .ok (.iconst 1, 1) := by decide +kernel
theorem dX10_line_190 : decode cX10_line 190 = .ok (.invokevirtual 218, 3) := by decide +kernel
theorem dX10_line_193 : decode cX10_line 193 = .ok (.invokevirtual 239, 3) := by decide +kernel
theorem dX10_line_196 : decode cX10_line 196 = .ok (.iastore, 1) := by decide +kernel
theorem dX10_line_197 : decode cX10_line 197 = .ok (.aload_n 0, 1) := by decide +kernel
theorem dX10_line_198 : decode cX10_line 198 = .ok (.getfield 199, 3) := by decide +kernel
theorem dX10_line_201 : decode cX10_line 201 = .ok (.ifCond .ne 38, 3) := by decide +kernel
theorem dX10_line_204 : decode cX10_line 204 = .ok (.aload_n 0, 1) := by decide +kernel
theorem dX10_line_205 : decode cX10_line 205 = .ok (.getfield 164, 3) := by decide +kernel
theorem dX10_line_208 : decode cX10_line 208 = .ok (.iconst 2, 1) := by decide +kernel
theorem dX10_line_209 : decode cX10_line 209 = .ok (.if_icmp .ne 30, 3) := by decide +kernel
theorem dX10_line_212 : decode cX10_line 212 = .ok (.aload_n 0, 1) := by decide +kernel
theorem dX10_line_213 : decode cX10_line 213 = .ok (.getfield 19, 3) := by decide +kernel
theorem dX10_line_216 : decode cX10_line 216 = .ok (.bipush 8, 2) := by decide +kernel
theorem dX10_line_218 : decode cX10_line 218 = .ok (.aload_n 0, 1) := by decide +kernel
theorem dX10_line_219 : decode cX10_line 219 = .ok (.iconst 1, 1) := by decide +kernel
theorem dX10_line_220 : decode cX10_line 220 = .ok (.invokevirtual 218, 3) := by decide +kernel
theorem dX10_line_223 : decode cX10_line 223 = .ok (.aload_n 0, 1) := by decide +kernel
theorem dX10_line_224 : decode cX10_line 224 = .ok (.getfield 174, 3) := by decide +kernel
theorem dX10_line_227 : decode cX10_line 227 = .ok (.invokestatic 211, 3) := by decide +kernel
theorem dX10_line_230 : decode cX10_line 230 = .ok (.iconst (-1), 1) := by decide +kernel
theorem dX10_line_231 : decode cX10_line 231 = .ok (.if_icmp .eq 8, 3) := by decide +kernel
theorem dX10_line_234 : decode cX10_line 234 = .ok (.aload_n 0, 1) := by decide +kernel
theorem dX10_line_235 : decode cX10_line 235 = .ok (.iconst 3, 1) := by decide +kernel
theorem dX10_line_236 : decode cX10_line 236 = .ok (.invokevirtual 208, 3) := by decide +kernel
theorem dX10_line_239 : decode cX10_line 239 = .ok (.aload_n 0, 1) := by decide +kernel
theorem dX10_line_240 : decode cX10_line 240 = .ok (.getfield 19, 3) := by decide +kernel
theorem dX10_line_243 : decode cX10_line 243 = .ok (.iload_n 2, 1) := by decide +kernel
theorem dX10_line_244 : decode cX10_line 244 = .ok (.aload_n 0, 1) := by decide +kernel
theorem dX10_line_245 : decode cX10_line 245 = .ok (.iconst 1, 1) := by decide +kernel
theorem dX10_line_246 : decode cX10_line 246 = .ok (.aload_n 0, 1) := by decide +kernel
theorem dX10_line_247 : decode cX10_line 247 = .ok (.iconst 0, 1) := by decide +kernel
theorem dX10_line_248 : decode cX10_line 248 = .ok (.invokevirtual 218, 3) := by decide +kernel
theorem dX10_line_251 : decode cX10_line 251 = .ok (.iconst 1, 1) := by decide +kernel
theorem dX10_line_252 : decode cX10_line 252 = .ok (.isub, 1) := by decide +kernel
theorem dX10_line_253 : decode cX10_line 253 = .ok (.invokevirtual 231, 3) := by decide +kernel
theorem dX10_line_256 : decode cX10_line 256 = .ok (.iastore, 1) := by decide +kernel
theorem dX10_line_257 : decode cX10_line 257 = .ok (.aload_n 0, 1) := by decide +kernel
theorem dX10_line_258 : decode cX10_line 258 = .ok (.getfield 22, 3) := by decide +kernel
theorem dX10_line_261 : decode cX10_line 261 = .ok (.iload_n 2, 1) := by decide +kernel
theorem dX10_line_262 : decode cX10_line 262 = .ok (.aload_n 0, 1) := by decide +kernel
theorem dX10_line_263 : decode cX10_line 263 = .ok (.iconst 1, 1) := by decide +kernel
theorem dX10_line_264 : decode cX10_line 264 = .ok (.iconst 3, 1) := by decide +kernel
theorem dX10_line_265 : decode cX10_line 265 = .ok (.invokevirtual 231, 3) := by decide +kernel
theorem dX10_line_268 : decode cX10_line 268 = .ok (.iastore, 1) := by decide +kernel
theorem dX10_line_269 : decode cX10_line 269 = .ok (.aload_n 0, 1) := by decide +kernel
theorem dX10_line_270 : decode cX10_line 270 = .ok (.iconst 1, 1) := by decide +kernel
theorem dX10_line_271 : decode cX10_line 271 = .ok (.aload_n 0, 1) := by decide +kernel
theorem dX10_line_272 : decode cX10_line 272 = .ok (.iconst 1, 1) := by decide +kernel
theorem dX10_line_273 : decode cX10_line 273 = .ok (.invokevirtual 218, 3) := by decide +kernel
theorem dX10_line_276 : decode cX10_line 276 = .ok (.iconst 1, 1) := by decide +kernel
theorem dX10_line_277 : decode cX10_line 277 = .ok (.iadd, 1) := by decide +kernel
theorem dX10_line_278 : decode cX10_line 278 = .ok (.invokevirtual 235, 3) := by decide +kernel
theorem dX10_line_281 : decode cX10_line 281 = .ok (.goto 240, 3) := by decide +kernel
theorem dX10_line_284 : decode cX10_line 284 = .ok (.bipush 6, 2) := by decide +kernel
theorem dX10_line_286 : decode cX10_line 286 = .ok (.aload_n 0, 1) := by decide +kernel
theorem dX10_line_287 : decode cX10_line 287 = .ok (.iconst 2, 1) := by decide +kernel
theorem dX10_line_288 : decode cX10_line 288 = .ok (.invokevirtual 218, 3) := by decide +kernel
theorem dX10_line_291 : decode cX10_line 291 = .ok (.iadd, 1) := by decide +kernel
theorem dX10_line_292 : decode cX10_line 292 = .ok (.istore_n 3, 1) := by decide +kernel
theorem dX10_line_293 : decode cX10_line 293 = .ok (.aload_n 0, 1) := by decide +kernel
theorem dX10_line_294 : decode cX10_line 294 = .ok (.getfield 25, 3) := by decide +kernel
theorem dX10_line_297 : decode cX10_line 297 = .ok (.iload_n 3, 1) := by decide +kernel
theorem dX10_line_298 : decode cX10_line 298 = .ok (.aload_n 0, 1) := by decide +kernel
theorem dX10_line_299 : decode cX10_line 299 = .ok (.aload_n 0, 1) := by decide +kernel
theorem dX10_line_300 : decode cX10_line 300 = .ok (.getfield 25, 3) := by decide +kernel
theorem dX10_line_303 : decode cX10_line 303 = .ok (.bipush 6, 2) := by decide +kernel
theorem dX10_line_305 : decode cX10_line 305 = .ok (.aload_n 0, 1) := by decide +kernel
theorem dX10_line_306 : decode cX10_line 306 = .ok (.iconst 2, 1) := by decide +kernel
theorem dX10_line_307 : decode cX10_line 307 = .ok (.invokevirtual 218, 3) := by decide +kernel
theorem dX10_line_310 : decode cX10_line 310 = .ok (.invokevirtual 239, 3) := by decide +kernel
theorem dX10_line_313 : decode cX10_line 313 = .ok (.iastore, 1) := by decide +kernel
theorem dX10_line_314 : decode cX10_line 314 = .ok (.aload_n 0, 1) := by decide +kernel
theorem dX10_line_315 : decode cX10_line 315 = .ok (.getfield 28, 3) := by decide +kernel
theorem dX10_line_318 : decode cX10_line 318 = .ok (.iload_n 3, 1) := by decide +kernel
theorem dX10_line_319 : decode cX10_line 319 = .ok (.aload_n 0, 1) := by decide +kernel
theorem dX10_line_320 : decode cX10_line 320 = .ok (.iconst 0, 1) := by decide +kernel
theorem dX10_line_321 : decode cX10_line 321 = .ok (.aload_n 0, 1) := by decide +kernel
theorem dX10_line_322 : decode cX10_line 322 = .ok (.iconst 0, 1) := by decide +kernel
theorem dX10_line_323 : decode cX10_line 323 = .ok (.invokevirtual 218, 3) := by decide +kernel
theorem dX10_line_326 : decode cX10_line 326 = .ok (.invokevirtual 231, 3) := by decide +kernel
theorem dX10_line_329 : decode cX10_line 329 = .ok (.iastore, 1) := by decide +kernel
theorem dX10_line_330 : decode cX10_line 330 = .ok (.aload_n 0, 1) := by decide +kernel
theorem dX10_line_331 : decode cX10_line 331 = .ok (.getfield 31, 3) := by decide +kernel
theorem dX10_line_334 : decode cX10_line 334 = .ok (.iload_n 3, 1) := by decide +kernel
theorem dX10_line_335 : decode cX10_line 335 = .ok (.aload_n 0, 1) := by decide +kernel
theorem dX10_line_336 : decode cX10_line 336 = .ok (.iconst 0, 1) := by decide +kernel
theorem dX10_line_337 : decode cX10_line 337 = .ok (.iconst 1, 1) := by decide +kernel
theorem dX10_line_338 : decode cX10_line 338 = .ok (.invokevirtual 231, 3) := by decide +kernel
theorem dX10_line_341 : decode cX10_line 341 = .ok (.iastore, 1) := by decide +kernel
theorem dX10_line_342 : decode cX10_line 342 = .ok (.aload_n 0, 1) := by decide +kernel
theorem dX10_line_343 : decode cX10_line 343 = .ok (.getfield 34, 3) := by decide +kernel
theorem dX10_line_346 : decode cX10_line 346 = .ok (.iload_n 3, 1) := by decide +kernel
theorem dX10_line_347 : decode cX10_line 347 = .ok (.aload_n 0, 1) := by decide +kernel
theorem dX10_line_348 : decode cX10_line 348 = .ok (.iconst 1, 1) := by decide +kernel
theorem dX10_line_349 : decode cX10_line 349 = .ok (.bipush 9, 2) := by decide +kernel
theorem dX10_line_351 : decode cX10_line 351 = .ok (.invokevirtual 231, 3) := by decide +kernel
theorem dX10_line_354 : decode cX10_line 354 = .ok (.iastore, 1) := by decide +kernel
theorem dX10_line_355 : decode cX10_line 355 = .ok (.aload_n 0, 1) := by decide +kernel
theorem dX10_line_356 : decode cX10_line 356 = .ok (.getfield 37, 3) := by decide +kernel
theorem dX10_line_359 : decode cX10_line 359 = .ok (.iload_n 3, 1) := by decide +kernel
theorem dX10_line_360 : decode cX10_line 360 = .ok (.aload_n 0, 1) := by decide +kernel
theorem dX10_line_361 : decode cX10_line 361 = .ok (.iconst 0, 1) := by decide +kernel
theorem dX10_line_362 : decode cX10_line 362 = .ok (.bipush 99, 2) := by decide +kernel
theorem dX10_line_364 : decode cX10_line 364 = .ok (.invokevirtual 231, 3) := by decide +kernel
theorem dX10_line_367 : decode cX10_line 367 = .ok (.iastore, 1) := by decide +kernel
theorem dX10_line_368 : decode cX10_line 368 = .ok (.aload_n 0, 1) := by decide +kernel
theorem dX10_line_369 : decode cX10_line 369 = .ok (.iconst 2, 1) := by decide +kernel
theorem dX10_line_370 : decode cX10_line 370 = .ok (.aload_n 0, 1) := by decide +kernel
theorem dX10_line_371 : decode cX10_line 371 = .ok (.iconst 2, 1) := by decide +kernel
theorem dX10_line_372 : decode cX10_line 372 = .ok (.invokevirtual 218, 3) := by decide +kernel
theorem dX10_line_375 : decode cX10_line 375 = .ok (.iconst 1, 1) := by decide +kernel
theorem dX10_line_376 : decode cX10_line 376 = .ok (.iadd, 1) := by decide +kernel
theorem dX10_line_377 : decode cX10_line 377 = .ok (.invokevirtual 235, 3) := by decide +kernel
theorem dX10_line_380 : decode cX10_line 380 = .ok (.goto 141, 3) := by decide +kernel
theorem dX10_line_383 : decode cX10_line 383 = .ok (.bipush 12, 2) := by decide +kernel
theorem dX10_line_385 : decode cX10_line 385 = .ok (.aload_n 0, 1) := by decide +kernel
theorem dX10_line_386 : decode cX10_line 386 = .ok (.iconst 3, 1) := by decide +kernel
theorem dX10_line_387 : decode cX10_line 387 = .ok (.invokevirtual 218, 3) := by decide +kernel
theorem dX10_line_390 : decode cX10_line 390 = .ok (.iadd, 1) := by decide +kernel
theorem dX10_line_391 : decode cX10_line 391 = .ok (.istore 4, 2) := by decide +kernel
theorem dX10_line_393 : decode cX10_line 393 = .ok (.aload_n 0, 1) := by decide +kernel
theorem dX10_line_394 : decode cX10_line 394 = .ok (.getfield 40, 3) := by decide +kernel
theorem dX10_line_397 : decode cX10_line 397 = .ok (.iload 4, 2) := by decide +kernel
theorem dX10_line_399 : decode cX10_line 399 = .ok (.aload_n 0, 1) := by decide +kernel
theorem dX10_line_400 : decode cX10_line 400 = .ok (.aload_n 0, 1) := by decide +kernel
theorem dX10_line_401 : decode cX10_line 401 = .ok (.getfield 25, 3) := by decide +kernel
theorem dX10_line_404 : decode cX10_line 404 = .ok (.bipush 6, 2) := by decide +kernel
theorem dX10_line_406 : decode cX10_line 406 = .ok (.aload_n 0, 1) := by decide +kernel
theorem dX10_line_407 : decode cX10_line 407 = .ok (.iconst 2, 1) := by decide +kernel
theorem dX10_line_408 : decode cX10_line 408 = .ok (.invokevirtual 218, 3) := by decide +kernel
theorem dX10_line_411 : decode cX10_line 411 = .ok (.invokevirtual 243, 3) := by decide +kernel
theorem dX10_line_414 : decode cX10_line 414 = .ok (.iastore, 1) := by decide +kernel
theorem dX10_line_415 : decode cX10_line 415 = .ok (.aload_n 0, 1) := by decide +kernel
theorem dX10_line_416 : decode cX10_line 416 = .ok (.getfield 43, 3) := by decide +kernel
theorem dX10_line_419 : decode cX10_line 419 = .ok (.iload 4, 2) := by decide +kernel
theorem dX10_line_421 : decode cX10_line 421 = .ok (.aload_n 0, 1) := by decide +kernel
theorem dX10_line_422 : decode cX10_line 422 = .ok (.aload_n 0, 1) := by decide +kernel
theorem dX10_line_423 : decode cX10_line 423 = .ok (.getfield 16, 3) := by decide +kernel
theorem dX10_line_426 : decode cX10_line 426 = .ok (.bipush 8, 2) := by decide +kernel
theorem dX10_line_428 : decode cX10_line 428 = .ok (.aload_n 0, 1) := by decide +kernel
theorem dX10_line_429 : decode cX10_line 429 = .ok (.iconst 1, 1) := by decide +kernel
theorem dX10_line_430 : decode cX10_line 430 = .ok (.invokevirtual 218, 3) := by decide +kernel
theorem dX10_line_433 : decode cX10_line 433 = .ok (.invokevirtual 243, 3) := by decide +kernel
theorem dX10_line_436 : decode cX10_line 436 = .ok (.iastore, 1) := by decide +kernel
theorem dX10_line_437 : decode cX10_line 437 = .ok (.aload_n 0, 1) := by decide +kernel
theorem dX10_line_438 : decode cX10_line 438 = .ok (.getfield 46, 3) := by decide +kernel
theorem dX10_line_441 : decode cX10_line 441 = .ok (.iload 4, 2) := by decide +kernel
theorem dX10_line_443 : decode cX10_line 443 = .ok (.aload_n 0, 1) := by decide +kernel
theorem dX10_line_444 : decode cX10_line 444 = .ok (.iconst 1, 1) := by decide +kernel
theorem dX10_line_445 : decode cX10_line 445 = .ok (.bipush 30, 2) := by decide +kernel
theorem dX10_line_447 : decode cX10_line 447 = .ok (.invokevirtual 231, 3) := by decide +kernel
theorem dX10_line_450 : decode cX10_line 450 = .ok (.iastore, 1) := by decide +kernel
theorem dX10_line_451 : decode cX10_line 451 = .ok (.aload_n 0, 1) := by decide +kernel
theorem dX10_line_452 : decode cX10_line 452 = .ok (.iconst 3, 1) := by decide +kernel
theorem dX10_line_453 : decode cX10_line 453 = .ok (.aload_n 0, 1) := by decide +kernel
theorem dX10_line_454 : decode cX10_line 454 = .ok (.iconst 3, 1) := by decide +kernel
theorem dX10_line_455 : decode cX10_line 455 = .ok (.invokevirtual 218, 3) := by decide +kernel
theorem dX10_line_458 : decode cX10_line 458 = .ok (.iconst 1, 1) := by decide +kernel
theorem dX10_line_459 : decode cX10_line 459 = .ok (.iadd, 1) := by decide +kernel
theorem dX10_line_460 : decode cX10_line 460 = .ok (.invokevirtual 235, 3) := by decide +kernel
theorem dX10_line_463 : decode cX10_line 463 = .ok (.goto 58, 3) := by decide +kernel
theorem dX10_line_466 : decode cX10_line 466 = .ok (.aload_n 0, 1) := by decide +kernel
theorem dX10_line_467 : decode cX10_line 467 = .ok (.iconst 4, 1) := by decide +kernel
theorem dX10_line_468 : decode cX10_line 468 = .ok (.aload_n 0, 1) := by decide +kernel
theorem dX10_line_469 : decode cX10_line 469 = .ok (.iconst 1, 1) := by decide +kernel
theorem dX10_line_470 : decode cX10_line 470 = .ok (.aload_n 0, 1) := by decide +kernel
theorem dX10_line_471 : decode cX10_line 471 = .ok (.iconst 0, 1) := by decide +kernel
theorem dX10_line_472 : decode cX10_line 472 = .ok (.invokevirtual 218, 3) := by decide +kernel
theorem dX10_line_475 : decode cX10_line 475 = .ok (.iconst 1, 1) := by decide +kernel
theorem dX10_line_476 : decode cX10_line 476 = .ok (.isub, 1) := by decide +kernel
theorem dX10_line_477 : decode cX10_line 477 = .ok (.invokevirtual 231, 3) := by decide +kernel
theorem dX10_line_480 : decode cX10_line 480 = .ok (.invokevirtual 235, 3) := by decide +kernel
theorem dX10_line_483 : decode cX10_line 483 = .ok (.goto 38, 3) := by decide +kernel
theorem dX10_line_486 : decode cX10_line 486 = .ok (.aload_n 0, 1) := by decide +kernel
theorem dX10_line_487 : decode cX10_line 487 = .ok (.iconst 5, 1) := by decide +kernel
theorem dX10_line_488 : decode cX10_line 488 = .ok (.aload_n 0, 1) := by decide +kernel
theorem dX10_line_489 : decode cX10_line 489 = .ok (.iconst 0, 1) := by decide +kernel
theorem dX10_line_490 : decode cX10_line 490 = .ok (.bipush 100, 2) := by decide +kernel
theorem dX10_line_492 : decode cX10_line 492 = .ok (.invokevirtual 231, 3) := by decide +kernel
theorem dX10_line_495 : decode cX10_line 495 = .ok (.invokevirtual 235, 3) := by decide +kernel
theorem dX10_line_498 : decode cX10_line 498 = .ok (.goto 23, 3) := by decide +kernel
theorem dX10_line_501 : decode cX10_line 501 = .ok (.aload_n 0, 1) := by decide +kernel
theorem dX10_line_502 : decode cX10_line 502 = .ok (.bipush 6, 2) := by decide +kernel
theorem dX10_line_504 : decode cX10_line 504 = .ok (.aload_n 0, 1) := by decide +kernel
theorem dX10_line_505 : decode cX10_line 505 = .ok (.iconst 0, 1) := by decide +kernel
theorem dX10_line_506 : decode cX10_line 506 = .ok (.ldc 183, 2) := by decide +kernel
theorem dX10_line_508 : decode cX10_line 508 = .ok (.invokevirtual 231, 3) := by decide +kernel
theorem dX10_line_511 : decode cX10_line 511 = .ok (.invokevirtual 235, 3) := by decide +kernel
theorem dX10_line_514 : decode cX10_line 514 = .ok (.goto 7, 3) := by decide +kernel
theorem dX10_line_517 : decode cX10_line 517 = .ok (.aload_n 0, 1) := by decide +kernel
theorem dX10_line_518 : decode cX10_line 518 = .ok (.invokevirtual 246, 3) := by decide +kernel
theorem dX10_line_521 : decode cX10_line 521 = .ok (.aload_n 0, 1) := by decide +kernel
theorem dX10_line_522 : decode cX10_line 522 = .ok (.getfield 199, 3) := by decide +kernel
theorem dX10_line_525 : decode cX10_line 525 = .ok (.ifCond .eq 4, 3) := by decide +kernel
theorem dX10_line_528 : decode cX10_line 528 = .ok (.return_, 1) := by decide +kernel
theorem dX10_line_529 : decode cX10_line 529 = .ok (.aload_n 0, 1) := by decide +kernel
theorem dX10_line_530 : decode cX10_line 530 = .ok (.bipush 59, 2) := by decide +kernel
theorem dX10_line_532 : decode cX10_line 532 = .ok (.invokevirtual 249, 3) := by decide +kernel
theorem dX10_line_535 : decode cX10_line 535 = .ok (.ifCond .ne 11, 3) := by decide +kernel
theorem dX10_line_538 : decode cX10_line 538 = .ok (.aload_n 0, 1) := by decide +kernel
theorem dX10_line_539 : decode cX10_line 539 = .ok (.iconst 1, 1) := by decide +kernel
theorem dX10_line_540 : decode cX10_line 540 = .ok (.invokevirtual 208, 3) := by decide +kernel
theorem dX10_line_543 : decode cX10_line 543 = .ok (.goto 7, 3) := by decide +kernel
theorem dX10_line_546 : decode cX10_line 546 = .ok (.aload_n 0, 1) := by decide +kernel
theorem dX10_line_547 : decode cX10_line 547 = .ok (.invokevirtual 205, 3) := by decide +kernel
theorem dX10_line_550 : decode cX10_line 550 = .ok (.aload_n 0, 1) := by decide +kernel
theorem dX10_line_551 : decode cX10_line 551 = .ok (.dup, 1) := by decide +kernel
theorem dX10_line_552 : decode cX10_line 552 = .ok (.getfield 222, 3) := by decide +kernel
theorem dX10_line_555 : decode cX10_line 555 = .ok (.iconst 1, 1) := by decide +kernel
theorem dX10_line_556 : decode cX10_line 556 = .ok (.iadd, 1) := by decide +kernel
theorem dX10_line_557 : decode cX10_line 557 = .ok (.putfield 222, 3) := by decide +kernel
theorem dX10_line_560 : decode cX10_line 560 = .ok (.return_, 1) := by decide +kernel
theorem hd_X10_line : yX10_line.cls = xCn 10 ∧ yX10_line.cls ≠ "java/lang/invoke/MethodHandle" ∧ yX10_line.cls ≠ "java/lang/invoke/VarHandle" ∧ (parseMethodDescriptor yX10_line.desc).map (fun d => d.parameters.length) = some 0 := by decide +kernel
def k_X10_line_30 (sh : List xSh) (q0 : Nat) (d : xD) : Option xD :=
  (xon 10 sh q0 (f_X10_wrong sh q0 (1 : Int32) d)).bind fun d1 => some d1
def k_X10_line_550 (sh : List xSh) (q0 : Nat) (d : xD) : Option xD :=
  (xgI 10 sh d q0 20).bind fun v2 => (xpI 10 sh d q0 20 (v2 + (1 : Int32))).bind fun d3 => some d3
def k_X10_line_521 (sh : List xSh) (q0 : Nat) (d : xD) : Option xD :=
  (xgI 10 sh d q0 26).bind fun v4 => if v4 = 0 then ((xon 10 sh q0 (f_X10_isSign sh q0 (59 : Int32) d)).bind fun z5 => if z5.1 = 0 then ((xon 10 sh q0 (f_X10_wrong sh q0 (1 : Int32) z5.2)).bind fun d7 => k_X10_line_550 sh q0 d7) else ((xon 10 sh q0 (f_X10_token sh q0 z5.2)).bind fun d6 => k_X10_line_550 sh q0 d6)) else (some d)
def k_X10_line_239 (sh : List xSh) (q0 : Nat) (x2 : Int32) (d : xD) : Option xD :=
  (xgR 10 sh d q0 5).bind fun v8 => (xon 10 sh q0 (f_X10_fresher sh q0 (0 : Int32) d)).bind fun z9 => (xon 10 sh q0 (f_X10_numeral sh q0 (1 : Int32) (z9.1 - (1 : Int32)) z9.2)).bind fun z10 => (xsI .int sh z10.2 v8 x2 z10.1).bind fun d11 => (xgR 10 sh d11 q0 6).bind fun v12 => (xon 10 sh q0 (f_X10_numeral sh q0 (1 : Int32) (3 : Int32) d11)).bind fun z13 => (xsI .int sh z13.2 v12 x2 z13.1).bind fun d14 => (xon 10 sh q0 (f_X10_fresher sh q0 (1 : Int32) d14)).bind fun z15 => (xon 10 sh q0 (f_X10_reads sh q0 (1 : Int32) (z15.1 + (1 : Int32)) z15.2)).bind fun d16 => k_X10_line_521 sh q0 d16
def k_X10_line_85 (sh : List xSh) (q0 : Nat) (x1 : Int32) (d : xD) : Option xD :=
  (xgI 10 sh d q0 26).bind fun v17 => if v17 = 0 then ((xgI 10 sh d q0 19).bind fun v18 => (xpI 10 sh d q0 19 (v18 ||| ((1 : Int32) <<< (x1 &&& 31)))).bind fun d19 => (xon 10 sh q0 (f_X10_token sh q0 d19)).bind fun d20 => if x1 = (0 : Int32) then ((xon 10 sh q0 (f_X10_numeral sh q0 (2 : Int32) (60 : Int32) d20)).bind fun z22 => (xon 10 sh q0 (f_X10_reads sh q0 (0 : Int32) z22.1 z22.2)).bind fun d23 => k_X10_line_521 sh q0 d23) else (if x1 = (1 : Int32) then ((xon 10 sh q0 (f_X10_fresher sh q0 (1 : Int32) d20)).bind fun z25 => (xgR 10 sh z25.2 q0 4).bind fun v26 => (xgR 10 sh z25.2 q0 4).bind fun v27 => (xon 10 sh q0 (f_X10_fresher sh q0 (1 : Int32) z25.2)).bind fun z28 => (xon 10 sh q0 (f_X10_fresh sh q0 v27 (8 : Int32) z28.1 z28.2)).bind fun z29 => (xsI .int sh z29.2 v26 ((8 : Int32) + z25.1) z29.1).bind fun d30 => (xgI 10 sh d30 q0 26).bind fun v31 => if v31 = 0 then ((xgI 10 sh d30 q0 24).bind fun v32 => if v32 = (2 : Int32) then ((xgR 10 sh d30 q0 5).bind fun v33 => (xon 10 sh q0 (f_X10_fresher sh q0 (1 : Int32) d30)).bind fun z34 => (xgI 10 sh z34.2 q0 25).bind fun v35 => (f_X10_found sh v33 (8 : Int32) z34.1 v35 z34.2).bind fun z36 => if z36.1 = (-1 : Int32) then (k_X10_line_239 sh q0 ((8 : Int32) + z25.1) z36.2) else ((xon 10 sh q0 (f_X10_wrong sh q0 (3 : Int32) z36.2)).bind fun d37 => k_X10_line_239 sh q0 ((8 : Int32) + z25.1) d37)) else (k_X10_line_239 sh q0 ((8 : Int32) + z25.1) d30)) else (k_X10_line_239 sh q0 ((8 : Int32) + z25.1) d30)) else (if x1 = (2 : Int32) then ((xon 10 sh q0 (f_X10_fresher sh q0 (2 : Int32) d20)).bind fun z39 => (xgR 10 sh z39.2 q0 7).bind fun v40 => (xgR 10 sh z39.2 q0 7).bind fun v41 => (xon 10 sh q0 (f_X10_fresher sh q0 (2 : Int32) z39.2)).bind fun z42 => (xon 10 sh q0 (f_X10_fresh sh q0 v41 (6 : Int32) z42.1 z42.2)).bind fun z43 => (xsI .int sh z43.2 v40 ((6 : Int32) + z39.1) z43.1).bind fun d44 => (xgR 10 sh d44 q0 8).bind fun v45 => (xon 10 sh q0 (f_X10_fresher sh q0 (0 : Int32) d44)).bind fun z46 => (xon 10 sh q0 (f_X10_numeral sh q0 (0 : Int32) z46.1 z46.2)).bind fun z47 => (xsI .int sh z47.2 v45 ((6 : Int32) + z39.1) z47.1).bind fun d48 => (xgR 10 sh d48 q0 9).bind fun v49 => (xon 10 sh q0 (f_X10_numeral sh q0 (0 : Int32) (1 : Int32) d48)).bind fun z50 => (xsI .int sh z50.2 v49 ((6 : Int32) + z39.1) z50.1).bind fun d51 => (xgR 10 sh d51 q0 10).bind fun v52 => (xon 10 sh q0 (f_X10_numeral sh q0 (1 : Int32) (9 : Int32) d51)).bind fun z53 => (xsI .int sh z53.2 v52 ((6 : Int32) + z39.1) z53.1).bind fun d54 => (xgR 10 sh d54 q0 11).bind fun v55 => (xon 10 sh q0 (f_X10_numeral sh q0 (0 : Int32) (99 : Int32) d54)).bind fun z56 => (xsI .int sh z56.2 v55 ((6 : Int32) + z39.1) z56.1).bind fun d57 => (xon 10 sh q0 (f_X10_fresher sh q0 (2 : Int32) d57)).bind fun z58 => (xon 10 sh q0 (f_X10_reads sh q0 (2 : Int32) (z58.1 + (1 : Int32)) z58.2)).bind fun d59 => k_X10_line_521 sh q0 d59) else (if x1 = (3 : Int32) then ((xon 10 sh q0 (f_X10_fresher sh q0 (3 : Int32) d20)).bind fun z61 => (xgR 10 sh z61.2 q0 12).bind fun v62 => (xgR 10 sh z61.2 q0 7).bind fun v63 => (xon 10 sh q0 (f_X10_fresher sh q0 (2 : Int32) z61.2)).bind fun z64 => (xon 10 sh q0 (f_X10_toldAhead sh q0 v63 (6 : Int32) z64.1 z64.2)).bind fun z65 => (xsI .int sh z65.2 v62 ((12 : Int32) + z61.1) z65.1).bind fun d66 => (xgR 10 sh d66 q0 13).bind fun v67 => (xgR 10 sh d66 q0 4).bind fun v68 => (xon 10 sh q0 (f_X10_fresher sh q0 (1 : Int32) d66)).bind fun z69 => (xon 10 sh q0 (f_X10_toldAhead sh q0 v68 (8 : Int32) z69.1 z69.2)).bind fun z70 => (xsI .int sh z70.2 v67 ((12 : Int32) + z61.1) z70.1).bind fun d71 => (xgR 10 sh d71 q0 14).bind fun v72 => (xon 10 sh q0 (f_X10_numeral sh q0 (1 : Int32) (30 : Int32) d71)).bind fun z73 => (xsI .int sh z73.2 v72 ((12 : Int32) + z61.1) z73.1).bind fun d74 => (xon 10 sh q0 (f_X10_fresher sh q0 (3 : Int32) d74)).bind fun z75 => (xon 10 sh q0 (f_X10_reads sh q0 (3 : Int32) (z75.1 + (1 : Int32)) z75.2)).bind fun d76 => k_X10_line_521 sh q0 d76) else (if x1 = (4 : Int32) then ((xon 10 sh q0 (f_X10_fresher sh q0 (0 : Int32) d20)).bind fun z78 => (xon 10 sh q0 (f_X10_numeral sh q0 (1 : Int32) (z78.1 - (1 : Int32)) z78.2)).bind fun z79 => (xon 10 sh q0 (f_X10_reads sh q0 (4 : Int32) z79.1 z79.2)).bind fun d80 => k_X10_line_521 sh q0 d80) else (if x1 = (5 : Int32) then ((xon 10 sh q0 (f_X10_numeral sh q0 (0 : Int32) (100 : Int32) d20)).bind fun z82 => (xon 10 sh q0 (f_X10_reads sh q0 (5 : Int32) z82.1 z82.2)).bind fun d83 => k_X10_line_521 sh q0 d83) else (if x1 = (6 : Int32) then ((xon 10 sh q0 (f_X10_numeral sh q0 (0 : Int32) (99999 : Int32) d20)).bind fun z85 => (xon 10 sh q0 (f_X10_reads sh q0 (6 : Int32) z85.1 z85.2)).bind fun d86 => k_X10_line_521 sh q0 d86) else ((xon 10 sh q0 (f_X10_lawLine sh q0 d20)).bind fun d87 => k_X10_line_521 sh q0 d87)))))))) else (some d)
def k_X10_line_36 (sh : List xSh) (q0 : Nat) (d : xD) : Option xD :=
  (xgI 10 sh d q0 25).bind fun v88 => (xon 10 sh q0 (f_X10_isFull sh q0 v88 d)).bind fun z89 => if z89.1 = 0 then (if v88 < (4 : Int32) then (k_X10_line_85 sh q0 v88 z89.2) else (if (6 : Int32) < v88 then (k_X10_line_85 sh q0 v88 z89.2) else ((xgI 10 sh z89.2 q0 19).bind fun v90 => if ((v90 >>> (v88 &&& 31)) &&& (1 : Int32)) = (1 : Int32) then ((xon 10 sh q0 (f_X10_wrong sh q0 (3 : Int32) z89.2)).bind fun d91 => k_X10_line_85 sh q0 v88 d91) else (k_X10_line_85 sh q0 v88 z89.2)))) else ((xon 10 sh q0 (f_X10_wrong sh q0 (2 : Int32) z89.2)).bind fun d92 => k_X10_line_85 sh q0 v88 d92)
def f_X10_line (sh : List xSh) (q0 : Nat) (d : xD) : Option xD :=
  (xgI 10 sh d q0 24).bind fun v93 => if v93 = 0 then ((xgI 10 sh d q0 25).bind fun v94 => if (7 : Int32) < v94 then (k_X10_line_30 sh q0 d) else ((xgI 10 sh d q0 25).bind fun v95 => if v95 = 0 then ((xgI 10 sh d q0 20).bind fun v96 => if v96 ≤ 0 then (k_X10_line_36 sh q0 d) else (k_X10_line_30 sh q0 d)) else (k_X10_line_36 sh q0 d))) else (k_X10_line_30 sh q0 d)
set_option maxHeartbeats 4000000 in
set_option maxRecDepth 100000 in
theorem mt_X10_line (l : Launch) (D : va_G) (cid : FieldType → ClassId) (b : Nat) (ex : Bool) (sa sv B0 : Nat) (sh : List xSh) (q0 : Nat) (d : xD) (dz : xD) (hf : f_X10_line sh q0 d = some dz) : xMet l yX10_line cX10_line 5 none 492 0 0 D cid b ex sa sv B0 [.ref (b + q0)] sh d none sh dz := by
  refine xMet.of (by decide) (Nat.le_of_ble_eq_true rfl) ?_
  intro p e s m below meth c ls A S hr hin G hl
  have hl : lv_has ls 5 [(0, .ref (b + q0))] := hl
  generalize ([.ref (b + q0)] : List Value).toArray = av at S ⊢
  have hx := S.1
  have hb := S.2.1
  have hml := S.2.2.1
  have hown := S.2.2.2.1
  have hts := S.2.2.2.2.1
  have K30 : ∀ (q0 : Nat) (d : xD), k_X10_line_30 sh q0 d = some dz → ∀ (H : Heap) (locs : List Loc) (ls : Array Slot), lv_has ls 5 [(0, .ref (b + q0))] → xG D cid b A sh d s H locs → W p l e (xRm 492 0 0) s m av below meth c H locs 0 0 (MQ below (xQ D cid b ex A none sh dz) av s 0 0 A) (F0 m 30 ls []) := by
    intro q0 d hf H locs ls hl G
    unfold k_X10_line_30 at hf
    refine lv_aload_n hx hb dX10_line_30 rfl (lv_at hl 0 rfl) ?_
    refine lv_iconst (v := (1 : Int32)) hx hb dX10_line_31 (by decide) ?_
    obtain ⟨d1, hd1, hf⟩ := x_ob hf
    obtain ⟨hqd1, hd1⟩ := xon_of hd1
    refine xr_callV (ci := 10) (As := [.int (1 : Int32)]) (rest := []) (st1 := []) S G hl.1 (fun _ => rfl) (mt_X10_wrong l D cid b ex sa sv B0 sh q0 (1 : Int32) d _ hd1) hqd1 (by decide) kw_1414 kw_1416 ks_44 kw_17 kw_1417 hd_X10_wrong ⟨Nat.le_of_ble_eq_true rfl, Nat.le_of_ble_eq_true rfl⟩ rfl rfl rfl (Nat.le_of_ble_eq_true rfl) ⟨Nat.le_of_ble_eq_true rfl, Nat.le_of_ble_eq_true rfl⟩ dX10_line_32 (fun H locs G => ?_)
    cases hf
    exact xr_vret S G (fun _ => rfl) hr dX10_line_35
  have K550 : ∀ (q0 : Nat) (d : xD), k_X10_line_550 sh q0 d = some dz → ∀ (H : Heap) (locs : List Loc) (ls : Array Slot), lv_has ls 5 [(0, .ref (b + q0))] → xG D cid b A sh d s H locs → W p l e (xRm 492 0 0) s m av below meth c H locs 0 0 (MQ below (xQ D cid b ex A none sh dz) av s 0 0 A) (F0 m 550 ls []) := by
    intro q0 d hf H locs ls hl G
    unfold k_X10_line_550 at hf
    refine lv_aload_n hx hb dX10_line_550 rfl (lv_at hl 0 rfl) ?_
    refine lv_dup hx hb dX10_line_551 rfl ?_
    obtain ⟨v2, hv2, hf⟩ := x_ob hf
    refine xr_getI (ci := 10) (k := 20) S G hv2 rfl kw_1188 dX10_line_552 ?_
    refine lv_iconst (v := (1 : Int32)) hx hb dX10_line_555 (by decide) ?_
    refine lv_iadd hx hb dX10_line_556 ?_
    obtain ⟨d3, hd3, hf⟩ := x_ob hf
    refine xr_putI (ci := 10) (k := 20) S G hd3 rfl kw_1188 dX10_line_557 (fun H locs G => ?_)
    cases hf
    exact xr_vret S G (fun _ => rfl) hr dX10_line_560
  have K521 : ∀ (q0 : Nat) (d : xD), k_X10_line_521 sh q0 d = some dz → ∀ (H : Heap) (locs : List Loc) (ls : Array Slot), lv_has ls 5 [(0, .ref (b + q0))] → xG D cid b A sh d s H locs → W p l e (xRm 492 0 0) s m av below meth c H locs 0 0 (MQ below (xQ D cid b ex A none sh dz) av s 0 0 A) (F0 m 521 ls []) := by
    intro q0 d hf H locs ls hl G
    unfold k_X10_line_521 at hf
    refine lv_aload_n hx hb dX10_line_521 rfl (lv_at hl 0 rfl) ?_
    obtain ⟨v4, hv4, hf⟩ := x_ob hf
    refine xr_getI (ci := 10) (k := 26) S G hv4 rfl kw_1194 dX10_line_522 ?_
    refine lv_if_eq (tgt := 529) hx hb dX10_line_525 (by decide) (fun c => ?_) (fun c => ?_)
    · have hf := x_pos c hf
      refine lv_aload_n hx hb dX10_line_529 rfl (lv_at hl 0 rfl) ?_
      refine lv_bipush (v := (59 : Int32)) hx hb dX10_line_530 (by decide) ?_
      obtain ⟨z5, hz5, hf⟩ := x_ob hf
      obtain ⟨hqz5, hz5⟩ := xon_of hz5
      refine xr_callV (ci := 10) (As := [.int (59 : Int32)]) (rest := []) (st1 := [.int z5.1]) S G hl.1 (fun _ => rfl) (mt_X10_isSign l D cid b ex sa sv B0 sh q0 (59 : Int32) d _ _ hz5) hqz5 (by decide) kw_1485 kw_1487 ks_61 kw_17 kw_1488 hd_X10_isSign ⟨Nat.le_of_ble_eq_true rfl, Nat.le_of_ble_eq_true rfl⟩ rfl rfl rfl (Nat.le_of_ble_eq_true rfl) ⟨Nat.le_of_ble_eq_true rfl, Nat.le_of_ble_eq_true rfl⟩ dX10_line_532 (fun H locs G => ?_)
      refine lv_if_ne (tgt := 546) hx hb dX10_line_535 (by decide) (fun c => ?_) (fun c => ?_)
      · have hf := x_neg c hf
        refine lv_aload_n hx hb dX10_line_546 rfl (lv_at hl 0 rfl) ?_
        obtain ⟨d6, hd6, hf⟩ := x_ob hf
        obtain ⟨hqd6, hd6⟩ := xon_of hd6
        refine xr_callV (ci := 10) (As := []) (rest := []) (st1 := []) S G hl.1 (fun _ => rfl) (mt_X10_token l D cid b ex sa sv B0 sh q0 z5.2 _ hd6) hqd6 (by decide) kw_1380 kw_1382 ks_38 kw_17 kw_1383 hd_X10_token ⟨Nat.le_of_ble_eq_true rfl, Nat.le_of_ble_eq_true rfl⟩ rfl rfl rfl (Nat.le_of_ble_eq_true rfl) ⟨Nat.le_of_ble_eq_true rfl, Nat.le_of_ble_eq_true rfl⟩ dX10_line_547 (fun H locs G => ?_)
        exact K550 q0 d6 hf _ _ ls (lv_sub hl [0] rfl) G
      · have hf := x_pos c hf
        refine lv_aload_n hx hb dX10_line_538 rfl (lv_at hl 0 rfl) ?_
        refine lv_iconst (v := (1 : Int32)) hx hb dX10_line_539 (by decide) ?_
        obtain ⟨d7, hd7, hf⟩ := x_ob hf
        obtain ⟨hqd7, hd7⟩ := xon_of hd7
        refine xr_callV (ci := 10) (As := [.int (1 : Int32)]) (rest := []) (st1 := []) S G hl.1 (fun _ => rfl) (mt_X10_wrong l D cid b ex sa sv B0 sh q0 (1 : Int32) z5.2 _ hd7) hqd7 (by decide) kw_1414 kw_1416 ks_44 kw_17 kw_1417 hd_X10_wrong ⟨Nat.le_of_ble_eq_true rfl, Nat.le_of_ble_eq_true rfl⟩ rfl rfl rfl (Nat.le_of_ble_eq_true rfl) ⟨Nat.le_of_ble_eq_true rfl, Nat.le_of_ble_eq_true rfl⟩ dX10_line_540 (fun H locs G => ?_)
        refine lv_goto (tgt := 550) hx hb dX10_line_543 (by decide) ?_
        exact K550 q0 d7 hf _ _ ls (lv_sub hl [0] rfl) G
    · have hf := x_neg c hf
      cases hf
      exact xr_vret S G (fun _ => rfl) hr dX10_line_528
  have K239 : ∀ (q0 : Nat) (x2 : Int32) (d : xD), k_X10_line_239 sh q0 x2 d = some dz → ∀ (H : Heap) (locs : List Loc) (ls : Array Slot), lv_has ls 5 [(0, .ref (b + q0)), (2, .int x2)] → xG D cid b A sh d s H locs → W p l e (xRm 492 0 0) s m av below meth c H locs 0 0 (MQ below (xQ D cid b ex A none sh dz) av s 0 0 A) (F0 m 239 ls []) := by
    intro q0 x2 d hf H locs ls hl G
    unfold k_X10_line_239 at hf
    refine lv_aload_n hx hb dX10_line_239 rfl (lv_at hl 0 rfl) ?_
    obtain ⟨v8, hv8, hf⟩ := x_ob hf
    refine xr_getR (ci := 10) (k := 5) S G hv8 rfl kw_1173 dX10_line_240 ?_
    refine lv_iload_n hx hb dX10_line_243 rfl (lv_at hl 1 rfl) ?_
    refine lv_aload_n hx hb dX10_line_244 rfl (lv_at hl 0 rfl) ?_
    refine lv_iconst (v := (1 : Int32)) hx hb dX10_line_245 (by decide) ?_
    refine lv_aload_n hx hb dX10_line_246 rfl (lv_at hl 0 rfl) ?_
    refine lv_iconst (v := (0 : Int32)) hx hb dX10_line_247 (by decide) ?_
    obtain ⟨z9, hz9, hf⟩ := x_ob hf
    obtain ⟨hqz9, hz9⟩ := xon_of hz9
    refine xr_callV (ci := 10) (As := [.int (0 : Int32)]) (rest := [.int (1 : Int32), .ref (b + q0), .int x2, .ref (b + v8)]) (st1 := [.int z9.1, .int (1 : Int32), .ref (b + q0), .int x2, .ref (b + v8)]) S G hl.1 (fun _ => rfl) (mt_X10_fresher l D cid b ex sa sv B0 sh q0 (0 : Int32) d _ _ hz9) hqz9 (by decide) kw_1422 kw_1424 ks_46 kw_17 kw_1425 hd_X10_fresher ⟨Nat.le_of_ble_eq_true rfl, Nat.le_of_ble_eq_true rfl⟩ rfl rfl rfl (Nat.le_of_ble_eq_true rfl) ⟨Nat.le_of_ble_eq_true rfl, Nat.le_of_ble_eq_true rfl⟩ dX10_line_248 (fun H locs G => ?_)
    refine lv_iconst (v := (1 : Int32)) hx hb dX10_line_251 (by decide) ?_
    refine lv_isub hx hb dX10_line_252 ?_
    obtain ⟨z10, hz10, hf⟩ := x_ob hf
    obtain ⟨hqz10, hz10⟩ := xon_of hz10
    refine xr_callV (ci := 10) (As := [.int (1 : Int32), .int (z9.1 - (1 : Int32))]) (rest := [.int x2, .ref (b + v8)]) (st1 := [.int z10.1, .int x2, .ref (b + v8)]) S G hl.1 (fun _ => rfl) (mt_X10_numeral l D cid b ex sa sv B0 sh q0 (1 : Int32) (z9.1 - (1 : Int32)) z9.2 _ _ hz10) hqz10 (by decide) kw_1426 kw_1428 ks_47 kw_17 kw_1429 hd_X10_numeral ⟨Nat.le_of_ble_eq_true rfl, Nat.le_of_ble_eq_true rfl⟩ rfl rfl rfl (Nat.le_of_ble_eq_true rfl) ⟨Nat.le_of_ble_eq_true rfl, Nat.le_of_ble_eq_true rfl⟩ dX10_line_253 (fun H locs G => ?_)
    obtain ⟨d11, hd11, hf⟩ := x_ob hf
    refine xr_iast S G hd11 dX10_line_256 (fun H locs G => ?_)
    refine lv_aload_n hx hb dX10_line_257 rfl (lv_at hl 0 rfl) ?_
    obtain ⟨v12, hv12, hf⟩ := x_ob hf
    refine xr_getR (ci := 10) (k := 6) S G hv12 rfl kw_1174 dX10_line_258 ?_
    refine lv_iload_n hx hb dX10_line_261 rfl (lv_at hl 1 rfl) ?_
    refine lv_aload_n hx hb dX10_line_262 rfl (lv_at hl 0 rfl) ?_
    refine lv_iconst (v := (1 : Int32)) hx hb dX10_line_263 (by decide) ?_
    refine lv_iconst (v := (3 : Int32)) hx hb dX10_line_264 (by decide) ?_
    obtain ⟨z13, hz13, hf⟩ := x_ob hf
    obtain ⟨hqz13, hz13⟩ := xon_of hz13
    refine xr_callV (ci := 10) (As := [.int (1 : Int32), .int (3 : Int32)]) (rest := [.int x2, .ref (b + v12)]) (st1 := [.int z13.1, .int x2, .ref (b + v12)]) S G hl.1 (fun _ => rfl) (mt_X10_numeral l D cid b ex sa sv B0 sh q0 (1 : Int32) (3 : Int32) d11 _ _ hz13) hqz13 (by decide) kw_1426 kw_1428 ks_47 kw_17 kw_1429 hd_X10_numeral ⟨Nat.le_of_ble_eq_true rfl, Nat.le_of_ble_eq_true rfl⟩ rfl rfl rfl (Nat.le_of_ble_eq_true rfl) ⟨Nat.le_of_ble_eq_true rfl, Nat.le_of_ble_eq_true rfl⟩ dX10_line_265 (fun H locs G => ?_)
    obtain ⟨d14, hd14, hf⟩ := x_ob hf
    refine xr_iast S G hd14 dX10_line_268 (fun H locs G => ?_)
    refine lv_aload_n hx hb dX10_line_269 rfl (lv_at hl 0 rfl) ?_
    refine lv_iconst (v := (1 : Int32)) hx hb dX10_line_270 (by decide) ?_
    refine lv_aload_n hx hb dX10_line_271 rfl (lv_at hl 0 rfl) ?_
    refine lv_iconst (v := (1 : Int32)) hx hb dX10_line_272 (by decide) ?_
    obtain ⟨z15, hz15, hf⟩ := x_ob hf
    obtain ⟨hqz15, hz15⟩ := xon_of hz15
    refine xr_callV (ci := 10) (As := [.int (1 : Int32)]) (rest := [.int (1 : Int32), .ref (b + q0)]) (st1 := [.int z15.1, .int (1 : Int32), .ref (b + q0)]) S G hl.1 (fun _ => rfl) (mt_X10_fresher l D cid b ex sa sv B0 sh q0 (1 : Int32) d14 _ _ hz15) hqz15 (by decide) kw_1422 kw_1424 ks_46 kw_17 kw_1425 hd_X10_fresher ⟨Nat.le_of_ble_eq_true rfl, Nat.le_of_ble_eq_true rfl⟩ rfl rfl rfl (Nat.le_of_ble_eq_true rfl) ⟨Nat.le_of_ble_eq_true rfl, Nat.le_of_ble_eq_true rfl⟩ dX10_line_273 (fun H locs G => ?_)
    refine lv_iconst (v := (1 : Int32)) hx hb dX10_line_276 (by decide) ?_
    refine lv_iadd hx hb dX10_line_277 ?_
    obtain ⟨d16, hd16, hf⟩ := x_ob hf
    obtain ⟨hqd16, hd16⟩ := xon_of hd16
    refine xr_callV (ci := 10) (As := [.int (1 : Int32), .int (z15.1 + (1 : Int32))]) (rest := []) (st1 := []) S G hl.1 (fun _ => rfl) (mt_X10_reads l D cid b ex sa sv B0 sh q0 (1 : Int32) (z15.1 + (1 : Int32)) z15.2 _ hd16) hqd16 (by decide) kw_1376 kw_1378 ks_37 kw_17 kw_1379 hd_X10_reads ⟨Nat.le_of_ble_eq_true rfl, Nat.le_of_ble_eq_true rfl⟩ rfl rfl rfl (Nat.le_of_ble_eq_true rfl) ⟨Nat.le_of_ble_eq_true rfl, Nat.le_of_ble_eq_true rfl⟩ dX10_line_278 (fun H locs G => ?_)
    refine lv_goto (tgt := 521) hx hb dX10_line_281 (by decide) ?_
    exact K521 q0 d16 hf _ _ ls (lv_sub hl [0] rfl) G
  have K85 : ∀ (q0 : Nat) (x1 : Int32) (d : xD), k_X10_line_85 sh q0 x1 d = some dz → ∀ (H : Heap) (locs : List Loc) (ls : Array Slot), lv_has ls 5 [(0, .ref (b + q0)), (1, .int x1)] → xG D cid b A sh d s H locs → W p l e (xRm 492 0 0) s m av below meth c H locs 0 0 (MQ below (xQ D cid b ex A none sh dz) av s 0 0 A) (F0 m 85 ls []) := by
    intro q0 x1 d hf H locs ls hl G
    unfold k_X10_line_85 at hf
    refine lv_aload_n hx hb dX10_line_85 rfl (lv_at hl 0 rfl) ?_
    obtain ⟨v17, hv17, hf⟩ := x_ob hf
    refine xr_getI (ci := 10) (k := 26) S G hv17 rfl kw_1194 dX10_line_86 ?_
    refine lv_if_eq (tgt := 93) hx hb dX10_line_89 (by decide) (fun c => ?_) (fun c => ?_)
    · have hf := x_pos c hf
      refine lv_aload_n hx hb dX10_line_93 rfl (lv_at hl 0 rfl) ?_
      refine lv_dup hx hb dX10_line_94 rfl ?_
      obtain ⟨v18, hv18, hf⟩ := x_ob hf
      refine xr_getI (ci := 10) (k := 19) S G hv18 rfl kw_1187 dX10_line_95 ?_
      refine lv_iconst (v := (1 : Int32)) hx hb dX10_line_98 (by decide) ?_
      refine lv_iload_n hx hb dX10_line_99 rfl (lv_at hl 1 rfl) ?_
      refine lv_ishl hx hb dX10_line_100 ?_
      refine lv_ior hx hb dX10_line_101 ?_
      obtain ⟨d19, hd19, hf⟩ := x_ob hf
      refine xr_putI (ci := 10) (k := 19) S G hd19 rfl kw_1187 dX10_line_102 (fun H locs G => ?_)
      refine lv_aload_n hx hb dX10_line_105 rfl (lv_at hl 0 rfl) ?_
      obtain ⟨d20, hd20, hf⟩ := x_ob hf
      obtain ⟨hqd20, hd20⟩ := xon_of hd20
      refine xr_callV (ci := 10) (As := []) (rest := []) (st1 := []) S G hl.1 (fun _ => rfl) (mt_X10_token l D cid b ex sa sv B0 sh q0 d19 _ hd20) hqd20 (by decide) kw_1380 kw_1382 ks_38 kw_17 kw_1383 hd_X10_token ⟨Nat.le_of_ble_eq_true rfl, Nat.le_of_ble_eq_true rfl⟩ rfl rfl rfl (Nat.le_of_ble_eq_true rfl) ⟨Nat.le_of_ble_eq_true rfl, Nat.le_of_ble_eq_true rfl⟩ dX10_line_106 (fun H locs G => ?_)
      refine lv_iload_n hx hb dX10_line_109 rfl (lv_at hl 1 rfl) ?_
      by_cases c21 : x1 = (0 : Int32)
      · have hf := x_pos c21 hf
        refine xr_tab (k := (0 : Int32)) (tgt := 152) hx hb c21 dX10_line_110 (by decide) (by decide) rfl (by decide) ?_
        refine lv_aload_n hx hb dX10_line_152 rfl (lv_at hl 0 rfl) ?_
        refine lv_iconst (v := (0 : Int32)) hx hb dX10_line_153 (by decide) ?_
        refine lv_aload_n hx hb dX10_line_154 rfl (lv_at hl 0 rfl) ?_
        refine lv_iconst (v := (2 : Int32)) hx hb dX10_line_155 (by decide) ?_
        refine lv_bipush (v := (60 : Int32)) hx hb dX10_line_156 (by decide) ?_
        obtain ⟨z22, hz22, hf⟩ := x_ob hf
        obtain ⟨hqz22, hz22⟩ := xon_of hz22
        refine xr_callV (ci := 10) (As := [.int (2 : Int32), .int (60 : Int32)]) (rest := [.int (0 : Int32), .ref (b + q0)]) (st1 := [.int z22.1, .int (0 : Int32), .ref (b + q0)]) S G hl.1 (fun _ => rfl) (mt_X10_numeral l D cid b ex sa sv B0 sh q0 (2 : Int32) (60 : Int32) d20 _ _ hz22) hqz22 (by decide) kw_1426 kw_1428 ks_47 kw_17 kw_1429 hd_X10_numeral ⟨Nat.le_of_ble_eq_true rfl, Nat.le_of_ble_eq_true rfl⟩ rfl rfl rfl (Nat.le_of_ble_eq_true rfl) ⟨Nat.le_of_ble_eq_true rfl, Nat.le_of_ble_eq_true rfl⟩ dX10_line_158 (fun H locs G => ?_)
        obtain ⟨d23, hd23, hf⟩ := x_ob hf
        obtain ⟨hqd23, hd23⟩ := xon_of hd23
        refine xr_callV (ci := 10) (As := [.int (0 : Int32), .int z22.1]) (rest := []) (st1 := []) S G hl.1 (fun _ => rfl) (mt_X10_reads l D cid b ex sa sv B0 sh q0 (0 : Int32) z22.1 z22.2 _ hd23) hqd23 (by decide) kw_1376 kw_1378 ks_37 kw_17 kw_1379 hd_X10_reads ⟨Nat.le_of_ble_eq_true rfl, Nat.le_of_ble_eq_true rfl⟩ rfl rfl rfl (Nat.le_of_ble_eq_true rfl) ⟨Nat.le_of_ble_eq_true rfl, Nat.le_of_ble_eq_true rfl⟩ dX10_line_161 (fun H locs G => ?_)
        refine lv_goto (tgt := 521) hx hb dX10_line_164 (by decide) ?_
        exact K521 q0 d23 hf _ _ ls (lv_sub hl [0] rfl) G
      · have hf := x_neg c21 hf
        by_cases c24 : x1 = (1 : Int32)
        · have hf := x_pos c24 hf
          refine xr_tab (k := (1 : Int32)) (tgt := 167) hx hb c24 dX10_line_110 (by decide) (by decide) rfl (by decide) ?_
          refine lv_bipush (v := (8 : Int32)) hx hb dX10_line_167 (by decide) ?_
          refine lv_aload_n hx hb dX10_line_169 rfl (lv_at hl 0 rfl) ?_
          refine lv_iconst (v := (1 : Int32)) hx hb dX10_line_170 (by decide) ?_
          obtain ⟨z25, hz25, hf⟩ := x_ob hf
          obtain ⟨hqz25, hz25⟩ := xon_of hz25
          refine xr_callV (ci := 10) (As := [.int (1 : Int32)]) (rest := [.int (8 : Int32)]) (st1 := [.int z25.1, .int (8 : Int32)]) S G hl.1 (fun _ => rfl) (mt_X10_fresher l D cid b ex sa sv B0 sh q0 (1 : Int32) d20 _ _ hz25) hqz25 (by decide) kw_1422 kw_1424 ks_46 kw_17 kw_1425 hd_X10_fresher ⟨Nat.le_of_ble_eq_true rfl, Nat.le_of_ble_eq_true rfl⟩ rfl rfl rfl (Nat.le_of_ble_eq_true rfl) ⟨Nat.le_of_ble_eq_true rfl, Nat.le_of_ble_eq_true rfl⟩ dX10_line_171 (fun H locs G => ?_)
          refine lv_iadd hx hb dX10_line_174 ?_
          refine lv_istore_n (lv' := [(2, .int ((8 : Int32) + z25.1)), (0, .ref (b + q0)), (1, .int x1)]) hx hb dX10_line_175 rfl hl (by decide) rfl (fun ls hl => ?_)
          refine lv_aload_n hx hb dX10_line_176 rfl (lv_at hl 1 rfl) ?_
          obtain ⟨v26, hv26, hf⟩ := x_ob hf
          refine xr_getR (ci := 10) (k := 4) S G hv26 rfl kw_1172 dX10_line_177 ?_
          refine lv_iload_n hx hb dX10_line_180 rfl (lv_at hl 0 rfl) ?_
          refine lv_aload_n hx hb dX10_line_181 rfl (lv_at hl 1 rfl) ?_
          refine lv_aload_n hx hb dX10_line_182 rfl (lv_at hl 1 rfl) ?_
          obtain ⟨v27, hv27, hf⟩ := x_ob hf
          refine xr_getR (ci := 10) (k := 4) S G hv27 rfl kw_1172 dX10_line_183 ?_
          refine lv_bipush (v := (8 : Int32)) hx hb dX10_line_186 (by decide) ?_
          refine lv_aload_n hx hb dX10_line_188 rfl (lv_at hl 1 rfl) ?_
          refine lv_iconst (v := (1 : Int32)) hx hb dX10_line_189 (by decide) ?_
          obtain ⟨z28, hz28, hf⟩ := x_ob hf
          obtain ⟨hqz28, hz28⟩ := xon_of hz28
          refine xr_callV (ci := 10) (As := [.int (1 : Int32)]) (rest := [.int (8 : Int32), .ref (b + v27), .ref (b + q0), .int ((8 : Int32) + z25.1), .ref (b + v26)]) (st1 := [.int z28.1, .int (8 : Int32), .ref (b + v27), .ref (b + q0), .int ((8 : Int32) + z25.1), .ref (b + v26)]) S G hl.1 (fun _ => rfl) (mt_X10_fresher l D cid b ex sa sv B0 sh q0 (1 : Int32) z25.2 _ _ hz28) hqz28 (by decide) kw_1422 kw_1424 ks_46 kw_17 kw_1425 hd_X10_fresher ⟨Nat.le_of_ble_eq_true rfl, Nat.le_of_ble_eq_true rfl⟩ rfl rfl rfl (Nat.le_of_ble_eq_true rfl) ⟨Nat.le_of_ble_eq_true rfl, Nat.le_of_ble_eq_true rfl⟩ dX10_line_190 (fun H locs G => ?_)
          obtain ⟨z29, hz29, hf⟩ := x_ob hf
          obtain ⟨hqz29, hz29⟩ := xon_of hz29
          refine xr_callV (ci := 10) (As := [.ref (b + v27), .int (8 : Int32), .int z28.1]) (rest := [.int ((8 : Int32) + z25.1), .ref (b + v26)]) (st1 := [.int z29.1, .int ((8 : Int32) + z25.1), .ref (b + v26)]) S G hl.1 (fun _ => rfl) (mt_X10_fresh l D cid b ex sa sv B0 sh q0 v27 (8 : Int32) z28.1 z28.2 _ _ hz29) hqz29 (by decide) kw_1430 kw_1432 ks_48 kw_17 kw_1433 hd_X10_fresh ⟨Nat.le_of_ble_eq_true rfl, Nat.le_of_ble_eq_true rfl⟩ rfl rfl rfl (Nat.le_of_ble_eq_true rfl) ⟨Nat.le_of_ble_eq_true rfl, Nat.le_of_ble_eq_true rfl⟩ dX10_line_193 (fun H locs G => ?_)
          obtain ⟨d30, hd30, hf⟩ := x_ob hf
          refine xr_iast S G hd30 dX10_line_196 (fun H locs G => ?_)
          refine lv_aload_n hx hb dX10_line_197 rfl (lv_at hl 1 rfl) ?_
          obtain ⟨v31, hv31, hf⟩ := x_ob hf
          refine xr_getI (ci := 10) (k := 26) S G hv31 rfl kw_1194 dX10_line_198 ?_
          refine lv_if_ne (tgt := 239) hx hb dX10_line_201 (by decide) (fun c => ?_) (fun c => ?_)
          · have hf := x_neg c hf
            exact K239 q0 ((8 : Int32) + z25.1) d30 hf _ _ ls (lv_sub hl [1, 0] rfl) G
          · have hf := x_pos c hf
            refine lv_aload_n hx hb dX10_line_204 rfl (lv_at hl 1 rfl) ?_
            obtain ⟨v32, hv32, hf⟩ := x_ob hf
            refine xr_getI (ci := 10) (k := 24) S G hv32 rfl kw_1192 dX10_line_205 ?_
            refine lv_iconst (v := (2 : Int32)) hx hb dX10_line_208 (by decide) ?_
            refine lv_icmp_ne (tgt := 239) hx hb dX10_line_209 (by decide) (fun c => ?_) (fun c => ?_)
            · have hf := x_neg c hf
              exact K239 q0 ((8 : Int32) + z25.1) d30 hf _ _ ls (lv_sub hl [1, 0] rfl) G
            · have hf := x_pos c hf
              refine lv_aload_n hx hb dX10_line_212 rfl (lv_at hl 1 rfl) ?_
              obtain ⟨v33, hv33, hf⟩ := x_ob hf
              refine xr_getR (ci := 10) (k := 5) S G hv33 rfl kw_1173 dX10_line_213 ?_
              refine lv_bipush (v := (8 : Int32)) hx hb dX10_line_216 (by decide) ?_
              refine lv_aload_n hx hb dX10_line_218 rfl (lv_at hl 1 rfl) ?_
              refine lv_iconst (v := (1 : Int32)) hx hb dX10_line_219 (by decide) ?_
              obtain ⟨z34, hz34, hf⟩ := x_ob hf
              obtain ⟨hqz34, hz34⟩ := xon_of hz34
              refine xr_callV (ci := 10) (As := [.int (1 : Int32)]) (rest := [.int (8 : Int32), .ref (b + v33)]) (st1 := [.int z34.1, .int (8 : Int32), .ref (b + v33)]) S G hl.1 (fun _ => rfl) (mt_X10_fresher l D cid b ex sa sv B0 sh q0 (1 : Int32) d30 _ _ hz34) hqz34 (by decide) kw_1422 kw_1424 ks_46 kw_17 kw_1425 hd_X10_fresher ⟨Nat.le_of_ble_eq_true rfl, Nat.le_of_ble_eq_true rfl⟩ rfl rfl rfl (Nat.le_of_ble_eq_true rfl) ⟨Nat.le_of_ble_eq_true rfl, Nat.le_of_ble_eq_true rfl⟩ dX10_line_220 (fun H locs G => ?_)
              refine lv_aload_n hx hb dX10_line_223 rfl (lv_at hl 1 rfl) ?_
              obtain ⟨v35, hv35, hf⟩ := x_ob hf
              refine xr_getI (ci := 10) (k := 25) S G hv35 rfl kw_1193 dX10_line_224 ?_
              obtain ⟨z36, hz36, hf⟩ := x_ob hf
              refine xr_callS (As := [.ref (b + v33), .int (8 : Int32), .int z34.1, .int v35]) (rest := []) (st1 := [.int z36.1]) S G hl.1 (fun _ => rfl) (mt_X10_found l D cid b ex sa sv B0 sh v33 (8 : Int32) z34.1 v35 z34.2 _ _ hz36) kw_1434 kw_1435 kw_17 kw_1436 hd_X10_found ⟨Nat.le_of_ble_eq_true rfl, Nat.le_of_ble_eq_true rfl⟩ rfl rfl rfl (Nat.le_of_ble_eq_true rfl) ⟨Nat.le_of_ble_eq_true rfl, Nat.le_of_ble_eq_true rfl⟩ dX10_line_227 (fun H locs G => ?_)
              refine lv_iconst (v := (-1 : Int32)) hx hb dX10_line_230 (by decide) ?_
              refine lv_icmp_eq (tgt := 239) hx hb dX10_line_231 (by decide) (fun c => ?_) (fun c => ?_)
              · have hf := x_pos c hf
                exact K239 q0 ((8 : Int32) + z25.1) z36.2 hf _ _ ls (lv_sub hl [1, 0] rfl) G
              · have hf := x_neg c hf
                refine lv_aload_n hx hb dX10_line_234 rfl (lv_at hl 1 rfl) ?_
                refine lv_iconst (v := (3 : Int32)) hx hb dX10_line_235 (by decide) ?_
                obtain ⟨d37, hd37, hf⟩ := x_ob hf
                obtain ⟨hqd37, hd37⟩ := xon_of hd37
                refine xr_callV (ci := 10) (As := [.int (3 : Int32)]) (rest := []) (st1 := []) S G hl.1 (fun _ => rfl) (mt_X10_wrong l D cid b ex sa sv B0 sh q0 (3 : Int32) z36.2 _ hd37) hqd37 (by decide) kw_1414 kw_1416 ks_44 kw_17 kw_1417 hd_X10_wrong ⟨Nat.le_of_ble_eq_true rfl, Nat.le_of_ble_eq_true rfl⟩ rfl rfl rfl (Nat.le_of_ble_eq_true rfl) ⟨Nat.le_of_ble_eq_true rfl, Nat.le_of_ble_eq_true rfl⟩ dX10_line_236 (fun H locs G => ?_)
                exact K239 q0 ((8 : Int32) + z25.1) d37 hf _ _ ls (lv_sub hl [1, 0] rfl) G
        · have hf := x_neg c24 hf
          by_cases c38 : x1 = (2 : Int32)
          · have hf := x_pos c38 hf
            refine xr_tab (k := (2 : Int32)) (tgt := 284) hx hb c38 dX10_line_110 (by decide) (by decide) rfl (by decide) ?_
            refine lv_bipush (v := (6 : Int32)) hx hb dX10_line_284 (by decide) ?_
            refine lv_aload_n hx hb dX10_line_286 rfl (lv_at hl 0 rfl) ?_
            refine lv_iconst (v := (2 : Int32)) hx hb dX10_line_287 (by decide) ?_
            obtain ⟨z39, hz39, hf⟩ := x_ob hf
            obtain ⟨hqz39, hz39⟩ := xon_of hz39
            refine xr_callV (ci := 10) (As := [.int (2 : Int32)]) (rest := [.int (6 : Int32)]) (st1 := [.int z39.1, .int (6 : Int32)]) S G hl.1 (fun _ => rfl) (mt_X10_fresher l D cid b ex sa sv B0 sh q0 (2 : Int32) d20 _ _ hz39) hqz39 (by decide) kw_1422 kw_1424 ks_46 kw_17 kw_1425 hd_X10_fresher ⟨Nat.le_of_ble_eq_true rfl, Nat.le_of_ble_eq_true rfl⟩ rfl rfl rfl (Nat.le_of_ble_eq_true rfl) ⟨Nat.le_of_ble_eq_true rfl, Nat.le_of_ble_eq_true rfl⟩ dX10_line_288 (fun H locs G => ?_)
            refine lv_iadd hx hb dX10_line_291 ?_
            refine lv_istore_n (lv' := [(3, .int ((6 : Int32) + z39.1)), (0, .ref (b + q0)), (1, .int x1)]) hx hb dX10_line_292 rfl hl (by decide) rfl (fun ls hl => ?_)
            refine lv_aload_n hx hb dX10_line_293 rfl (lv_at hl 1 rfl) ?_
            obtain ⟨v40, hv40, hf⟩ := x_ob hf
            refine xr_getR (ci := 10) (k := 7) S G hv40 rfl kw_1175 dX10_line_294 ?_
            refine lv_iload_n hx hb dX10_line_297 rfl (lv_at hl 0 rfl) ?_
            refine lv_aload_n hx hb dX10_line_298 rfl (lv_at hl 1 rfl) ?_
            refine lv_aload_n hx hb dX10_line_299 rfl (lv_at hl 1 rfl) ?_
            obtain ⟨v41, hv41, hf⟩ := x_ob hf
            refine xr_getR (ci := 10) (k := 7) S G hv41 rfl kw_1175 dX10_line_300 ?_
            refine lv_bipush (v := (6 : Int32)) hx hb dX10_line_303 (by decide) ?_
            refine lv_aload_n hx hb dX10_line_305 rfl (lv_at hl 1 rfl) ?_
            refine lv_iconst (v := (2 : Int32)) hx hb dX10_line_306 (by decide) ?_
            obtain ⟨z42, hz42, hf⟩ := x_ob hf
            obtain ⟨hqz42, hz42⟩ := xon_of hz42
            refine xr_callV (ci := 10) (As := [.int (2 : Int32)]) (rest := [.int (6 : Int32), .ref (b + v41), .ref (b + q0), .int ((6 : Int32) + z39.1), .ref (b + v40)]) (st1 := [.int z42.1, .int (6 : Int32), .ref (b + v41), .ref (b + q0), .int ((6 : Int32) + z39.1), .ref (b + v40)]) S G hl.1 (fun _ => rfl) (mt_X10_fresher l D cid b ex sa sv B0 sh q0 (2 : Int32) z39.2 _ _ hz42) hqz42 (by decide) kw_1422 kw_1424 ks_46 kw_17 kw_1425 hd_X10_fresher ⟨Nat.le_of_ble_eq_true rfl, Nat.le_of_ble_eq_true rfl⟩ rfl rfl rfl (Nat.le_of_ble_eq_true rfl) ⟨Nat.le_of_ble_eq_true rfl, Nat.le_of_ble_eq_true rfl⟩ dX10_line_307 (fun H locs G => ?_)
            obtain ⟨z43, hz43, hf⟩ := x_ob hf
            obtain ⟨hqz43, hz43⟩ := xon_of hz43
            refine xr_callV (ci := 10) (As := [.ref (b + v41), .int (6 : Int32), .int z42.1]) (rest := [.int ((6 : Int32) + z39.1), .ref (b + v40)]) (st1 := [.int z43.1, .int ((6 : Int32) + z39.1), .ref (b + v40)]) S G hl.1 (fun _ => rfl) (mt_X10_fresh l D cid b ex sa sv B0 sh q0 v41 (6 : Int32) z42.1 z42.2 _ _ hz43) hqz43 (by decide) kw_1430 kw_1432 ks_48 kw_17 kw_1433 hd_X10_fresh ⟨Nat.le_of_ble_eq_true rfl, Nat.le_of_ble_eq_true rfl⟩ rfl rfl rfl (Nat.le_of_ble_eq_true rfl) ⟨Nat.le_of_ble_eq_true rfl, Nat.le_of_ble_eq_true rfl⟩ dX10_line_310 (fun H locs G => ?_)
            obtain ⟨d44, hd44, hf⟩ := x_ob hf
            refine xr_iast S G hd44 dX10_line_313 (fun H locs G => ?_)
            refine lv_aload_n hx hb dX10_line_314 rfl (lv_at hl 1 rfl) ?_
            obtain ⟨v45, hv45, hf⟩ := x_ob hf
            refine xr_getR (ci := 10) (k := 8) S G hv45 rfl kw_1176 dX10_line_315 ?_
            refine lv_iload_n hx hb dX10_line_318 rfl (lv_at hl 0 rfl) ?_
            refine lv_aload_n hx hb dX10_line_319 rfl (lv_at hl 1 rfl) ?_
            refine lv_iconst (v := (0 : Int32)) hx hb dX10_line_320 (by decide) ?_
            refine lv_aload_n hx hb dX10_line_321 rfl (lv_at hl 1 rfl) ?_
            refine lv_iconst (v := (0 : Int32)) hx hb dX10_line_322 (by decide) ?_
            obtain ⟨z46, hz46, hf⟩ := x_ob hf
            obtain ⟨hqz46, hz46⟩ := xon_of hz46
            refine xr_callV (ci := 10) (As := [.int (0 : Int32)]) (rest := [.int (0 : Int32), .ref (b + q0), .int ((6 : Int32) + z39.1), .ref (b + v45)]) (st1 := [.int z46.1, .int (0 : Int32), .ref (b + q0), .int ((6 : Int32) + z39.1), .ref (b + v45)]) S G hl.1 (fun _ => rfl) (mt_X10_fresher l D cid b ex sa sv B0 sh q0 (0 : Int32) d44 _ _ hz46) hqz46 (by decide) kw_1422 kw_1424 ks_46 kw_17 kw_1425 hd_X10_fresher ⟨Nat.le_of_ble_eq_true rfl, Nat.le_of_ble_eq_true rfl⟩ rfl rfl rfl (Nat.le_of_ble_eq_true rfl) ⟨Nat.le_of_ble_eq_true rfl, Nat.le_of_ble_eq_true rfl⟩ dX10_line_323 (fun H locs G => ?_)
            obtain ⟨z47, hz47, hf⟩ := x_ob hf
            obtain ⟨hqz47, hz47⟩ := xon_of hz47
            refine xr_callV (ci := 10) (As := [.int (0 : Int32), .int z46.1]) (rest := [.int ((6 : Int32) + z39.1), .ref (b + v45)]) (st1 := [.int z47.1, .int ((6 : Int32) + z39.1), .ref (b + v45)]) S G hl.1 (fun _ => rfl) (mt_X10_numeral l D cid b ex sa sv B0 sh q0 (0 : Int32) z46.1 z46.2 _ _ hz47) hqz47 (by decide) kw_1426 kw_1428 ks_47 kw_17 kw_1429 hd_X10_numeral ⟨Nat.le_of_ble_eq_true rfl, Nat.le_of_ble_eq_true rfl⟩ rfl rfl rfl (Nat.le_of_ble_eq_true rfl) ⟨Nat.le_of_ble_eq_true rfl, Nat.le_of_ble_eq_true rfl⟩ dX10_line_326 (fun H locs G => ?_)
            obtain ⟨d48, hd48, hf⟩ := x_ob hf
            refine xr_iast S G hd48 dX10_line_329 (fun H locs G => ?_)
            refine lv_aload_n hx hb dX10_line_330 rfl (lv_at hl 1 rfl) ?_
            obtain ⟨v49, hv49, hf⟩ := x_ob hf
            refine xr_getR (ci := 10) (k := 9) S G hv49 rfl kw_1177 dX10_line_331 ?_
            refine lv_iload_n hx hb dX10_line_334 rfl (lv_at hl 0 rfl) ?_
            refine lv_aload_n hx hb dX10_line_335 rfl (lv_at hl 1 rfl) ?_
            refine lv_iconst (v := (0 : Int32)) hx hb dX10_line_336 (by decide) ?_
            refine lv_iconst (v := (1 : Int32)) hx hb dX10_line_337 (by decide) ?_
            obtain ⟨z50, hz50, hf⟩ := x_ob hf
            obtain ⟨hqz50, hz50⟩ := xon_of hz50
            refine xr_callV (ci := 10) (As := [.int (0 : Int32), .int (1 : Int32)]) (rest := [.int ((6 : Int32) + z39.1), .ref (b + v49)]) (st1 := [.int z50.1, .int ((6 : Int32) + z39.1), .ref (b + v49)]) S G hl.1 (fun _ => rfl) (mt_X10_numeral l D cid b ex sa sv B0 sh q0 (0 : Int32) (1 : Int32) d48 _ _ hz50) hqz50 (by decide) kw_1426 kw_1428 ks_47 kw_17 kw_1429 hd_X10_numeral ⟨Nat.le_of_ble_eq_true rfl, Nat.le_of_ble_eq_true rfl⟩ rfl rfl rfl (Nat.le_of_ble_eq_true rfl) ⟨Nat.le_of_ble_eq_true rfl, Nat.le_of_ble_eq_true rfl⟩ dX10_line_338 (fun H locs G => ?_)
            obtain ⟨d51, hd51, hf⟩ := x_ob hf
            refine xr_iast S G hd51 dX10_line_341 (fun H locs G => ?_)
            refine lv_aload_n hx hb dX10_line_342 rfl (lv_at hl 1 rfl) ?_
            obtain ⟨v52, hv52, hf⟩ := x_ob hf
            refine xr_getR (ci := 10) (k := 10) S G hv52 rfl kw_1178 dX10_line_343 ?_
            refine lv_iload_n hx hb dX10_line_346 rfl (lv_at hl 0 rfl) ?_
            refine lv_aload_n hx hb dX10_line_347 rfl (lv_at hl 1 rfl) ?_
            refine lv_iconst (v := (1 : Int32)) hx hb dX10_line_348 (by decide) ?_
            refine lv_bipush (v := (9 : Int32)) hx hb dX10_line_349 (by decide) ?_
            obtain ⟨z53, hz53, hf⟩ := x_ob hf
            obtain ⟨hqz53, hz53⟩ := xon_of hz53
            refine xr_callV (ci := 10) (As := [.int (1 : Int32), .int (9 : Int32)]) (rest := [.int ((6 : Int32) + z39.1), .ref (b + v52)]) (st1 := [.int z53.1, .int ((6 : Int32) + z39.1), .ref (b + v52)]) S G hl.1 (fun _ => rfl) (mt_X10_numeral l D cid b ex sa sv B0 sh q0 (1 : Int32) (9 : Int32) d51 _ _ hz53) hqz53 (by decide) kw_1426 kw_1428 ks_47 kw_17 kw_1429 hd_X10_numeral ⟨Nat.le_of_ble_eq_true rfl, Nat.le_of_ble_eq_true rfl⟩ rfl rfl rfl (Nat.le_of_ble_eq_true rfl) ⟨Nat.le_of_ble_eq_true rfl, Nat.le_of_ble_eq_true rfl⟩ dX10_line_351 (fun H locs G => ?_)
            obtain ⟨d54, hd54, hf⟩ := x_ob hf
            refine xr_iast S G hd54 dX10_line_354 (fun H locs G => ?_)
            refine lv_aload_n hx hb dX10_line_355 rfl (lv_at hl 1 rfl) ?_
            obtain ⟨v55, hv55, hf⟩ := x_ob hf
            refine xr_getR (ci := 10) (k := 11) S G hv55 rfl kw_1179 dX10_line_356 ?_
            refine lv_iload_n hx hb dX10_line_359 rfl (lv_at hl 0 rfl) ?_
            refine lv_aload_n hx hb dX10_line_360 rfl (lv_at hl 1 rfl) ?_
            refine lv_iconst (v := (0 : Int32)) hx hb dX10_line_361 (by decide) ?_
            refine lv_bipush (v := (99 : Int32)) hx hb dX10_line_362 (by decide) ?_
            obtain ⟨z56, hz56, hf⟩ := x_ob hf
            obtain ⟨hqz56, hz56⟩ := xon_of hz56
            refine xr_callV (ci := 10) (As := [.int (0 : Int32), .int (99 : Int32)]) (rest := [.int ((6 : Int32) + z39.1), .ref (b + v55)]) (st1 := [.int z56.1, .int ((6 : Int32) + z39.1), .ref (b + v55)]) S G hl.1 (fun _ => rfl) (mt_X10_numeral l D cid b ex sa sv B0 sh q0 (0 : Int32) (99 : Int32) d54 _ _ hz56) hqz56 (by decide) kw_1426 kw_1428 ks_47 kw_17 kw_1429 hd_X10_numeral ⟨Nat.le_of_ble_eq_true rfl, Nat.le_of_ble_eq_true rfl⟩ rfl rfl rfl (Nat.le_of_ble_eq_true rfl) ⟨Nat.le_of_ble_eq_true rfl, Nat.le_of_ble_eq_true rfl⟩ dX10_line_364 (fun H locs G => ?_)
            obtain ⟨d57, hd57, hf⟩ := x_ob hf
            refine xr_iast S G hd57 dX10_line_367 (fun H locs G => ?_)
            refine lv_aload_n hx hb dX10_line_368 rfl (lv_at hl 1 rfl) ?_
            refine lv_iconst (v := (2 : Int32)) hx hb dX10_line_369 (by decide) ?_
            refine lv_aload_n hx hb dX10_line_370 rfl (lv_at hl 1 rfl) ?_
            refine lv_iconst (v := (2 : Int32)) hx hb dX10_line_371 (by decide) ?_
            obtain ⟨z58, hz58, hf⟩ := x_ob hf
            obtain ⟨hqz58, hz58⟩ := xon_of hz58
            refine xr_callV (ci := 10) (As := [.int (2 : Int32)]) (rest := [.int (2 : Int32), .ref (b + q0)]) (st1 := [.int z58.1, .int (2 : Int32), .ref (b + q0)]) S G hl.1 (fun _ => rfl) (mt_X10_fresher l D cid b ex sa sv B0 sh q0 (2 : Int32) d57 _ _ hz58) hqz58 (by decide) kw_1422 kw_1424 ks_46 kw_17 kw_1425 hd_X10_fresher ⟨Nat.le_of_ble_eq_true rfl, Nat.le_of_ble_eq_true rfl⟩ rfl rfl rfl (Nat.le_of_ble_eq_true rfl) ⟨Nat.le_of_ble_eq_true rfl, Nat.le_of_ble_eq_true rfl⟩ dX10_line_372 (fun H locs G => ?_)
            refine lv_iconst (v := (1 : Int32)) hx hb dX10_line_375 (by decide) ?_
            refine lv_iadd hx hb dX10_line_376 ?_
            obtain ⟨d59, hd59, hf⟩ := x_ob hf
            obtain ⟨hqd59, hd59⟩ := xon_of hd59
            refine xr_callV (ci := 10) (As := [.int (2 : Int32), .int (z58.1 + (1 : Int32))]) (rest := []) (st1 := []) S G hl.1 (fun _ => rfl) (mt_X10_reads l D cid b ex sa sv B0 sh q0 (2 : Int32) (z58.1 + (1 : Int32)) z58.2 _ hd59) hqd59 (by decide) kw_1376 kw_1378 ks_37 kw_17 kw_1379 hd_X10_reads ⟨Nat.le_of_ble_eq_true rfl, Nat.le_of_ble_eq_true rfl⟩ rfl rfl rfl (Nat.le_of_ble_eq_true rfl) ⟨Nat.le_of_ble_eq_true rfl, Nat.le_of_ble_eq_true rfl⟩ dX10_line_377 (fun H locs G => ?_)
            refine lv_goto (tgt := 521) hx hb dX10_line_380 (by decide) ?_
            exact K521 q0 d59 hf _ _ ls (lv_sub hl [1] rfl) G
          · have hf := x_neg c38 hf
            by_cases c60 : x1 = (3 : Int32)
            · have hf := x_pos c60 hf
              refine xr_tab (k := (3 : Int32)) (tgt := 383) hx hb c60 dX10_line_110 (by decide) (by decide) rfl (by decide) ?_
              refine lv_bipush (v := (12 : Int32)) hx hb dX10_line_383 (by decide) ?_
              refine lv_aload_n hx hb dX10_line_385 rfl (lv_at hl 0 rfl) ?_
              refine lv_iconst (v := (3 : Int32)) hx hb dX10_line_386 (by decide) ?_
              obtain ⟨z61, hz61, hf⟩ := x_ob hf
              obtain ⟨hqz61, hz61⟩ := xon_of hz61
              refine xr_callV (ci := 10) (As := [.int (3 : Int32)]) (rest := [.int (12 : Int32)]) (st1 := [.int z61.1, .int (12 : Int32)]) S G hl.1 (fun _ => rfl) (mt_X10_fresher l D cid b ex sa sv B0 sh q0 (3 : Int32) d20 _ _ hz61) hqz61 (by decide) kw_1422 kw_1424 ks_46 kw_17 kw_1425 hd_X10_fresher ⟨Nat.le_of_ble_eq_true rfl, Nat.le_of_ble_eq_true rfl⟩ rfl rfl rfl (Nat.le_of_ble_eq_true rfl) ⟨Nat.le_of_ble_eq_true rfl, Nat.le_of_ble_eq_true rfl⟩ dX10_line_387 (fun H locs G => ?_)
              refine lv_iadd hx hb dX10_line_390 ?_
              refine lv_istore (lv' := [(4, .int ((12 : Int32) + z61.1)), (0, .ref (b + q0)), (1, .int x1)]) hx hb dX10_line_391 hl (by decide) rfl (fun ls hl => ?_)
              refine lv_aload_n hx hb dX10_line_393 rfl (lv_at hl 1 rfl) ?_
              obtain ⟨v62, hv62, hf⟩ := x_ob hf
              refine xr_getR (ci := 10) (k := 12) S G hv62 rfl kw_1180 dX10_line_394 ?_
              refine lv_iload hx hb dX10_line_397 (lv_at hl 0 rfl) ?_
              refine lv_aload_n hx hb dX10_line_399 rfl (lv_at hl 1 rfl) ?_
              refine lv_aload_n hx hb dX10_line_400 rfl (lv_at hl 1 rfl) ?_
              obtain ⟨v63, hv63, hf⟩ := x_ob hf
              refine xr_getR (ci := 10) (k := 7) S G hv63 rfl kw_1175 dX10_line_401 ?_
              refine lv_bipush (v := (6 : Int32)) hx hb dX10_line_404 (by decide) ?_
              refine lv_aload_n hx hb dX10_line_406 rfl (lv_at hl 1 rfl) ?_
              refine lv_iconst (v := (2 : Int32)) hx hb dX10_line_407 (by decide) ?_
              obtain ⟨z64, hz64, hf⟩ := x_ob hf
              obtain ⟨hqz64, hz64⟩ := xon_of hz64
              refine xr_callV (ci := 10) (As := [.int (2 : Int32)]) (rest := [.int (6 : Int32), .ref (b + v63), .ref (b + q0), .int ((12 : Int32) + z61.1), .ref (b + v62)]) (st1 := [.int z64.1, .int (6 : Int32), .ref (b + v63), .ref (b + q0), .int ((12 : Int32) + z61.1), .ref (b + v62)]) S G hl.1 (fun _ => rfl) (mt_X10_fresher l D cid b ex sa sv B0 sh q0 (2 : Int32) z61.2 _ _ hz64) hqz64 (by decide) kw_1422 kw_1424 ks_46 kw_17 kw_1425 hd_X10_fresher ⟨Nat.le_of_ble_eq_true rfl, Nat.le_of_ble_eq_true rfl⟩ rfl rfl rfl (Nat.le_of_ble_eq_true rfl) ⟨Nat.le_of_ble_eq_true rfl, Nat.le_of_ble_eq_true rfl⟩ dX10_line_408 (fun H locs G => ?_)
              obtain ⟨z65, hz65, hf⟩ := x_ob hf
              obtain ⟨hqz65, hz65⟩ := xon_of hz65
              refine xr_callV (ci := 10) (As := [.ref (b + v63), .int (6 : Int32), .int z64.1]) (rest := [.int ((12 : Int32) + z61.1), .ref (b + v62)]) (st1 := [.int z65.1, .int ((12 : Int32) + z61.1), .ref (b + v62)]) S G hl.1 (fun _ => rfl) (mt_X10_toldAhead l D cid b ex sa sv B0 sh q0 v63 (6 : Int32) z64.1 z64.2 _ _ hz65) hqz65 (by decide) kw_1437 kw_1439 ks_49 kw_17 kw_1440 hd_X10_toldAhead ⟨Nat.le_of_ble_eq_true rfl, Nat.le_of_ble_eq_true rfl⟩ rfl rfl rfl (Nat.le_of_ble_eq_true rfl) ⟨Nat.le_of_ble_eq_true rfl, Nat.le_of_ble_eq_true rfl⟩ dX10_line_411 (fun H locs G => ?_)
              obtain ⟨d66, hd66, hf⟩ := x_ob hf
              refine xr_iast S G hd66 dX10_line_414 (fun H locs G => ?_)
              refine lv_aload_n hx hb dX10_line_415 rfl (lv_at hl 1 rfl) ?_
              obtain ⟨v67, hv67, hf⟩ := x_ob hf
              refine xr_getR (ci := 10) (k := 13) S G hv67 rfl kw_1181 dX10_line_416 ?_
              refine lv_iload hx hb dX10_line_419 (lv_at hl 0 rfl) ?_
              refine lv_aload_n hx hb dX10_line_421 rfl (lv_at hl 1 rfl) ?_
              refine lv_aload_n hx hb dX10_line_422 rfl (lv_at hl 1 rfl) ?_
              obtain ⟨v68, hv68, hf⟩ := x_ob hf
              refine xr_getR (ci := 10) (k := 4) S G hv68 rfl kw_1172 dX10_line_423 ?_
              refine lv_bipush (v := (8 : Int32)) hx hb dX10_line_426 (by decide) ?_
              refine lv_aload_n hx hb dX10_line_428 rfl (lv_at hl 1 rfl) ?_
              refine lv_iconst (v := (1 : Int32)) hx hb dX10_line_429 (by decide) ?_
              obtain ⟨z69, hz69, hf⟩ := x_ob hf
              obtain ⟨hqz69, hz69⟩ := xon_of hz69
              refine xr_callV (ci := 10) (As := [.int (1 : Int32)]) (rest := [.int (8 : Int32), .ref (b + v68), .ref (b + q0), .int ((12 : Int32) + z61.1), .ref (b + v67)]) (st1 := [.int z69.1, .int (8 : Int32), .ref (b + v68), .ref (b + q0), .int ((12 : Int32) + z61.1), .ref (b + v67)]) S G hl.1 (fun _ => rfl) (mt_X10_fresher l D cid b ex sa sv B0 sh q0 (1 : Int32) d66 _ _ hz69) hqz69 (by decide) kw_1422 kw_1424 ks_46 kw_17 kw_1425 hd_X10_fresher ⟨Nat.le_of_ble_eq_true rfl, Nat.le_of_ble_eq_true rfl⟩ rfl rfl rfl (Nat.le_of_ble_eq_true rfl) ⟨Nat.le_of_ble_eq_true rfl, Nat.le_of_ble_eq_true rfl⟩ dX10_line_430 (fun H locs G => ?_)
              obtain ⟨z70, hz70, hf⟩ := x_ob hf
              obtain ⟨hqz70, hz70⟩ := xon_of hz70
              refine xr_callV (ci := 10) (As := [.ref (b + v68), .int (8 : Int32), .int z69.1]) (rest := [.int ((12 : Int32) + z61.1), .ref (b + v67)]) (st1 := [.int z70.1, .int ((12 : Int32) + z61.1), .ref (b + v67)]) S G hl.1 (fun _ => rfl) (mt_X10_toldAhead l D cid b ex sa sv B0 sh q0 v68 (8 : Int32) z69.1 z69.2 _ _ hz70) hqz70 (by decide) kw_1437 kw_1439 ks_49 kw_17 kw_1440 hd_X10_toldAhead ⟨Nat.le_of_ble_eq_true rfl, Nat.le_of_ble_eq_true rfl⟩ rfl rfl rfl (Nat.le_of_ble_eq_true rfl) ⟨Nat.le_of_ble_eq_true rfl, Nat.le_of_ble_eq_true rfl⟩ dX10_line_433 (fun H locs G => ?_)
              obtain ⟨d71, hd71, hf⟩ := x_ob hf
              refine xr_iast S G hd71 dX10_line_436 (fun H locs G => ?_)
              refine lv_aload_n hx hb dX10_line_437 rfl (lv_at hl 1 rfl) ?_
              obtain ⟨v72, hv72, hf⟩ := x_ob hf
              refine xr_getR (ci := 10) (k := 14) S G hv72 rfl kw_1182 dX10_line_438 ?_
              refine lv_iload hx hb dX10_line_441 (lv_at hl 0 rfl) ?_
              refine lv_aload_n hx hb dX10_line_443 rfl (lv_at hl 1 rfl) ?_
              refine lv_iconst (v := (1 : Int32)) hx hb dX10_line_444 (by decide) ?_
              refine lv_bipush (v := (30 : Int32)) hx hb dX10_line_445 (by decide) ?_
              obtain ⟨z73, hz73, hf⟩ := x_ob hf
              obtain ⟨hqz73, hz73⟩ := xon_of hz73
              refine xr_callV (ci := 10) (As := [.int (1 : Int32), .int (30 : Int32)]) (rest := [.int ((12 : Int32) + z61.1), .ref (b + v72)]) (st1 := [.int z73.1, .int ((12 : Int32) + z61.1), .ref (b + v72)]) S G hl.1 (fun _ => rfl) (mt_X10_numeral l D cid b ex sa sv B0 sh q0 (1 : Int32) (30 : Int32) d71 _ _ hz73) hqz73 (by decide) kw_1426 kw_1428 ks_47 kw_17 kw_1429 hd_X10_numeral ⟨Nat.le_of_ble_eq_true rfl, Nat.le_of_ble_eq_true rfl⟩ rfl rfl rfl (Nat.le_of_ble_eq_true rfl) ⟨Nat.le_of_ble_eq_true rfl, Nat.le_of_ble_eq_true rfl⟩ dX10_line_447 (fun H locs G => ?_)
              obtain ⟨d74, hd74, hf⟩ := x_ob hf
              refine xr_iast S G hd74 dX10_line_450 (fun H locs G => ?_)
              refine lv_aload_n hx hb dX10_line_451 rfl (lv_at hl 1 rfl) ?_
              refine lv_iconst (v := (3 : Int32)) hx hb dX10_line_452 (by decide) ?_
              refine lv_aload_n hx hb dX10_line_453 rfl (lv_at hl 1 rfl) ?_
              refine lv_iconst (v := (3 : Int32)) hx hb dX10_line_454 (by decide) ?_
              obtain ⟨z75, hz75, hf⟩ := x_ob hf
              obtain ⟨hqz75, hz75⟩ := xon_of hz75
              refine xr_callV (ci := 10) (As := [.int (3 : Int32)]) (rest := [.int (3 : Int32), .ref (b + q0)]) (st1 := [.int z75.1, .int (3 : Int32), .ref (b + q0)]) S G hl.1 (fun _ => rfl) (mt_X10_fresher l D cid b ex sa sv B0 sh q0 (3 : Int32) d74 _ _ hz75) hqz75 (by decide) kw_1422 kw_1424 ks_46 kw_17 kw_1425 hd_X10_fresher ⟨Nat.le_of_ble_eq_true rfl, Nat.le_of_ble_eq_true rfl⟩ rfl rfl rfl (Nat.le_of_ble_eq_true rfl) ⟨Nat.le_of_ble_eq_true rfl, Nat.le_of_ble_eq_true rfl⟩ dX10_line_455 (fun H locs G => ?_)
              refine lv_iconst (v := (1 : Int32)) hx hb dX10_line_458 (by decide) ?_
              refine lv_iadd hx hb dX10_line_459 ?_
              obtain ⟨d76, hd76, hf⟩ := x_ob hf
              obtain ⟨hqd76, hd76⟩ := xon_of hd76
              refine xr_callV (ci := 10) (As := [.int (3 : Int32), .int (z75.1 + (1 : Int32))]) (rest := []) (st1 := []) S G hl.1 (fun _ => rfl) (mt_X10_reads l D cid b ex sa sv B0 sh q0 (3 : Int32) (z75.1 + (1 : Int32)) z75.2 _ hd76) hqd76 (by decide) kw_1376 kw_1378 ks_37 kw_17 kw_1379 hd_X10_reads ⟨Nat.le_of_ble_eq_true rfl, Nat.le_of_ble_eq_true rfl⟩ rfl rfl rfl (Nat.le_of_ble_eq_true rfl) ⟨Nat.le_of_ble_eq_true rfl, Nat.le_of_ble_eq_true rfl⟩ dX10_line_460 (fun H locs G => ?_)
              refine lv_goto (tgt := 521) hx hb dX10_line_463 (by decide) ?_
              exact K521 q0 d76 hf _ _ ls (lv_sub hl [1] rfl) G
            · have hf := x_neg c60 hf
              by_cases c77 : x1 = (4 : Int32)
              · have hf := x_pos c77 hf
                refine xr_tab (k := (4 : Int32)) (tgt := 466) hx hb c77 dX10_line_110 (by decide) (by decide) rfl (by decide) ?_
                refine lv_aload_n hx hb dX10_line_466 rfl (lv_at hl 0 rfl) ?_
                refine lv_iconst (v := (4 : Int32)) hx hb dX10_line_467 (by decide) ?_
                refine lv_aload_n hx hb dX10_line_468 rfl (lv_at hl 0 rfl) ?_
                refine lv_iconst (v := (1 : Int32)) hx hb dX10_line_469 (by decide) ?_
                refine lv_aload_n hx hb dX10_line_470 rfl (lv_at hl 0 rfl) ?_
                refine lv_iconst (v := (0 : Int32)) hx hb dX10_line_471 (by decide) ?_
                obtain ⟨z78, hz78, hf⟩ := x_ob hf
                obtain ⟨hqz78, hz78⟩ := xon_of hz78
                refine xr_callV (ci := 10) (As := [.int (0 : Int32)]) (rest := [.int (1 : Int32), .ref (b + q0), .int (4 : Int32), .ref (b + q0)]) (st1 := [.int z78.1, .int (1 : Int32), .ref (b + q0), .int (4 : Int32), .ref (b + q0)]) S G hl.1 (fun _ => rfl) (mt_X10_fresher l D cid b ex sa sv B0 sh q0 (0 : Int32) d20 _ _ hz78) hqz78 (by decide) kw_1422 kw_1424 ks_46 kw_17 kw_1425 hd_X10_fresher ⟨Nat.le_of_ble_eq_true rfl, Nat.le_of_ble_eq_true rfl⟩ rfl rfl rfl (Nat.le_of_ble_eq_true rfl) ⟨Nat.le_of_ble_eq_true rfl, Nat.le_of_ble_eq_true rfl⟩ dX10_line_472 (fun H locs G => ?_)
                refine lv_iconst (v := (1 : Int32)) hx hb dX10_line_475 (by decide) ?_
                refine lv_isub hx hb dX10_line_476 ?_
                obtain ⟨z79, hz79, hf⟩ := x_ob hf
                obtain ⟨hqz79, hz79⟩ := xon_of hz79
                refine xr_callV (ci := 10) (As := [.int (1 : Int32), .int (z78.1 - (1 : Int32))]) (rest := [.int (4 : Int32), .ref (b + q0)]) (st1 := [.int z79.1, .int (4 : Int32), .ref (b + q0)]) S G hl.1 (fun _ => rfl) (mt_X10_numeral l D cid b ex sa sv B0 sh q0 (1 : Int32) (z78.1 - (1 : Int32)) z78.2 _ _ hz79) hqz79 (by decide) kw_1426 kw_1428 ks_47 kw_17 kw_1429 hd_X10_numeral ⟨Nat.le_of_ble_eq_true rfl, Nat.le_of_ble_eq_true rfl⟩ rfl rfl rfl (Nat.le_of_ble_eq_true rfl) ⟨Nat.le_of_ble_eq_true rfl, Nat.le_of_ble_eq_true rfl⟩ dX10_line_477 (fun H locs G => ?_)
                obtain ⟨d80, hd80, hf⟩ := x_ob hf
                obtain ⟨hqd80, hd80⟩ := xon_of hd80
                refine xr_callV (ci := 10) (As := [.int (4 : Int32), .int z79.1]) (rest := []) (st1 := []) S G hl.1 (fun _ => rfl) (mt_X10_reads l D cid b ex sa sv B0 sh q0 (4 : Int32) z79.1 z79.2 _ hd80) hqd80 (by decide) kw_1376 kw_1378 ks_37 kw_17 kw_1379 hd_X10_reads ⟨Nat.le_of_ble_eq_true rfl, Nat.le_of_ble_eq_true rfl⟩ rfl rfl rfl (Nat.le_of_ble_eq_true rfl) ⟨Nat.le_of_ble_eq_true rfl, Nat.le_of_ble_eq_true rfl⟩ dX10_line_480 (fun H locs G => ?_)
                refine lv_goto (tgt := 521) hx hb dX10_line_483 (by decide) ?_
                exact K521 q0 d80 hf _ _ ls (lv_sub hl [0] rfl) G
              · have hf := x_neg c77 hf
                by_cases c81 : x1 = (5 : Int32)
                · have hf := x_pos c81 hf
                  refine xr_tab (k := (5 : Int32)) (tgt := 486) hx hb c81 dX10_line_110 (by decide) (by decide) rfl (by decide) ?_
                  refine lv_aload_n hx hb dX10_line_486 rfl (lv_at hl 0 rfl) ?_
                  refine lv_iconst (v := (5 : Int32)) hx hb dX10_line_487 (by decide) ?_
                  refine lv_aload_n hx hb dX10_line_488 rfl (lv_at hl 0 rfl) ?_
                  refine lv_iconst (v := (0 : Int32)) hx hb dX10_line_489 (by decide) ?_
                  refine lv_bipush (v := (100 : Int32)) hx hb dX10_line_490 (by decide) ?_
                  obtain ⟨z82, hz82, hf⟩ := x_ob hf
                  obtain ⟨hqz82, hz82⟩ := xon_of hz82
                  refine xr_callV (ci := 10) (As := [.int (0 : Int32), .int (100 : Int32)]) (rest := [.int (5 : Int32), .ref (b + q0)]) (st1 := [.int z82.1, .int (5 : Int32), .ref (b + q0)]) S G hl.1 (fun _ => rfl) (mt_X10_numeral l D cid b ex sa sv B0 sh q0 (0 : Int32) (100 : Int32) d20 _ _ hz82) hqz82 (by decide) kw_1426 kw_1428 ks_47 kw_17 kw_1429 hd_X10_numeral ⟨Nat.le_of_ble_eq_true rfl, Nat.le_of_ble_eq_true rfl⟩ rfl rfl rfl (Nat.le_of_ble_eq_true rfl) ⟨Nat.le_of_ble_eq_true rfl, Nat.le_of_ble_eq_true rfl⟩ dX10_line_492 (fun H locs G => ?_)
                  obtain ⟨d83, hd83, hf⟩ := x_ob hf
                  obtain ⟨hqd83, hd83⟩ := xon_of hd83
                  refine xr_callV (ci := 10) (As := [.int (5 : Int32), .int z82.1]) (rest := []) (st1 := []) S G hl.1 (fun _ => rfl) (mt_X10_reads l D cid b ex sa sv B0 sh q0 (5 : Int32) z82.1 z82.2 _ hd83) hqd83 (by decide) kw_1376 kw_1378 ks_37 kw_17 kw_1379 hd_X10_reads ⟨Nat.le_of_ble_eq_true rfl, Nat.le_of_ble_eq_true rfl⟩ rfl rfl rfl (Nat.le_of_ble_eq_true rfl) ⟨Nat.le_of_ble_eq_true rfl, Nat.le_of_ble_eq_true rfl⟩ dX10_line_495 (fun H locs G => ?_)
                  refine lv_goto (tgt := 521) hx hb dX10_line_498 (by decide) ?_
                  exact K521 q0 d83 hf _ _ ls (lv_sub hl [0] rfl) G
                · have hf := x_neg c81 hf
                  by_cases c84 : x1 = (6 : Int32)
                  · have hf := x_pos c84 hf
                    refine xr_tab (k := (6 : Int32)) (tgt := 501) hx hb c84 dX10_line_110 (by decide) (by decide) rfl (by decide) ?_
                    refine lv_aload_n hx hb dX10_line_501 rfl (lv_at hl 0 rfl) ?_
                    refine lv_bipush (v := (6 : Int32)) hx hb dX10_line_502 (by decide) ?_
                    refine lv_aload_n hx hb dX10_line_504 rfl (lv_at hl 0 rfl) ?_
                    refine lv_iconst (v := (0 : Int32)) hx hb dX10_line_505 (by decide) ?_
                    refine lv_ldc (v := (99999 : Int32)) hx hb hown (hts _ kw_1405) dX10_line_506 ?_
                    obtain ⟨z85, hz85, hf⟩ := x_ob hf
                    obtain ⟨hqz85, hz85⟩ := xon_of hz85
                    refine xr_callV (ci := 10) (As := [.int (0 : Int32), .int (99999 : Int32)]) (rest := [.int (6 : Int32), .ref (b + q0)]) (st1 := [.int z85.1, .int (6 : Int32), .ref (b + q0)]) S G hl.1 (fun _ => rfl) (mt_X10_numeral l D cid b ex sa sv B0 sh q0 (0 : Int32) (99999 : Int32) d20 _ _ hz85) hqz85 (by decide) kw_1426 kw_1428 ks_47 kw_17 kw_1429 hd_X10_numeral ⟨Nat.le_of_ble_eq_true rfl, Nat.le_of_ble_eq_true rfl⟩ rfl rfl rfl (Nat.le_of_ble_eq_true rfl) ⟨Nat.le_of_ble_eq_true rfl, Nat.le_of_ble_eq_true rfl⟩ dX10_line_508 (fun H locs G => ?_)
                    obtain ⟨d86, hd86, hf⟩ := x_ob hf
                    obtain ⟨hqd86, hd86⟩ := xon_of hd86
                    refine xr_callV (ci := 10) (As := [.int (6 : Int32), .int z85.1]) (rest := []) (st1 := []) S G hl.1 (fun _ => rfl) (mt_X10_reads l D cid b ex sa sv B0 sh q0 (6 : Int32) z85.1 z85.2 _ hd86) hqd86 (by decide) kw_1376 kw_1378 ks_37 kw_17 kw_1379 hd_X10_reads ⟨Nat.le_of_ble_eq_true rfl, Nat.le_of_ble_eq_true rfl⟩ rfl rfl rfl (Nat.le_of_ble_eq_true rfl) ⟨Nat.le_of_ble_eq_true rfl, Nat.le_of_ble_eq_true rfl⟩ dX10_line_511 (fun H locs G => ?_)
                    refine lv_goto (tgt := 521) hx hb dX10_line_514 (by decide) ?_
                    exact K521 q0 d86 hf _ _ ls (lv_sub hl [0] rfl) G
                  · have hf := x_neg c84 hf
                    have hks : ∀ z ∈ ([0, 1, 2, 3, 4, 5, 6] : List Int), (x1).toInt ≠ z := by
                      intro z hz
                      simp only [List.mem_cons, List.not_mem_nil, or_false] at hz
                      rcases hz with rfl | rfl | rfl | rfl | rfl | rfl | rfl
                      · exact x_toInt_ne 0 c21 (by decide)
                      · exact x_toInt_ne 1 c24 (by decide)
                      · exact x_toInt_ne 2 c38 (by decide)
                      · exact x_toInt_ne 3 c60 (by decide)
                      · exact x_toInt_ne 4 c77 (by decide)
                      · exact x_toInt_ne 5 c81 (by decide)
                      · exact x_toInt_ne 6 c84 (by decide)
                    refine xr_tabD (tgt := 517) [0, 1, 2, 3, 4, 5, 6] hx hb dX10_line_110 hks (by decide) (by decide) (by decide) ?_
                    refine lv_aload_n hx hb dX10_line_517 rfl (lv_at hl 0 rfl) ?_
                    obtain ⟨d87, hd87, hf⟩ := x_ob hf
                    obtain ⟨hqd87, hd87⟩ := xon_of hd87
                    refine xr_callV (ci := 10) (As := []) (rest := []) (st1 := []) S G hl.1 (fun _ => rfl) (mt_X10_lawLine l D cid b ex sa sv B0 sh q0 d20 _ hd87) hqd87 (by decide) kw_1445 kw_1447 ks_51 kw_17 kw_1448 hd_X10_lawLine ⟨Nat.le_of_ble_eq_true rfl, Nat.le_of_ble_eq_true rfl⟩ rfl rfl rfl (Nat.le_of_ble_eq_true rfl) ⟨Nat.le_of_ble_eq_true rfl, Nat.le_of_ble_eq_true rfl⟩ dX10_line_518 (fun H locs G => ?_)
                    exact K521 q0 d87 hf _ _ ls (lv_sub hl [0] rfl) G
    · have hf := x_neg c hf
      cases hf
      exact xr_vret S G (fun _ => rfl) hr dX10_line_92
  have K36 : ∀ (q0 : Nat) (d : xD), k_X10_line_36 sh q0 d = some dz → ∀ (H : Heap) (locs : List Loc) (ls : Array Slot), lv_has ls 5 [(0, .ref (b + q0))] → xG D cid b A sh d s H locs → W p l e (xRm 492 0 0) s m av below meth c H locs 0 0 (MQ below (xQ D cid b ex A none sh dz) av s 0 0 A) (F0 m 36 ls []) := by
    intro q0 d hf H locs ls hl G
    unfold k_X10_line_36 at hf
    refine lv_aload_n hx hb dX10_line_36 rfl (lv_at hl 0 rfl) ?_
    obtain ⟨v88, hv88, hf⟩ := x_ob hf
    refine xr_getI (ci := 10) (k := 25) S G hv88 rfl kw_1193 dX10_line_37 ?_
    refine lv_istore_n (lv' := [(1, .int v88), (0, .ref (b + q0))]) hx hb dX10_line_40 rfl hl (by decide) rfl (fun ls hl => ?_)
    refine lv_aload_n hx hb dX10_line_41 rfl (lv_at hl 1 rfl) ?_
    refine lv_iload_n hx hb dX10_line_42 rfl (lv_at hl 0 rfl) ?_
    obtain ⟨z89, hz89, hf⟩ := x_ob hf
    obtain ⟨hqz89, hz89⟩ := xon_of hz89
    refine xr_callV (ci := 10) (As := [.int v88]) (rest := []) (st1 := [.int z89.1]) S G hl.1 (fun _ => rfl) (mt_X10_isFull l D cid b ex sa sv B0 sh q0 v88 d _ _ hz89) hqz89 (by decide) kw_1418 kw_1420 ks_45 kw_17 kw_1421 hd_X10_isFull ⟨Nat.le_of_ble_eq_true rfl, Nat.le_of_ble_eq_true rfl⟩ rfl rfl rfl (Nat.le_of_ble_eq_true rfl) ⟨Nat.le_of_ble_eq_true rfl, Nat.le_of_ble_eq_true rfl⟩ dX10_line_43 (fun H locs G => ?_)
    refine lv_if_eq (tgt := 57) hx hb dX10_line_46 (by decide) (fun c => ?_) (fun c => ?_)
    · have hf := x_pos c hf
      refine lv_iload_n hx hb dX10_line_57 rfl (lv_at hl 0 rfl) ?_
      refine lv_iconst (v := (4 : Int32)) hx hb dX10_line_58 (by decide) ?_
      refine lv_icmp_lt (tgt := 85) hx hb dX10_line_59 (by decide) (fun c => ?_) (fun c => ?_)
      · have hf := x_pos c hf
        exact K85 q0 v88 z89.2 hf _ _ ls (lv_sub hl [1, 0] rfl) G
      · have hf := x_neg c hf
        refine lv_iload_n hx hb dX10_line_62 rfl (lv_at hl 0 rfl) ?_
        refine lv_bipush (v := (6 : Int32)) hx hb dX10_line_63 (by decide) ?_
        refine lv_icmp_gt (tgt := 85) hx hb dX10_line_65 (by decide) (fun c => ?_) (fun c => ?_)
        · have hf := x_pos c hf
          exact K85 q0 v88 z89.2 hf _ _ ls (lv_sub hl [1, 0] rfl) G
        · have hf := x_neg c hf
          refine lv_aload_n hx hb dX10_line_68 rfl (lv_at hl 1 rfl) ?_
          obtain ⟨v90, hv90, hf⟩ := x_ob hf
          refine xr_getI (ci := 10) (k := 19) S G hv90 rfl kw_1187 dX10_line_69 ?_
          refine lv_iload_n hx hb dX10_line_72 rfl (lv_at hl 0 rfl) ?_
          refine lv_ishr hx hb dX10_line_73 ?_
          refine lv_iconst (v := (1 : Int32)) hx hb dX10_line_74 (by decide) ?_
          refine lv_iand hx hb dX10_line_75 ?_
          refine lv_iconst (v := (1 : Int32)) hx hb dX10_line_76 (by decide) ?_
          refine lv_icmp_ne (tgt := 85) hx hb dX10_line_77 (by decide) (fun c => ?_) (fun c => ?_)
          · have hf := x_neg c hf
            exact K85 q0 v88 z89.2 hf _ _ ls (lv_sub hl [1, 0] rfl) G
          · have hf := x_pos c hf
            refine lv_aload_n hx hb dX10_line_80 rfl (lv_at hl 1 rfl) ?_
            refine lv_iconst (v := (3 : Int32)) hx hb dX10_line_81 (by decide) ?_
            obtain ⟨d91, hd91, hf⟩ := x_ob hf
            obtain ⟨hqd91, hd91⟩ := xon_of hd91
            refine xr_callV (ci := 10) (As := [.int (3 : Int32)]) (rest := []) (st1 := []) S G hl.1 (fun _ => rfl) (mt_X10_wrong l D cid b ex sa sv B0 sh q0 (3 : Int32) z89.2 _ hd91) hqd91 (by decide) kw_1414 kw_1416 ks_44 kw_17 kw_1417 hd_X10_wrong ⟨Nat.le_of_ble_eq_true rfl, Nat.le_of_ble_eq_true rfl⟩ rfl rfl rfl (Nat.le_of_ble_eq_true rfl) ⟨Nat.le_of_ble_eq_true rfl, Nat.le_of_ble_eq_true rfl⟩ dX10_line_82 (fun H locs G => ?_)
            exact K85 q0 v88 d91 hf _ _ ls (lv_sub hl [1, 0] rfl) G
    · have hf := x_neg c hf
      refine lv_aload_n hx hb dX10_line_49 rfl (lv_at hl 1 rfl) ?_
      refine lv_iconst (v := (2 : Int32)) hx hb dX10_line_50 (by decide) ?_
      obtain ⟨d92, hd92, hf⟩ := x_ob hf
      obtain ⟨hqd92, hd92⟩ := xon_of hd92
      refine xr_callV (ci := 10) (As := [.int (2 : Int32)]) (rest := []) (st1 := []) S G hl.1 (fun _ => rfl) (mt_X10_wrong l D cid b ex sa sv B0 sh q0 (2 : Int32) z89.2 _ hd92) hqd92 (by decide) kw_1414 kw_1416 ks_44 kw_17 kw_1417 hd_X10_wrong ⟨Nat.le_of_ble_eq_true rfl, Nat.le_of_ble_eq_true rfl⟩ rfl rfl rfl (Nat.le_of_ble_eq_true rfl) ⟨Nat.le_of_ble_eq_true rfl, Nat.le_of_ble_eq_true rfl⟩ dX10_line_51 (fun H locs G => ?_)
      refine lv_goto (tgt := 85) hx hb dX10_line_54 (by decide) ?_
      exact K85 q0 v88 d92 hf _ _ ls (lv_sub hl [1, 0] rfl) G
  unfold f_X10_line at hf
  refine lv_aload_n hx hb dX10_line_0 rfl (lv_at hl 0 rfl) ?_
  obtain ⟨v93, hv93, hf⟩ := x_ob hf
  refine xr_getI (ci := 10) (k := 24) S G hv93 rfl kw_1192 dX10_line_1 ?_
  refine lv_if_ne (tgt := 30) hx hb dX10_line_4 (by decide) (fun c => ?_) (fun c => ?_)
  · have hf := x_neg c hf
    exact K30 q0 d hf _ _ ls (lv_sub hl [0] rfl) G
  · have hf := x_pos c hf
    refine lv_aload_n hx hb dX10_line_7 rfl (lv_at hl 0 rfl) ?_
    obtain ⟨v94, hv94, hf⟩ := x_ob hf
    refine xr_getI (ci := 10) (k := 25) S G hv94 rfl kw_1193 dX10_line_8 ?_
    refine lv_bipush (v := (7 : Int32)) hx hb dX10_line_11 (by decide) ?_
    refine lv_icmp_gt (tgt := 30) hx hb dX10_line_13 (by decide) (fun c => ?_) (fun c => ?_)
    · have hf := x_pos c hf
      exact K30 q0 d hf _ _ ls (lv_sub hl [0] rfl) G
    · have hf := x_neg c hf
      refine lv_aload_n hx hb dX10_line_16 rfl (lv_at hl 0 rfl) ?_
      obtain ⟨v95, hv95, hf⟩ := x_ob hf
      refine xr_getI (ci := 10) (k := 25) S G hv95 rfl kw_1193 dX10_line_17 ?_
      refine lv_if_ne (tgt := 36) hx hb dX10_line_20 (by decide) (fun c => ?_) (fun c => ?_)
      · have hf := x_neg c hf
        exact K36 q0 d hf _ _ ls (lv_sub hl [0] rfl) G
      · have hf := x_pos c hf
        refine lv_aload_n hx hb dX10_line_23 rfl (lv_at hl 0 rfl) ?_
        obtain ⟨v96, hv96, hf⟩ := x_ob hf
        refine xr_getI (ci := 10) (k := 20) S G hv96 rfl kw_1188 dX10_line_24 ?_
        refine lv_if_le (tgt := 36) hx hb dX10_line_27 (by decide) (fun c => ?_) (fun c => ?_)
        · have hf := x_pos c hf
          exact K36 q0 d hf _ _ ls (lv_sub hl [0] rfl) G
        · have hf := x_neg c hf
          exact K30 q0 d hf _ _ ls (lv_sub hl [0] rfl) G
-- HalfLandingsModel.text(I)I
theorem dX10_text_0 : decode cX10_text 0 = .ok (.aload_n 0, 1) := by decide +kernel
theorem dX10_text_1 : decode cX10_text 1 = .ok (.iconst 0, 1) := by decide +kernel
theorem dX10_text_2 : decode cX10_text 2 = .ok (.putfield 145, 3) := by decide +kernel
theorem dX10_text_5 : decode cX10_text 5 = .ok (.iload_n 1, 1) := by decide +kernel
theorem dX10_text_6 : decode cX10_text 6 = .ok (.ifCond .lt 11, 3) := by decide +kernel
theorem dX10_text_9 : decode cX10_text 9 = .ok (.iload_n 1, 1) := by decide +kernel
theorem dX10_text_10 : decode cX10_text 10 = .ok (.aload_n 0, 1) := by decide +kernel
theorem dX10_text_11 : decode cX10_text 11 = .ok (.getfield 148, 3) := by decide +kernel
theorem dX10_text_14 : decode cX10_text 14 = .ok (.if_icmp .le 6, 3) := by decide +kernel
theorem dX10_text_17 : decode cX10_text 17 = .ok (.bipush (-2), 2) := by decide +kernel
theorem dX10_text_19 : decode cX10_text 19 = .ok (.ireturn, 1) := by decide +kernel
theorem dX10_text_20 : decode cX10_text 20 = .ok (.aload_n 0, 1) := by decide +kernel
theorem dX10_text_21 : decode cX10_text 21 = .ok (.iload_n 1, 1) := by decide +kernel
theorem dX10_text_22 : decode cX10_text 22 = .ok (.putfield 154, 3) := by decide +kernel
theorem dX10_text_25 : decode cX10_text 25 = .ok (.aload_n 0, 1) := by decide +kernel
theorem dX10_text_26 : decode cX10_text 26 = .ok (.iconst 0, 1) := by decide +kernel
theorem dX10_text_27 : decode cX10_text 27 = .ok (.putfield 148, 3) := by decide +kernel
theorem dX10_text_30 : decode cX10_text 30 = .ok (.aload_n 0, 1) := by decide +kernel
theorem dX10_text_31 : decode cX10_text 31 = .ok (.iconst 0, 1) := by decide +kernel
theorem dX10_text_32 : decode cX10_text 32 = .ok (.putfield 151, 3) := by decide +kernel
theorem dX10_text_35 : decode cX10_text 35 = .ok (.aload_n 0, 1) := by decide +kernel
theorem dX10_text_36 : decode cX10_text 36 = .ok (.iconst 0, 1) := by decide +kernel
theorem dX10_text_37 : decode cX10_text 37 = .ok (.putfield 199, 3) := by decide +kernel
theorem dX10_text_40 : decode cX10_text 40 = .ok (.aload_n 0, 1) := by decide +kernel
theorem dX10_text_41 : decode cX10_text 41 = .ok (.iconst (-1), 1) := by decide +kernel
theorem dX10_text_42 : decode cX10_text 42 = .ok (.putfield 202, 3) := by decide +kernel
theorem dX10_text_45 : decode cX10_text 45 = .ok (.iconst 0, 1) := by decide +kernel
theorem dX10_text_46 : decode cX10_text 46 = .ok (.istore_n 2, 1) := by decide +kernel
theorem dX10_text_47 : decode cX10_text 47 = .ok (.iload_n 2, 1) := by decide +kernel
theorem dX10_text_48 : decode cX10_text 48 = .ok (.bipush 8, 2) := by decide +kernel
theorem dX10_text_50 : decode cX10_text 50 = .ok (.if_icmp .ge 24, 3) := by decide +kernel
theorem dX10_text_53 : decode cX10_text 53 = .ok (.aload_n 0, 1) := by decide +kernel
theorem dX10_text_54 : decode cX10_text 54 = .ok (.iload_n 2, 1) := by decide +kernel
theorem dX10_text_55 : decode cX10_text 55 = .ok (.iload_n 2, 1) := by decide +kernel
theorem dX10_text_56 : decode cX10_text 56 = .ok (.ifCond .ne 8, 3) := by decide +kernel
theorem dX10_text_59 : decode cX10_text 59 = .ok (.bipush 20, 2) := by decide +kernel
theorem dX10_text_61 : decode cX10_text 61 = .ok (.goto 4, 3) := by decide +kernel
theorem dX10_text_64 : decode cX10_text 64 = .ok (.iconst 0, 1) := by decide +kernel
theorem dX10_text_65 : decode cX10_text 65 = .ok (.invokevirtual 235, 3) := by decide +kernel
theorem dX10_text_68 : decode cX10_text 68 = .ok (.iinc 2 1, 3) := by decide +kernel
theorem dX10_text_71 : decode cX10_text 71 = .ok (.goto (-24), 3) := by decide +kernel
theorem dX10_text_74 : decode cX10_text 74 = .ok (.iconst 3, 1) := by decide +kernel
theorem dX10_text_75 : decode cX10_text 75 = .ok (.istore_n 2, 1) := by decide +kernel
theorem dX10_text_76 : decode cX10_text 76 = .ok (.iload_n 2, 1) := by decide +kernel
theorem dX10_text_77 : decode cX10_text 77 = .ok (.bipush 6, 2) := by decide +kernel
theorem dX10_text_79 : decode cX10_text 79 = .ok (.if_icmp .ge 23, 3) := by decide +kernel
theorem dX10_text_82 : decode cX10_text 82 = .ok (.aload_n 0, 1) := by decide +kernel
theorem dX10_text_83 : decode cX10_text 83 = .ok (.getfield 49, 3) := by decide +kernel
theorem dX10_text_86 : decode cX10_text 86 = .ok (.iload_n 2, 1) := by decide +kernel
theorem dX10_text_87 : decode cX10_text 87 = .ok (.iconst 0, 1) := by decide +kernel
theorem dX10_text_88 : decode cX10_text 88 = .ok (.iastore, 1) := by decide +kernel
theorem dX10_text_89 : decode cX10_text 89 = .ok (.aload_n 0, 1) := by decide +kernel
theorem dX10_text_90 : decode cX10_text 90 = .ok (.getfield 52, 3) := by decide +kernel
theorem dX10_text_93 : decode cX10_text 93 = .ok (.iload_n 2, 1) := by decide +kernel
theorem dX10_text_94 : decode cX10_text 94 = .ok (.iconst 0, 1) := by decide +kernel
theorem dX10_text_95 : decode cX10_text 95 = .ok (.iastore, 1) := by decide +kernel
theorem dX10_text_96 : decode cX10_text 96 = .ok (.iinc 2 1, 3) := by decide +kernel
theorem dX10_text_99 : decode cX10_text 99 = .ok (.goto (-23), 3) := by decide +kernel
theorem dX10_text_102 : decode cX10_text 102 = .ok (.aload_n 0, 1) := by decide +kernel
theorem dX10_text_103 : decode cX10_text 103 = .ok (.iconst 0, 1) := by decide +kernel
theorem dX10_text_104 : decode cX10_text 104 = .ok (.putfield 228, 3) := by decide +kernel
theorem dX10_text_107 : decode cX10_text 107 = .ok (.aload_n 0, 1) := by decide +kernel
theorem dX10_text_108 : decode cX10_text 108 = .ok (.iconst 0, 1) := by decide +kernel
theorem dX10_text_109 : decode cX10_text 109 = .ok (.putfield 222, 3) := by decide +kernel
theorem dX10_text_112 : decode cX10_text 112 = .ok (.aload_n 0, 1) := by decide +kernel
theorem dX10_text_113 : decode cX10_text 113 = .ok (.iconst 0, 1) := by decide +kernel
theorem dX10_text_114 : decode cX10_text 114 = .ok (.putfield 282, 3) := by decide +kernel
theorem dX10_text_117 : decode cX10_text 117 = .ok (.aload_n 0, 1) := by decide +kernel
theorem dX10_text_118 : decode cX10_text 118 = .ok (.iconst 0, 1) := by decide +kernel
theorem dX10_text_119 : decode cX10_text 119 = .ok (.putfield 255, 3) := by decide +kernel
theorem dX10_text_122 : decode cX10_text 122 = .ok (.aload_n 0, 1) := by decide +kernel
theorem dX10_text_123 : decode cX10_text 123 = .ok (.invokevirtual 205, 3) := by decide +kernel
theorem dX10_text_126 : decode cX10_text 126 = .ok (.aload_n 0, 1) := by decide +kernel
theorem dX10_text_127 : decode cX10_text 127 = .ok (.getfield 199, 3) := by decide +kernel
theorem dX10_text_130 : decode cX10_text 130 = .ok (.ifCond .ne 18, 3) := by decide +kernel
theorem dX10_text_133 : decode cX10_text 133 = .ok (.aload_n 0, 1) := by decide +kernel
theorem dX10_text_134 : decode cX10_text 134 = .ok (.getfield 164, 3) := by decide +kernel
theorem dX10_text_137 : decode cX10_text 137 = .ok (.iconst 4, 1) := by decide +kernel
theorem dX10_text_138 : decode cX10_text 138 = .ok (.if_icmp .eq 10, 3) := by decide +kernel
theorem dX10_text_141 : decode cX10_text 141 = .ok (.aload_n 0, 1) := by decide +kernel
theorem dX10_text_142 : decode cX10_text 142 = .ok (.invokevirtual 285, 3) := by decide +kernel
theorem dX10_text_145 : decode cX10_text 145 = .ok (.goto (-19), 3) := by decide +kernel
theorem dX10_text_148 : decode cX10_text 148 = .ok (.aload_n 0, 1) := by decide +kernel
theorem dX10_text_149 : decode cX10_text 149 = .ok (.aload_n 0, 1) := by decide +kernel
theorem dX10_text_150 : decode cX10_text 150 = .ok (.getfield 199, 3) := by decide +kernel
theorem dX10_text_153 : decode cX10_text 153 = .ok (.putfield 288, 3) := by decide +kernel
theorem dX10_text_156 : decode cX10_text 156 = .ok (.aload_n 0, 1) := by decide +kernel
theorem dX10_text_157 : decode cX10_text 157 = .ok (.aload_n 0, 1) := by decide +kernel
theorem dX10_text_158 : decode cX10_text 158 = .ok (.getfield 202, 3) := by decide +kernel
theorem dX10_text_161 : decode cX10_text 161 = .ok (.putfield 61, 3) := by decide +kernel
theorem dX10_text_164 : decode cX10_text 164 = .ok (.aload_n 0, 1) := by decide +kernel
theorem dX10_text_165 : decode cX10_text 165 = .ok (.getfield 199, 3) := by decide +kernel
theorem dX10_text_168 : decode cX10_text 168 = .ok (.ifCond .eq 5, 3) := by decide +kernel
theorem dX10_text_171 : decode cX10_text 171 = .ok (.iconst (-1), 1) := by decide +kernel
theorem dX10_text_172 : decode cX10_text 172 = .ok (.ireturn, 1) := by decide +kernel
theorem dX10_text_173 : decode cX10_text 173 = .ok (.aload_n 0, 1) := by decide +kernel
theorem dX10_text_174 : decode cX10_text 174 = .ok (.getfield 13, 3) := by decide +kernel
theorem dX10_text_177 : decode cX10_text 177 = .ok (.invokestatic 291, 3) := by decide +kernel
theorem dX10_text_180 : decode cX10_text 180 = .ok (.aload_n 0, 1) := by decide +kernel
theorem dX10_text_181 : decode cX10_text 181 = .ok (.getfield 16, 3) := by decide +kernel
theorem dX10_text_184 : decode cX10_text 184 = .ok (.invokestatic 291, 3) := by decide +kernel
theorem dX10_text_187 : decode cX10_text 187 = .ok (.aload_n 0, 1) := by decide +kernel
theorem dX10_text_188 : decode cX10_text 188 = .ok (.getfield 19, 3) := by decide +kernel
theorem dX10_text_191 : decode cX10_text 191 = .ok (.invokestatic 291, 3) := by decide +kernel
theorem dX10_text_194 : decode cX10_text 194 = .ok (.aload_n 0, 1) := by decide +kernel
theorem dX10_text_195 : decode cX10_text 195 = .ok (.getfield 22, 3) := by decide +kernel
theorem dX10_text_198 : decode cX10_text 198 = .ok (.invokestatic 291, 3) := by decide +kernel
theorem dX10_text_201 : decode cX10_text 201 = .ok (.aload_n 0, 1) := by decide +kernel
theorem dX10_text_202 : decode cX10_text 202 = .ok (.getfield 25, 3) := by decide +kernel
theorem dX10_text_205 : decode cX10_text 205 = .ok (.invokestatic 291, 3) := by decide +kernel
theorem dX10_text_208 : decode cX10_text 208 = .ok (.aload_n 0, 1) := by decide +kernel
theorem dX10_text_209 : decode cX10_text 209 = .ok (.getfield 28, 3) := by decide +kernel
theorem dX10_text_212 : decode cX10_text 212 = .ok (.invokestatic 291, 3) := by decide +kernel
theorem dX10_text_215 : decode cX10_text 215 = .ok (.aload_n 0, 1) := by decide +kernel
theorem dX10_text_216 : decode cX10_text 216 = .ok (.getfield 31, 3) := by decide +kernel
theorem dX10_text_219 : decode cX10_text 219 = .ok (.invokestatic 291, 3) := by decide +kernel
theorem dX10_text_222 : decode cX10_text 222 = .ok (.aload_n 0, 1) := by decide +kernel
theorem dX10_text_223 : decode cX10_text 223 = .ok (.getfield 34, 3) := by decide +kernel
theorem dX10_text_226 : decode cX10_text 226 = .ok (.invokestatic 291, 3) := by decide +kernel
theorem dX10_text_229 : decode cX10_text 229 = .ok (.aload_n 0, 1) := by decide +kernel
theorem dX10_text_230 : decode cX10_text 230 = .ok (.getfield 37, 3) := by decide +kernel
theorem dX10_text_233 : decode cX10_text 233 = .ok (.invokestatic 291, 3) := by decide +kernel
theorem dX10_text_236 : decode cX10_text 236 = .ok (.aload_n 0, 1) := by decide +kernel
theorem dX10_text_237 : decode cX10_text 237 = .ok (.getfield 40, 3) := by decide +kernel
theorem dX10_text_240 : decode cX10_text 240 = .ok (.invokestatic 291, 3) := by decide +kernel
theorem dX10_text_243 : decode cX10_text 243 = .ok (.aload_n 0, 1) := by decide +kernel
theorem dX10_text_244 : decode cX10_text 244 = .ok (.getfield 43, 3) := by decide +kernel
theorem dX10_text_247 : decode cX10_text 247 = .ok (.invokestatic 291, 3) := by decide +kernel
theorem dX10_text_250 : decode cX10_text 250 = .ok (.aload_n 0, 1) := by decide +kernel
theorem dX10_text_251 : decode cX10_text 251 = .ok (.getfield 46, 3) := by decide +kernel
theorem dX10_text_254 : decode cX10_text 254 = .ok (.invokestatic 291, 3) := by decide +kernel
theorem dX10_text_257 : decode cX10_text 257 = .ok (.aload_n 0, 1) := by decide +kernel
theorem dX10_text_258 : decode cX10_text 258 = .ok (.getfield 49, 3) := by decide +kernel
theorem dX10_text_261 : decode cX10_text 261 = .ok (.invokestatic 291, 3) := by decide +kernel
theorem dX10_text_264 : decode cX10_text 264 = .ok (.aload_n 0, 1) := by decide +kernel
theorem dX10_text_265 : decode cX10_text 265 = .ok (.getfield 52, 3) := by decide +kernel
theorem dX10_text_268 : decode cX10_text 268 = .ok (.invokestatic 291, 3) := by decide +kernel
theorem dX10_text_271 : decode cX10_text 271 = .ok (.aload_n 0, 1) := by decide +kernel
theorem dX10_text_272 : decode cX10_text 272 = .ok (.getfield 55, 3) := by decide +kernel
theorem dX10_text_275 : decode cX10_text 275 = .ok (.invokestatic 291, 3) := by decide +kernel
theorem dX10_text_278 : decode cX10_text 278 = .ok (.aload_n 0, 1) := by decide +kernel
theorem dX10_text_279 : decode cX10_text 279 = .ok (.getfield 58, 3) := by decide +kernel
theorem dX10_text_282 : decode cX10_text 282 = .ok (.invokestatic 291, 3) := by decide +kernel
theorem dX10_text_285 : decode cX10_text 285 = .ok (.aload_n 0, 1) := by decide +kernel
theorem dX10_text_286 : decode cX10_text 286 = .ok (.iconst 0, 1) := by decide +kernel
theorem dX10_text_287 : decode cX10_text 287 = .ok (.putfield 295, 3) := by decide +kernel
theorem dX10_text_290 : decode cX10_text 290 = .ok (.aload_n 0, 1) := by decide +kernel
theorem dX10_text_291 : decode cX10_text 291 = .ok (.iconst (-1), 1) := by decide +kernel
theorem dX10_text_292 : decode cX10_text 292 = .ok (.putfield 120, 3) := by decide +kernel
theorem dX10_text_295 : decode cX10_text 295 = .ok (.aload_n 0, 1) := by decide +kernel
theorem dX10_text_296 : decode cX10_text 296 = .ok (.iconst 0, 1) := by decide +kernel
theorem dX10_text_297 : decode cX10_text 297 = .ok (.putfield 298, 3) := by decide +kernel
theorem dX10_text_300 : decode cX10_text 300 = .ok (.aload_n 0, 1) := by decide +kernel
theorem dX10_text_301 : decode cX10_text 301 = .ok (.iconst 0, 1) := by decide +kernel
theorem dX10_text_302 : decode cX10_text 302 = .ok (.putfield 302, 3) := by decide +kernel
theorem dX10_text_305 : decode cX10_text 305 = .ok (.aload_n 0, 1) := by decide +kernel
theorem dX10_text_306 : decode cX10_text 306 = .ok (.invokevirtual 142, 3) := by decide +kernel
theorem dX10_text_309 : decode cX10_text 309 = .ok (.aload_n 0, 1) := by decide +kernel
theorem dX10_text_310 : decode cX10_text 310 = .ok (.getfield 222, 3) := by decide +kernel
theorem dX10_text_313 : decode cX10_text 313 = .ok (.ireturn, 1) := by decide +kernel
theorem hd_X10_text : yX10_text.cls = xCn 10 ∧ yX10_text.cls ≠ "java/lang/invoke/MethodHandle" ∧ yX10_text.cls ≠ "java/lang/invoke/VarHandle" ∧ (parseMethodDescriptor yX10_text.desc).map (fun d => d.parameters.length) = some 1 := by decide +kernel
def k_X10_text_17 (sh : List xSh) (d : xD) : Option (Int32 × xD) :=
  some ((-2 : Int32), d)
def k_X10_text_148 (sh : List xSh) (q0 : Nat) (d : xD) : Option (Int32 × xD) :=
  (xgI 10 sh d q0 26).bind fun v1 => (xpI 10 sh d q0 28 v1).bind fun d2 => (xgI 10 sh d2 q0 27).bind fun v3 => (xpI 10 sh d2 q0 29 v3).bind fun d4 => (xgI 10 sh d4 q0 26).bind fun v5 => if v5 = 0 then ((xgR 10 sh d4 q0 3).bind fun v6 => (f_X10_half sh v6 d4).bind fun d7 => (xgR 10 sh d7 q0 4).bind fun v8 => (f_X10_half sh v8 d7).bind fun d9 => (xgR 10 sh d9 q0 5).bind fun v10 => (f_X10_half sh v10 d9).bind fun d11 => (xgR 10 sh d11 q0 6).bind fun v12 => (f_X10_half sh v12 d11).bind fun d13 => (xgR 10 sh d13 q0 7).bind fun v14 => (f_X10_half sh v14 d13).bind fun d15 => (xgR 10 sh d15 q0 8).bind fun v16 => (f_X10_half sh v16 d15).bind fun d17 => (xgR 10 sh d17 q0 9).bind fun v18 => (f_X10_half sh v18 d17).bind fun d19 => (xgR 10 sh d19 q0 10).bind fun v20 => (f_X10_half sh v20 d19).bind fun d21 => (xgR 10 sh d21 q0 11).bind fun v22 => (f_X10_half sh v22 d21).bind fun d23 => (xgR 10 sh d23 q0 12).bind fun v24 => (f_X10_half sh v24 d23).bind fun d25 => (xgR 10 sh d25 q0 13).bind fun v26 => (f_X10_half sh v26 d25).bind fun d27 => (xgR 10 sh d27 q0 14).bind fun v28 => (f_X10_half sh v28 d27).bind fun d29 => (xgR 10 sh d29 q0 15).bind fun v30 => (f_X10_half sh v30 d29).bind fun d31 => (xgR 10 sh d31 q0 16).bind fun v32 => (f_X10_half sh v32 d31).bind fun d33 => (xgR 10 sh d33 q0 17).bind fun v34 => (f_X10_half sh v34 d33).bind fun d35 => (xgR 10 sh d35 q0 18).bind fun v36 => (f_X10_half sh v36 d35).bind fun d37 => (xpI 10 sh d37 q0 57 (0 : Int32)).bind fun d38 => (xpI 10 sh d38 q0 58 (-1 : Int32)).bind fun d39 => (xpI 10 sh d39 q0 48 (0 : Int32)).bind fun d40 => (xpI 10 sh d40 q0 49 (0 : Int32)).bind fun d41 => (xon 10 sh q0 (f_X10_begins sh q0 d41)).bind fun d42 => (xgI 10 sh d42 q0 20).bind fun v43 => some (v43, d42)) else (some ((-1 : Int32), d4))
def b_X10_text_126 (sh : List xSh) (rec126 : Nat → xD → Option (Int32 × xD)) (q0 : Nat) (d : xD) : Option (Int32 × xD) :=
  (xgI 10 sh d q0 26).bind fun v44 => if v44 = 0 then ((xgI 10 sh d q0 24).bind fun v45 => if v45 = (4 : Int32) then (k_X10_text_148 sh q0 d) else ((xon 10 sh q0 (f_X10_line sh q0 d)).bind fun d46 => rec126 q0 d46)) else (k_X10_text_148 sh q0 d)
def k_X10_text_102 (sh : List xSh) (q0 : Nat) (d : xD) : Option (Int32 × xD) :=
  (xpI 10 sh d q0 19 (0 : Int32)).bind fun d47 => (xpI 10 sh d47 q0 20 (0 : Int32)).bind fun d48 => (xpI 10 sh d48 q0 30 (0 : Int32)).bind fun d49 => (xpI 10 sh d49 q0 31 (0 : Int32)).bind fun d50 => (xon 10 sh q0 (f_X10_token sh q0 d50)).bind fun d51 => xloop (fun _ _ => none) (b_X10_text_126 sh) xF q0 d51
def b_X10_text_76 (sh : List xSh) (rec76 : Nat → Int32 → xD → Option (Int32 × xD)) (q0 : Nat) (x2 : Int32) (d : xD) : Option (Int32 × xD) :=
  if (6 : Int32) ≤ x2 then (k_X10_text_102 sh q0 d) else ((xgR 10 sh d q0 15).bind fun v52 => (xsI .int sh d v52 x2 (0 : Int32)).bind fun d53 => (xgR 10 sh d53 q0 16).bind fun v54 => (xsI .int sh d53 v54 x2 (0 : Int32)).bind fun d55 => rec76 q0 (x2 + 1) d55)
def k_X10_text_74 (sh : List xSh) (q0 : Nat) (d : xD) : Option (Int32 × xD) :=
  xloop (fun _ _ _ => none) (b_X10_text_76 sh) xF q0 (3 : Int32) d
def k_X10_text_65 (sh : List xSh) (rec47 : Nat → Int32 → xD → Option (Int32 × xD)) (q0 : Nat) (x2 : Int32) (p0 : Nat) (y1 : Int32) (y2 : Int32) (d : xD) : Option (Int32 × xD) :=
  (xon 10 sh p0 (f_X10_reads sh p0 y1 y2 d)).bind fun d56 => rec47 q0 (x2 + 1) d56
def b_X10_text_47 (sh : List xSh) (rec47 : Nat → Int32 → xD → Option (Int32 × xD)) (q0 : Nat) (x2 : Int32) (d : xD) : Option (Int32 × xD) :=
  if (8 : Int32) ≤ x2 then (k_X10_text_74 sh q0 d) else (if x2 = 0 then (k_X10_text_65 sh rec47 q0 x2 q0 x2 (20 : Int32) d) else (k_X10_text_65 sh rec47 q0 x2 q0 x2 (0 : Int32) d))
def f_X10_text (sh : List xSh) (q0 : Nat) (x1 : Int32) (d : xD) : Option (Int32 × xD) :=
  (xpI 10 sh d q0 0 (0 : Int32)).bind fun d57 => if x1 < 0 then (k_X10_text_17 sh d57) else ((xgI 10 sh d57 q0 2).bind fun v58 => if x1 ≤ v58 then ((xpI 10 sh d57 q0 21 x1).bind fun d59 => (xpI 10 sh d59 q0 2 (0 : Int32)).bind fun d60 => (xpI 10 sh d60 q0 22 (0 : Int32)).bind fun d61 => (xpI 10 sh d61 q0 26 (0 : Int32)).bind fun d62 => (xpI 10 sh d62 q0 27 (-1 : Int32)).bind fun d63 => xloop (fun _ _ _ => none) (b_X10_text_47 sh) xF q0 (0 : Int32) d63) else (k_X10_text_17 sh d57))
set_option maxHeartbeats 4000000 in
set_option maxRecDepth 100000 in
theorem mt_X10_text (l : Launch) (D : va_G) (cid : FieldType → ClassId) (b : Nat) (ex : Bool) (sa sv B0 : Nat) (sh : List xSh) (q0 : Nat) (x1 : Int32) (d : xD) (r : Int32) (dz : xD) (hf : f_X10_text sh q0 x1 d = some (r, dz)) : xMet l yX10_text cX10_text 3 (some .int) 493 0 0 D cid b ex sa sv B0 [.ref (b + q0), .int x1] sh d (some (.int r)) sh dz := by
  refine xMet.of (by decide) (Nat.le_of_ble_eq_true rfl) ?_
  intro p e s m below meth c ls A S hr hin G hl
  have hl : lv_has ls 3 [(0, .ref (b + q0)), (1, .int x1)] := hl
  generalize ([.ref (b + q0), .int x1] : List Value).toArray = av at S ⊢
  have hx := S.1
  have hb := S.2.1
  have hml := S.2.2.1
  have hown := S.2.2.2.1
  have hts := S.2.2.2.2.1
  have K17 : ∀ (d : xD), k_X10_text_17 sh d = some (r, dz) → ∀ (H : Heap) (locs : List Loc) (ls : Array Slot), lv_has ls 3 [] → xG D cid b A sh d s H locs → W p l e (xRm 493 0 0) s m av below meth c H locs 0 0 (MQ below (xQ D cid b ex A (some (.int r)) sh dz) av s 0 0 A) (F0 m 17 ls []) := by
    intro d hf H locs ls hl G
    unfold k_X10_text_17 at hf
    refine lv_bipush (v := (-2 : Int32)) hx hb dX10_text_17 (by decide) ?_
    cases hf
    exact xr_iret S G (fun _ => rfl) hr dX10_text_19
  have K148 : ∀ (q0 : Nat) (d : xD), k_X10_text_148 sh q0 d = some (r, dz) → ∀ (H : Heap) (locs : List Loc) (ls : Array Slot), lv_has ls 3 [(0, .ref (b + q0))] → xG D cid b A sh d s H locs → W p l e (xRm 493 0 0) s m av below meth c H locs 0 0 (MQ below (xQ D cid b ex A (some (.int r)) sh dz) av s 0 0 A) (F0 m 148 ls []) := by
    intro q0 d hf H locs ls hl G
    unfold k_X10_text_148 at hf
    refine lv_aload_n hx hb dX10_text_148 rfl (lv_at hl 0 rfl) ?_
    refine lv_aload_n hx hb dX10_text_149 rfl (lv_at hl 0 rfl) ?_
    obtain ⟨v1, hv1, hf⟩ := x_ob hf
    refine xr_getI (ci := 10) (k := 26) S G hv1 rfl kw_1194 dX10_text_150 ?_
    obtain ⟨d2, hd2, hf⟩ := x_ob hf
    refine xr_putI (ci := 10) (k := 28) S G hd2 rfl kw_1196 dX10_text_153 (fun H locs G => ?_)
    refine lv_aload_n hx hb dX10_text_156 rfl (lv_at hl 0 rfl) ?_
    refine lv_aload_n hx hb dX10_text_157 rfl (lv_at hl 0 rfl) ?_
    obtain ⟨v3, hv3, hf⟩ := x_ob hf
    refine xr_getI (ci := 10) (k := 27) S G hv3 rfl kw_1195 dX10_text_158 ?_
    obtain ⟨d4, hd4, hf⟩ := x_ob hf
    refine xr_putI (ci := 10) (k := 29) S G hd4 rfl kw_1197 dX10_text_161 (fun H locs G => ?_)
    refine lv_aload_n hx hb dX10_text_164 rfl (lv_at hl 0 rfl) ?_
    obtain ⟨v5, hv5, hf⟩ := x_ob hf
    refine xr_getI (ci := 10) (k := 26) S G hv5 rfl kw_1194 dX10_text_165 ?_
    refine lv_if_eq (tgt := 173) hx hb dX10_text_168 (by decide) (fun c => ?_) (fun c => ?_)
    · have hf := x_pos c hf
      refine lv_aload_n hx hb dX10_text_173 rfl (lv_at hl 0 rfl) ?_
      obtain ⟨v6, hv6, hf⟩ := x_ob hf
      refine xr_getR (ci := 10) (k := 3) S G hv6 rfl kw_1171 dX10_text_174 ?_
      obtain ⟨d7, hd7, hf⟩ := x_ob hf
      refine xr_callS (As := [.ref (b + v6)]) (rest := []) (st1 := []) S G hl.1 (fun _ => rfl) (mt_X10_half l D cid b ex sa sv B0 sh v6 d4 _ hd7) kw_1489 kw_1490 kw_17 kw_1491 hd_X10_half ⟨Nat.le_of_ble_eq_true rfl, Nat.le_of_ble_eq_true rfl⟩ rfl rfl rfl (Nat.le_of_ble_eq_true rfl) ⟨Nat.le_of_ble_eq_true rfl, Nat.le_of_ble_eq_true rfl⟩ dX10_text_177 (fun H locs G => ?_)
      refine lv_aload_n hx hb dX10_text_180 rfl (lv_at hl 0 rfl) ?_
      obtain ⟨v8, hv8, hf⟩ := x_ob hf
      refine xr_getR (ci := 10) (k := 4) S G hv8 rfl kw_1172 dX10_text_181 ?_
      obtain ⟨d9, hd9, hf⟩ := x_ob hf
      refine xr_callS (As := [.ref (b + v8)]) (rest := []) (st1 := []) S G hl.1 (fun _ => rfl) (mt_X10_half l D cid b ex sa sv B0 sh v8 d7 _ hd9) kw_1489 kw_1490 kw_17 kw_1491 hd_X10_half ⟨Nat.le_of_ble_eq_true rfl, Nat.le_of_ble_eq_true rfl⟩ rfl rfl rfl (Nat.le_of_ble_eq_true rfl) ⟨Nat.le_of_ble_eq_true rfl, Nat.le_of_ble_eq_true rfl⟩ dX10_text_184 (fun H locs G => ?_)
      refine lv_aload_n hx hb dX10_text_187 rfl (lv_at hl 0 rfl) ?_
      obtain ⟨v10, hv10, hf⟩ := x_ob hf
      refine xr_getR (ci := 10) (k := 5) S G hv10 rfl kw_1173 dX10_text_188 ?_
      obtain ⟨d11, hd11, hf⟩ := x_ob hf
      refine xr_callS (As := [.ref (b + v10)]) (rest := []) (st1 := []) S G hl.1 (fun _ => rfl) (mt_X10_half l D cid b ex sa sv B0 sh v10 d9 _ hd11) kw_1489 kw_1490 kw_17 kw_1491 hd_X10_half ⟨Nat.le_of_ble_eq_true rfl, Nat.le_of_ble_eq_true rfl⟩ rfl rfl rfl (Nat.le_of_ble_eq_true rfl) ⟨Nat.le_of_ble_eq_true rfl, Nat.le_of_ble_eq_true rfl⟩ dX10_text_191 (fun H locs G => ?_)
      refine lv_aload_n hx hb dX10_text_194 rfl (lv_at hl 0 rfl) ?_
      obtain ⟨v12, hv12, hf⟩ := x_ob hf
      refine xr_getR (ci := 10) (k := 6) S G hv12 rfl kw_1174 dX10_text_195 ?_
      obtain ⟨d13, hd13, hf⟩ := x_ob hf
      refine xr_callS (As := [.ref (b + v12)]) (rest := []) (st1 := []) S G hl.1 (fun _ => rfl) (mt_X10_half l D cid b ex sa sv B0 sh v12 d11 _ hd13) kw_1489 kw_1490 kw_17 kw_1491 hd_X10_half ⟨Nat.le_of_ble_eq_true rfl, Nat.le_of_ble_eq_true rfl⟩ rfl rfl rfl (Nat.le_of_ble_eq_true rfl) ⟨Nat.le_of_ble_eq_true rfl, Nat.le_of_ble_eq_true rfl⟩ dX10_text_198 (fun H locs G => ?_)
      refine lv_aload_n hx hb dX10_text_201 rfl (lv_at hl 0 rfl) ?_
      obtain ⟨v14, hv14, hf⟩ := x_ob hf
      refine xr_getR (ci := 10) (k := 7) S G hv14 rfl kw_1175 dX10_text_202 ?_
      obtain ⟨d15, hd15, hf⟩ := x_ob hf
      refine xr_callS (As := [.ref (b + v14)]) (rest := []) (st1 := []) S G hl.1 (fun _ => rfl) (mt_X10_half l D cid b ex sa sv B0 sh v14 d13 _ hd15) kw_1489 kw_1490 kw_17 kw_1491 hd_X10_half ⟨Nat.le_of_ble_eq_true rfl, Nat.le_of_ble_eq_true rfl⟩ rfl rfl rfl (Nat.le_of_ble_eq_true rfl) ⟨Nat.le_of_ble_eq_true rfl, Nat.le_of_ble_eq_true rfl⟩ dX10_text_205 (fun H locs G => ?_)
      refine lv_aload_n hx hb dX10_text_208 rfl (lv_at hl 0 rfl) ?_
      obtain ⟨v16, hv16, hf⟩ := x_ob hf
      refine xr_getR (ci := 10) (k := 8) S G hv16 rfl kw_1176 dX10_text_209 ?_
      obtain ⟨d17, hd17, hf⟩ := x_ob hf
      refine xr_callS (As := [.ref (b + v16)]) (rest := []) (st1 := []) S G hl.1 (fun _ => rfl) (mt_X10_half l D cid b ex sa sv B0 sh v16 d15 _ hd17) kw_1489 kw_1490 kw_17 kw_1491 hd_X10_half ⟨Nat.le_of_ble_eq_true rfl, Nat.le_of_ble_eq_true rfl⟩ rfl rfl rfl (Nat.le_of_ble_eq_true rfl) ⟨Nat.le_of_ble_eq_true rfl, Nat.le_of_ble_eq_true rfl⟩ dX10_text_212 (fun H locs G => ?_)
      refine lv_aload_n hx hb dX10_text_215 rfl (lv_at hl 0 rfl) ?_
      obtain ⟨v18, hv18, hf⟩ := x_ob hf
      refine xr_getR (ci := 10) (k := 9) S G hv18 rfl kw_1177 dX10_text_216 ?_
      obtain ⟨d19, hd19, hf⟩ := x_ob hf
      refine xr_callS (As := [.ref (b + v18)]) (rest := []) (st1 := []) S G hl.1 (fun _ => rfl) (mt_X10_half l D cid b ex sa sv B0 sh v18 d17 _ hd19) kw_1489 kw_1490 kw_17 kw_1491 hd_X10_half ⟨Nat.le_of_ble_eq_true rfl, Nat.le_of_ble_eq_true rfl⟩ rfl rfl rfl (Nat.le_of_ble_eq_true rfl) ⟨Nat.le_of_ble_eq_true rfl, Nat.le_of_ble_eq_true rfl⟩ dX10_text_219 (fun H locs G => ?_)
      refine lv_aload_n hx hb dX10_text_222 rfl (lv_at hl 0 rfl) ?_
      obtain ⟨v20, hv20, hf⟩ := x_ob hf
      refine xr_getR (ci := 10) (k := 10) S G hv20 rfl kw_1178 dX10_text_223 ?_
      obtain ⟨d21, hd21, hf⟩ := x_ob hf
      refine xr_callS (As := [.ref (b + v20)]) (rest := []) (st1 := []) S G hl.1 (fun _ => rfl) (mt_X10_half l D cid b ex sa sv B0 sh v20 d19 _ hd21) kw_1489 kw_1490 kw_17 kw_1491 hd_X10_half ⟨Nat.le_of_ble_eq_true rfl, Nat.le_of_ble_eq_true rfl⟩ rfl rfl rfl (Nat.le_of_ble_eq_true rfl) ⟨Nat.le_of_ble_eq_true rfl, Nat.le_of_ble_eq_true rfl⟩ dX10_text_226 (fun H locs G => ?_)
      refine lv_aload_n hx hb dX10_text_229 rfl (lv_at hl 0 rfl) ?_
      obtain ⟨v22, hv22, hf⟩ := x_ob hf
      refine xr_getR (ci := 10) (k := 11) S G hv22 rfl kw_1179 dX10_text_230 ?_
      obtain ⟨d23, hd23, hf⟩ := x_ob hf
      refine xr_callS (As := [.ref (b + v22)]) (rest := []) (st1 := []) S G hl.1 (fun _ => rfl) (mt_X10_half l D cid b ex sa sv B0 sh v22 d21 _ hd23) kw_1489 kw_1490 kw_17 kw_1491 hd_X10_half ⟨Nat.le_of_ble_eq_true rfl, Nat.le_of_ble_eq_true rfl⟩ rfl rfl rfl (Nat.le_of_ble_eq_true rfl) ⟨Nat.le_of_ble_eq_true rfl, Nat.le_of_ble_eq_true rfl⟩ dX10_text_233 (fun H locs G => ?_)
      refine lv_aload_n hx hb dX10_text_236 rfl (lv_at hl 0 rfl) ?_
      obtain ⟨v24, hv24, hf⟩ := x_ob hf
      refine xr_getR (ci := 10) (k := 12) S G hv24 rfl kw_1180 dX10_text_237 ?_
      obtain ⟨d25, hd25, hf⟩ := x_ob hf
      refine xr_callS (As := [.ref (b + v24)]) (rest := []) (st1 := []) S G hl.1 (fun _ => rfl) (mt_X10_half l D cid b ex sa sv B0 sh v24 d23 _ hd25) kw_1489 kw_1490 kw_17 kw_1491 hd_X10_half ⟨Nat.le_of_ble_eq_true rfl, Nat.le_of_ble_eq_true rfl⟩ rfl rfl rfl (Nat.le_of_ble_eq_true rfl) ⟨Nat.le_of_ble_eq_true rfl, Nat.le_of_ble_eq_true rfl⟩ dX10_text_240 (fun H locs G => ?_)
      refine lv_aload_n hx hb dX10_text_243 rfl (lv_at hl 0 rfl) ?_
      obtain ⟨v26, hv26, hf⟩ := x_ob hf
      refine xr_getR (ci := 10) (k := 13) S G hv26 rfl kw_1181 dX10_text_244 ?_
      obtain ⟨d27, hd27, hf⟩ := x_ob hf
      refine xr_callS (As := [.ref (b + v26)]) (rest := []) (st1 := []) S G hl.1 (fun _ => rfl) (mt_X10_half l D cid b ex sa sv B0 sh v26 d25 _ hd27) kw_1489 kw_1490 kw_17 kw_1491 hd_X10_half ⟨Nat.le_of_ble_eq_true rfl, Nat.le_of_ble_eq_true rfl⟩ rfl rfl rfl (Nat.le_of_ble_eq_true rfl) ⟨Nat.le_of_ble_eq_true rfl, Nat.le_of_ble_eq_true rfl⟩ dX10_text_247 (fun H locs G => ?_)
      refine lv_aload_n hx hb dX10_text_250 rfl (lv_at hl 0 rfl) ?_
      obtain ⟨v28, hv28, hf⟩ := x_ob hf
      refine xr_getR (ci := 10) (k := 14) S G hv28 rfl kw_1182 dX10_text_251 ?_
      obtain ⟨d29, hd29, hf⟩ := x_ob hf
      refine xr_callS (As := [.ref (b + v28)]) (rest := []) (st1 := []) S G hl.1 (fun _ => rfl) (mt_X10_half l D cid b ex sa sv B0 sh v28 d27 _ hd29) kw_1489 kw_1490 kw_17 kw_1491 hd_X10_half ⟨Nat.le_of_ble_eq_true rfl, Nat.le_of_ble_eq_true rfl⟩ rfl rfl rfl (Nat.le_of_ble_eq_true rfl) ⟨Nat.le_of_ble_eq_true rfl, Nat.le_of_ble_eq_true rfl⟩ dX10_text_254 (fun H locs G => ?_)
      refine lv_aload_n hx hb dX10_text_257 rfl (lv_at hl 0 rfl) ?_
      obtain ⟨v30, hv30, hf⟩ := x_ob hf
      refine xr_getR (ci := 10) (k := 15) S G hv30 rfl kw_1183 dX10_text_258 ?_
      obtain ⟨d31, hd31, hf⟩ := x_ob hf
      refine xr_callS (As := [.ref (b + v30)]) (rest := []) (st1 := []) S G hl.1 (fun _ => rfl) (mt_X10_half l D cid b ex sa sv B0 sh v30 d29 _ hd31) kw_1489 kw_1490 kw_17 kw_1491 hd_X10_half ⟨Nat.le_of_ble_eq_true rfl, Nat.le_of_ble_eq_true rfl⟩ rfl rfl rfl (Nat.le_of_ble_eq_true rfl) ⟨Nat.le_of_ble_eq_true rfl, Nat.le_of_ble_eq_true rfl⟩ dX10_text_261 (fun H locs G => ?_)
      refine lv_aload_n hx hb dX10_text_264 rfl (lv_at hl 0 rfl) ?_
      obtain ⟨v32, hv32, hf⟩ := x_ob hf
      refine xr_getR (ci := 10) (k := 16) S G hv32 rfl kw_1184 dX10_text_265 ?_
      obtain ⟨d33, hd33, hf⟩ := x_ob hf
      refine xr_callS (As := [.ref (b + v32)]) (rest := []) (st1 := []) S G hl.1 (fun _ => rfl) (mt_X10_half l D cid b ex sa sv B0 sh v32 d31 _ hd33) kw_1489 kw_1490 kw_17 kw_1491 hd_X10_half ⟨Nat.le_of_ble_eq_true rfl, Nat.le_of_ble_eq_true rfl⟩ rfl rfl rfl (Nat.le_of_ble_eq_true rfl) ⟨Nat.le_of_ble_eq_true rfl, Nat.le_of_ble_eq_true rfl⟩ dX10_text_268 (fun H locs G => ?_)
      refine lv_aload_n hx hb dX10_text_271 rfl (lv_at hl 0 rfl) ?_
      obtain ⟨v34, hv34, hf⟩ := x_ob hf
      refine xr_getR (ci := 10) (k := 17) S G hv34 rfl kw_1185 dX10_text_272 ?_
      obtain ⟨d35, hd35, hf⟩ := x_ob hf
      refine xr_callS (As := [.ref (b + v34)]) (rest := []) (st1 := []) S G hl.1 (fun _ => rfl) (mt_X10_half l D cid b ex sa sv B0 sh v34 d33 _ hd35) kw_1489 kw_1490 kw_17 kw_1491 hd_X10_half ⟨Nat.le_of_ble_eq_true rfl, Nat.le_of_ble_eq_true rfl⟩ rfl rfl rfl (Nat.le_of_ble_eq_true rfl) ⟨Nat.le_of_ble_eq_true rfl, Nat.le_of_ble_eq_true rfl⟩ dX10_text_275 (fun H locs G => ?_)
      refine lv_aload_n hx hb dX10_text_278 rfl (lv_at hl 0 rfl) ?_
      obtain ⟨v36, hv36, hf⟩ := x_ob hf
      refine xr_getR (ci := 10) (k := 18) S G hv36 rfl kw_1186 dX10_text_279 ?_
      obtain ⟨d37, hd37, hf⟩ := x_ob hf
      refine xr_callS (As := [.ref (b + v36)]) (rest := []) (st1 := []) S G hl.1 (fun _ => rfl) (mt_X10_half l D cid b ex sa sv B0 sh v36 d35 _ hd37) kw_1489 kw_1490 kw_17 kw_1491 hd_X10_half ⟨Nat.le_of_ble_eq_true rfl, Nat.le_of_ble_eq_true rfl⟩ rfl rfl rfl (Nat.le_of_ble_eq_true rfl) ⟨Nat.le_of_ble_eq_true rfl, Nat.le_of_ble_eq_true rfl⟩ dX10_text_282 (fun H locs G => ?_)
      refine lv_aload_n hx hb dX10_text_285 rfl (lv_at hl 0 rfl) ?_
      refine lv_iconst (v := (0 : Int32)) hx hb dX10_text_286 (by decide) ?_
      obtain ⟨d38, hd38, hf⟩ := x_ob hf
      refine xr_putI (ci := 10) (k := 57) S G hd38 rfl kw_1225 dX10_text_287 (fun H locs G => ?_)
      refine lv_aload_n hx hb dX10_text_290 rfl (lv_at hl 0 rfl) ?_
      refine lv_iconst (v := (-1 : Int32)) hx hb dX10_text_291 (by decide) ?_
      obtain ⟨d39, hd39, hf⟩ := x_ob hf
      refine xr_putI (ci := 10) (k := 58) S G hd39 rfl kw_1226 dX10_text_292 (fun H locs G => ?_)
      refine lv_aload_n hx hb dX10_text_295 rfl (lv_at hl 0 rfl) ?_
      refine lv_iconst (v := (0 : Int32)) hx hb dX10_text_296 (by decide) ?_
      obtain ⟨d40, hd40, hf⟩ := x_ob hf
      refine xr_putI (ci := 10) (k := 48) S G hd40 rfl kw_1216 dX10_text_297 (fun H locs G => ?_)
      refine lv_aload_n hx hb dX10_text_300 rfl (lv_at hl 0 rfl) ?_
      refine lv_iconst (v := (0 : Int32)) hx hb dX10_text_301 (by decide) ?_
      obtain ⟨d41, hd41, hf⟩ := x_ob hf
      refine xr_putI (ci := 10) (k := 49) S G hd41 rfl kw_1217 dX10_text_302 (fun H locs G => ?_)
      refine lv_aload_n hx hb dX10_text_305 rfl (lv_at hl 0 rfl) ?_
      obtain ⟨d42, hd42, hf⟩ := x_ob hf
      obtain ⟨hqd42, hd42⟩ := xon_of hd42
      refine xr_callV (ci := 10) (As := []) (rest := []) (st1 := []) S G hl.1 (fun _ => rfl) (mt_X10_begins l D cid b ex sa sv B0 sh q0 d41 _ hd42) hqd42 (by decide) kw_1160 kw_1162 ks_35 kw_17 kw_1163 hd_X10_begins ⟨Nat.le_of_ble_eq_true rfl, Nat.le_of_ble_eq_true rfl⟩ rfl rfl rfl (Nat.le_of_ble_eq_true rfl) ⟨Nat.le_of_ble_eq_true rfl, Nat.le_of_ble_eq_true rfl⟩ dX10_text_306 (fun H locs G => ?_)
      refine lv_aload_n hx hb dX10_text_309 rfl (lv_at hl 0 rfl) ?_
      obtain ⟨v43, hv43, hf⟩ := x_ob hf
      refine xr_getI (ci := 10) (k := 20) S G hv43 rfl kw_1188 dX10_text_310 ?_
      cases hf
      exact xr_iret S G (fun _ => rfl) hr dX10_text_313
    · have hf := x_neg c hf
      refine lv_iconst (v := (-1 : Int32)) hx hb dX10_text_171 (by decide) ?_
      cases hf
      exact xr_iret S G (fun _ => rfl) hr dX10_text_172
  have K126 : ∀ (n : Nat) (q0 : Nat) (d : xD), xloop (fun _ _ => none) (b_X10_text_126 sh) n q0 d = some (r, dz) → ∀ (H : Heap) (locs : List Loc) (ls : Array Slot), lv_has ls 3 [(0, .ref (b + q0))] → xG D cid b A sh d s H locs → W p l e (xRm 493 0 0) s m av below meth c H locs 0 0 (MQ below (xQ D cid b ex A (some (.int r)) sh dz) av s 0 0 A) (F0 m 126 ls []) := by
    intro n
    induction n with
    | zero =>
      intro q0 d hf
      have hf : (none : Option (Int32 × xD)) = some (r, dz) := hf
      cases hf
    | succ n hrec126 =>
      intro q0 d hf H locs ls hl G
      have hf : b_X10_text_126 sh (xloop (fun _ _ => none) (b_X10_text_126 sh) n) q0 d = some (r, dz) := hf
      unfold b_X10_text_126 at hf
      refine lv_aload_n hx hb dX10_text_126 rfl (lv_at hl 0 rfl) ?_
      obtain ⟨v44, hv44, hf⟩ := x_ob hf
      refine xr_getI (ci := 10) (k := 26) S G hv44 rfl kw_1194 dX10_text_127 ?_
      refine lv_if_ne (tgt := 148) hx hb dX10_text_130 (by decide) (fun c => ?_) (fun c => ?_)
      · have hf := x_neg c hf
        exact K148 q0 d hf _ _ ls (lv_sub hl [0] rfl) G
      · have hf := x_pos c hf
        refine lv_aload_n hx hb dX10_text_133 rfl (lv_at hl 0 rfl) ?_
        obtain ⟨v45, hv45, hf⟩ := x_ob hf
        refine xr_getI (ci := 10) (k := 24) S G hv45 rfl kw_1192 dX10_text_134 ?_
        refine lv_iconst (v := (4 : Int32)) hx hb dX10_text_137 (by decide) ?_
        refine lv_icmp_eq (tgt := 148) hx hb dX10_text_138 (by decide) (fun c => ?_) (fun c => ?_)
        · have hf := x_pos c hf
          exact K148 q0 d hf _ _ ls (lv_sub hl [0] rfl) G
        · have hf := x_neg c hf
          refine lv_aload_n hx hb dX10_text_141 rfl (lv_at hl 0 rfl) ?_
          obtain ⟨d46, hd46, hf⟩ := x_ob hf
          obtain ⟨hqd46, hd46⟩ := xon_of hd46
          refine xr_callV (ci := 10) (As := []) (rest := []) (st1 := []) S G hl.1 (fun _ => rfl) (mt_X10_line l D cid b ex sa sv B0 sh q0 d _ hd46) hqd46 (by decide) kw_1410 kw_1412 ks_43 kw_17 kw_1413 hd_X10_line ⟨Nat.le_of_ble_eq_true rfl, Nat.le_of_ble_eq_true rfl⟩ rfl rfl rfl (Nat.le_of_ble_eq_true rfl) ⟨Nat.le_of_ble_eq_true rfl, Nat.le_of_ble_eq_true rfl⟩ dX10_text_142 (fun H locs G => ?_)
          refine lv_goto (tgt := 126) hx hb dX10_text_145 (by decide) ?_
          exact hrec126 q0 d46 hf _ _ ls (lv_sub hl [0] rfl) G
  have K102 : ∀ (q0 : Nat) (d : xD), k_X10_text_102 sh q0 d = some (r, dz) → ∀ (H : Heap) (locs : List Loc) (ls : Array Slot), lv_has ls 3 [(0, .ref (b + q0))] → xG D cid b A sh d s H locs → W p l e (xRm 493 0 0) s m av below meth c H locs 0 0 (MQ below (xQ D cid b ex A (some (.int r)) sh dz) av s 0 0 A) (F0 m 102 ls []) := by
    intro q0 d hf H locs ls hl G
    unfold k_X10_text_102 at hf
    refine lv_aload_n hx hb dX10_text_102 rfl (lv_at hl 0 rfl) ?_
    refine lv_iconst (v := (0 : Int32)) hx hb dX10_text_103 (by decide) ?_
    obtain ⟨d47, hd47, hf⟩ := x_ob hf
    refine xr_putI (ci := 10) (k := 19) S G hd47 rfl kw_1187 dX10_text_104 (fun H locs G => ?_)
    refine lv_aload_n hx hb dX10_text_107 rfl (lv_at hl 0 rfl) ?_
    refine lv_iconst (v := (0 : Int32)) hx hb dX10_text_108 (by decide) ?_
    obtain ⟨d48, hd48, hf⟩ := x_ob hf
    refine xr_putI (ci := 10) (k := 20) S G hd48 rfl kw_1188 dX10_text_109 (fun H locs G => ?_)
    refine lv_aload_n hx hb dX10_text_112 rfl (lv_at hl 0 rfl) ?_
    refine lv_iconst (v := (0 : Int32)) hx hb dX10_text_113 (by decide) ?_
    obtain ⟨d49, hd49, hf⟩ := x_ob hf
    refine xr_putI (ci := 10) (k := 30) S G hd49 rfl kw_1198 dX10_text_114 (fun H locs G => ?_)
    refine lv_aload_n hx hb dX10_text_117 rfl (lv_at hl 0 rfl) ?_
    refine lv_iconst (v := (0 : Int32)) hx hb dX10_text_118 (by decide) ?_
    obtain ⟨d50, hd50, hf⟩ := x_ob hf
    refine xr_putI (ci := 10) (k := 31) S G hd50 rfl kw_1199 dX10_text_119 (fun H locs G => ?_)
    refine lv_aload_n hx hb dX10_text_122 rfl (lv_at hl 0 rfl) ?_
    obtain ⟨d51, hd51, hf⟩ := x_ob hf
    obtain ⟨hqd51, hd51⟩ := xon_of hd51
    refine xr_callV (ci := 10) (As := []) (rest := []) (st1 := []) S G hl.1 (fun _ => rfl) (mt_X10_token l D cid b ex sa sv B0 sh q0 d50 _ hd51) hqd51 (by decide) kw_1380 kw_1382 ks_38 kw_17 kw_1383 hd_X10_token ⟨Nat.le_of_ble_eq_true rfl, Nat.le_of_ble_eq_true rfl⟩ rfl rfl rfl (Nat.le_of_ble_eq_true rfl) ⟨Nat.le_of_ble_eq_true rfl, Nat.le_of_ble_eq_true rfl⟩ dX10_text_123 (fun H locs G => ?_)
    exact K126 xF q0 d51 hf _ _ ls (lv_sub hl [0] rfl) G
  have K76 : ∀ (n : Nat) (q0 : Nat) (x2 : Int32) (d : xD), xloop (fun _ _ _ => none) (b_X10_text_76 sh) n q0 x2 d = some (r, dz) → ∀ (H : Heap) (locs : List Loc) (ls : Array Slot), lv_has ls 3 [(0, .ref (b + q0)), (2, .int x2)] → xG D cid b A sh d s H locs → W p l e (xRm 493 0 0) s m av below meth c H locs 0 0 (MQ below (xQ D cid b ex A (some (.int r)) sh dz) av s 0 0 A) (F0 m 76 ls []) := by
    intro n
    induction n with
    | zero =>
      intro q0 x2 d hf
      have hf : (none : Option (Int32 × xD)) = some (r, dz) := hf
      cases hf
    | succ n hrec76 =>
      intro q0 x2 d hf H locs ls hl G
      have hf : b_X10_text_76 sh (xloop (fun _ _ _ => none) (b_X10_text_76 sh) n) q0 x2 d = some (r, dz) := hf
      unfold b_X10_text_76 at hf
      refine lv_iload_n hx hb dX10_text_76 rfl (lv_at hl 1 rfl) ?_
      refine lv_bipush (v := (6 : Int32)) hx hb dX10_text_77 (by decide) ?_
      refine lv_icmp_ge (tgt := 102) hx hb dX10_text_79 (by decide) (fun c => ?_) (fun c => ?_)
      · have hf := x_pos c hf
        exact K102 q0 d hf _ _ ls (lv_sub hl [0] rfl) G
      · have hf := x_neg c hf
        refine lv_aload_n hx hb dX10_text_82 rfl (lv_at hl 0 rfl) ?_
        obtain ⟨v52, hv52, hf⟩ := x_ob hf
        refine xr_getR (ci := 10) (k := 15) S G hv52 rfl kw_1183 dX10_text_83 ?_
        refine lv_iload_n hx hb dX10_text_86 rfl (lv_at hl 1 rfl) ?_
        refine lv_iconst (v := (0 : Int32)) hx hb dX10_text_87 (by decide) ?_
        obtain ⟨d53, hd53, hf⟩ := x_ob hf
        refine xr_iast S G hd53 dX10_text_88 (fun H locs G => ?_)
        refine lv_aload_n hx hb dX10_text_89 rfl (lv_at hl 0 rfl) ?_
        obtain ⟨v54, hv54, hf⟩ := x_ob hf
        refine xr_getR (ci := 10) (k := 16) S G hv54 rfl kw_1184 dX10_text_90 ?_
        refine lv_iload_n hx hb dX10_text_93 rfl (lv_at hl 1 rfl) ?_
        refine lv_iconst (v := (0 : Int32)) hx hb dX10_text_94 (by decide) ?_
        obtain ⟨d55, hd55, hf⟩ := x_ob hf
        refine xr_iast S G hd55 dX10_text_95 (fun H locs G => ?_)
        refine lv_iinc (v := (x2 + 1)) (lv' := [(2, .int (x2 + 1)), (0, .ref (b + q0))]) hx hb dX10_text_96 hl (k := 1) rfl rfl (by decide) rfl (fun ls hl => ?_)
        refine lv_goto (tgt := 76) hx hb dX10_text_99 (by decide) ?_
        exact hrec76 q0 (x2 + 1) d55 hf _ _ ls (lv_sub hl [1, 0] rfl) G
  have K74 : ∀ (q0 : Nat) (d : xD), k_X10_text_74 sh q0 d = some (r, dz) → ∀ (H : Heap) (locs : List Loc) (ls : Array Slot), lv_has ls 3 [(0, .ref (b + q0))] → xG D cid b A sh d s H locs → W p l e (xRm 493 0 0) s m av below meth c H locs 0 0 (MQ below (xQ D cid b ex A (some (.int r)) sh dz) av s 0 0 A) (F0 m 74 ls []) := by
    intro q0 d hf H locs ls hl G
    unfold k_X10_text_74 at hf
    refine lv_iconst (v := (3 : Int32)) hx hb dX10_text_74 (by decide) ?_
    refine lv_istore_n (lv' := [(2, .int (3 : Int32)), (0, .ref (b + q0))]) hx hb dX10_text_75 rfl hl (by decide) rfl (fun ls hl => ?_)
    exact K76 xF q0 (3 : Int32) d hf _ _ ls (lv_sub hl [1, 0] rfl) G
  have K65 : ∀ (rec47 : Nat → Int32 → xD → Option (Int32 × xD)) (hrec47 : ∀ (q0 : Nat) (x2 : Int32) (d : xD), rec47 q0 x2 d = some (r, dz) → ∀ (H : Heap) (locs : List Loc) (ls : Array Slot), lv_has ls 3 [(0, .ref (b + q0)), (2, .int x2)] → xG D cid b A sh d s H locs → W p l e (xRm 493 0 0) s m av below meth c H locs 0 0 (MQ below (xQ D cid b ex A (some (.int r)) sh dz) av s 0 0 A) (F0 m 47 ls [])) (q0 : Nat) (x2 : Int32) (p0 : Nat) (y1 : Int32) (y2 : Int32) (d : xD), k_X10_text_65 sh rec47 q0 x2 p0 y1 y2 d = some (r, dz) → ∀ (H : Heap) (locs : List Loc) (ls : Array Slot), lv_has ls 3 [(0, .ref (b + q0)), (2, .int x2)] → xG D cid b A sh d s H locs → W p l e (xRm 493 0 0) s m av below meth c H locs 0 0 (MQ below (xQ D cid b ex A (some (.int r)) sh dz) av s 0 0 A) (F0 m 65 ls [.int y2, .int y1, .ref (b + p0)]) := by
    intro rec47 hrec47 q0 x2 p0 y1 y2 d hf H locs ls hl G
    unfold k_X10_text_65 at hf
    obtain ⟨d56, hd56, hf⟩ := x_ob hf
    obtain ⟨hqd56, hd56⟩ := xon_of hd56
    refine xr_callV (ci := 10) (As := [.int y1, .int y2]) (rest := []) (st1 := []) S G hl.1 (fun _ => rfl) (mt_X10_reads l D cid b ex sa sv B0 sh p0 y1 y2 d _ hd56) hqd56 (by decide) kw_1376 kw_1378 ks_37 kw_17 kw_1379 hd_X10_reads ⟨Nat.le_of_ble_eq_true rfl, Nat.le_of_ble_eq_true rfl⟩ rfl rfl rfl (Nat.le_of_ble_eq_true rfl) ⟨Nat.le_of_ble_eq_true rfl, Nat.le_of_ble_eq_true rfl⟩ dX10_text_65 (fun H locs G => ?_)
    refine lv_iinc (v := (x2 + 1)) (lv' := [(2, .int (x2 + 1)), (0, .ref (b + q0))]) hx hb dX10_text_68 hl (k := 1) rfl rfl (by decide) rfl (fun ls hl => ?_)
    refine lv_goto (tgt := 47) hx hb dX10_text_71 (by decide) ?_
    exact hrec47 q0 (x2 + 1) d56 hf _ _ ls (lv_sub hl [1, 0] rfl) G
  have K47 : ∀ (n : Nat) (q0 : Nat) (x2 : Int32) (d : xD), xloop (fun _ _ _ => none) (b_X10_text_47 sh) n q0 x2 d = some (r, dz) → ∀ (H : Heap) (locs : List Loc) (ls : Array Slot), lv_has ls 3 [(0, .ref (b + q0)), (2, .int x2)] → xG D cid b A sh d s H locs → W p l e (xRm 493 0 0) s m av below meth c H locs 0 0 (MQ below (xQ D cid b ex A (some (.int r)) sh dz) av s 0 0 A) (F0 m 47 ls []) := by
    intro n
    induction n with
    | zero =>
      intro q0 x2 d hf
      have hf : (none : Option (Int32 × xD)) = some (r, dz) := hf
      cases hf
    | succ n hrec47 =>
      intro q0 x2 d hf H locs ls hl G
      have hf : b_X10_text_47 sh (xloop (fun _ _ _ => none) (b_X10_text_47 sh) n) q0 x2 d = some (r, dz) := hf
      unfold b_X10_text_47 at hf
      refine lv_iload_n hx hb dX10_text_47 rfl (lv_at hl 1 rfl) ?_
      refine lv_bipush (v := (8 : Int32)) hx hb dX10_text_48 (by decide) ?_
      refine lv_icmp_ge (tgt := 74) hx hb dX10_text_50 (by decide) (fun c => ?_) (fun c => ?_)
      · have hf := x_pos c hf
        exact K74 q0 d hf _ _ ls (lv_sub hl [0] rfl) G
      · have hf := x_neg c hf
        refine lv_aload_n hx hb dX10_text_53 rfl (lv_at hl 0 rfl) ?_
        refine lv_iload_n hx hb dX10_text_54 rfl (lv_at hl 1 rfl) ?_
        refine lv_iload_n hx hb dX10_text_55 rfl (lv_at hl 1 rfl) ?_
        refine lv_if_ne (tgt := 64) hx hb dX10_text_56 (by decide) (fun c => ?_) (fun c => ?_)
        · have hf := x_neg c hf
          refine lv_iconst (v := (0 : Int32)) hx hb dX10_text_64 (by decide) ?_
          exact K65 _ hrec47 q0 x2 q0 x2 (0 : Int32) d hf _ _ ls (lv_sub hl [0, 1] rfl) G
        · have hf := x_pos c hf
          refine lv_bipush (v := (20 : Int32)) hx hb dX10_text_59 (by decide) ?_
          refine lv_goto (tgt := 65) hx hb dX10_text_61 (by decide) ?_
          exact K65 _ hrec47 q0 x2 q0 x2 (20 : Int32) d hf _ _ ls (lv_sub hl [0, 1] rfl) G
  unfold f_X10_text at hf
  refine lv_aload_n hx hb dX10_text_0 rfl (lv_at hl 0 rfl) ?_
  refine lv_iconst (v := (0 : Int32)) hx hb dX10_text_1 (by decide) ?_
  obtain ⟨d57, hd57, hf⟩ := x_ob hf
  refine xr_putI (ci := 10) (k := 0) S G hd57 rfl kw_1168 dX10_text_2 (fun H locs G => ?_)
  refine lv_iload_n hx hb dX10_text_5 rfl (lv_at hl 1 rfl) ?_
  refine lv_if_lt (tgt := 17) hx hb dX10_text_6 (by decide) (fun c => ?_) (fun c => ?_)
  · have hf := x_pos c hf
    exact K17 d57 hf _ _ ls (lv_sub hl [] rfl) G
  · have hf := x_neg c hf
    refine lv_iload_n hx hb dX10_text_9 rfl (lv_at hl 1 rfl) ?_
    refine lv_aload_n hx hb dX10_text_10 rfl (lv_at hl 0 rfl) ?_
    obtain ⟨v58, hv58, hf⟩ := x_ob hf
    refine xr_getI (ci := 10) (k := 2) S G hv58 rfl kw_1170 dX10_text_11 ?_
    refine lv_icmp_le (tgt := 20) hx hb dX10_text_14 (by decide) (fun c => ?_) (fun c => ?_)
    · have hf := x_pos c hf
      refine lv_aload_n hx hb dX10_text_20 rfl (lv_at hl 0 rfl) ?_
      refine lv_iload_n hx hb dX10_text_21 rfl (lv_at hl 1 rfl) ?_
      obtain ⟨d59, hd59, hf⟩ := x_ob hf
      refine xr_putI (ci := 10) (k := 21) S G hd59 rfl kw_1189 dX10_text_22 (fun H locs G => ?_)
      refine lv_aload_n hx hb dX10_text_25 rfl (lv_at hl 0 rfl) ?_
      refine lv_iconst (v := (0 : Int32)) hx hb dX10_text_26 (by decide) ?_
      obtain ⟨d60, hd60, hf⟩ := x_ob hf
      refine xr_putI (ci := 10) (k := 2) S G hd60 rfl kw_1170 dX10_text_27 (fun H locs G => ?_)
      refine lv_aload_n hx hb dX10_text_30 rfl (lv_at hl 0 rfl) ?_
      refine lv_iconst (v := (0 : Int32)) hx hb dX10_text_31 (by decide) ?_
      obtain ⟨d61, hd61, hf⟩ := x_ob hf
      refine xr_putI (ci := 10) (k := 22) S G hd61 rfl kw_1190 dX10_text_32 (fun H locs G => ?_)
      refine lv_aload_n hx hb dX10_text_35 rfl (lv_at hl 0 rfl) ?_
      refine lv_iconst (v := (0 : Int32)) hx hb dX10_text_36 (by decide) ?_
      obtain ⟨d62, hd62, hf⟩ := x_ob hf
      refine xr_putI (ci := 10) (k := 26) S G hd62 rfl kw_1194 dX10_text_37 (fun H locs G => ?_)
      refine lv_aload_n hx hb dX10_text_40 rfl (lv_at hl 0 rfl) ?_
      refine lv_iconst (v := (-1 : Int32)) hx hb dX10_text_41 (by decide) ?_
      obtain ⟨d63, hd63, hf⟩ := x_ob hf
      refine xr_putI (ci := 10) (k := 27) S G hd63 rfl kw_1195 dX10_text_42 (fun H locs G => ?_)
      refine lv_iconst (v := (0 : Int32)) hx hb dX10_text_45 (by decide) ?_
      refine lv_istore_n (lv' := [(2, .int (0 : Int32)), (0, .ref (b + q0)), (1, .int x1)]) hx hb dX10_text_46 rfl hl (by decide) rfl (fun ls hl => ?_)
      exact K47 xF q0 (0 : Int32) d63 hf _ _ ls (lv_sub hl [1, 0] rfl) G
    · have hf := x_neg c hf
      exact K17 d57 hf _ _ ls (lv_sub hl [] rfl) G

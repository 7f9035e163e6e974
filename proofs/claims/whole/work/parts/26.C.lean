-- HalfLandings$TextReader.readWalker()Z
theorem dX6_readWalker_0 : decode cX6_readWalker 0 = .ok (.aload_n 0, 1) := by decide +kernel
theorem dX6_readWalker_1 : decode cX6_readWalker 1 = .ok (.getfield 19, 3) := by decide +kernel
theorem dX6_readWalker_4 : decode cX6_readWalker 4 = .ok (.getfield 100, 3) := by decide +kernel
theorem dX6_readWalker_7 : decode cX6_readWalker 7 = .ok (.bipush 6, 2) := by decide +kernel
theorem dX6_readWalker_9 : decode cX6_readWalker 9 = .ok (.if_icmp .lt 12, 3) := by decide +kernel
theorem dX6_readWalker_12 : decode cX6_readWalker 12 = .ok (.aload_n 0, 1) := by decide +kernel
theorem dX6_readWalker_13 : decode cX6_readWalker 13 = .ok (.getfield 15, 3) := by decide +kernel
theorem dX6_readWalker_16 : decode cX6_readWalker 16 = .ok (.iconst 2, 1) := by decide +kernel
theorem dX6_readWalker_17 : decode cX6_readWalker 17 = .ok (.invokevirtual 45, 3) := by decide +kernel
theorem dX6_readWalker_20 : decode cX6_readWalker 20 = .ok (.ireturn, 1) := by decide +kernel
theorem dX6_readWalker_21 : decode cX6_readWalker 21 = .ok (.aload_n 0, 1) := by decide +kernel
theorem dX6_readWalker_22 : decode cX6_readWalker 22 = .ok (.getfield 15, 3) := by decide +kernel
theorem dX6_readWalker_25 : decode cX6_readWalker 25 = .ok (.invokevirtual 49, 3) := by decide +kernel
theorem dX6_readWalker_28 : decode cX6_readWalker 28 = .ok (.aload_n 0, 1) := by decide +kernel
theorem dX6_readWalker_29 : decode cX6_readWalker 29 = .ok (.aload_n 0, 1) := by decide +kernel
theorem dX6_readWalker_30 : decode cX6_readWalker 30 = .ok (.getfield 19, 3) := by decide +kernel
theorem dX6_readWalker_33 : decode cX6_readWalker 33 = .ok (.aload_n 0, 1) := by decide +kernel
theorem dX6_readWalker_34 : decode cX6_readWalker 34 = .ok (.getfield 15, 3) := by decide +kernel
theorem dX6_readWalker_37 : decode cX6_readWalker 37 = .ok (.getfield 75, 3) := by decide +kernel
theorem dX6_readWalker_40 : decode cX6_readWalker 40 = .ok (.invokevirtual 103, 3) := by decide +kernel
theorem dX6_readWalker_43 : decode cX6_readWalker 43 = .ok (.invokevirtual 90, 3) := by decide +kernel
theorem dX6_readWalker_46 : decode cX6_readWalker 46 = .ok (.ifCond .ne 5, 3) := by decide +kernel
theorem dX6_readWalker_49 : decode cX6_readWalker 49 = .ok (.iconst 0, 1) := by decide +kernel
theorem dX6_readWalker_50 : decode cX6_readWalker 50 = .ok (.ireturn, 1) := by decide +kernel
theorem dX6_readWalker_51 : decode cX6_readWalker 51 = .ok (.aload_n 0, 1) := by decide +kernel
theorem dX6_readWalker_52 : decode cX6_readWalker 52 = .ok (.getfield 15, 3) := by decide +kernel
theorem dX6_readWalker_55 : decode cX6_readWalker 55 = .ok (.getfield 75, 3) := by decide +kernel
theorem dX6_readWalker_58 : decode cX6_readWalker 58 = .ok (.istore_n 1, 1) := by decide +kernel
theorem dX6_readWalker_59 : decode cX6_readWalker 59 = .ok (.aload_n 0, 1) := by decide +kernel
theorem dX6_readWalker_60 : decode cX6_readWalker 60 = .ok (.getfield 15, 3) := by decide +kernel
theorem dX6_readWalker_63 : decode cX6_readWalker 63 = .ok (.invokevirtual 49, 3) := by decide +kernel
theorem dX6_readWalker_66 : decode cX6_readWalker 66 = .ok (.aload_n 0, 1) := by decide +kernel
theorem dX6_readWalker_67 : decode cX6_readWalker 67 = .ok (.iconst 0, 1) := by decide +kernel
theorem dX6_readWalker_68 : decode cX6_readWalker 68 = .ok (.aload_n 0, 1) := by decide +kernel
theorem dX6_readWalker_69 : decode cX6_readWalker 69 = .ok (.getfield 19, 3) := by decide +kernel
theorem dX6_readWalker_72 : decode cX6_readWalker 72 = .ok (.getfield 78, 3) := by decide +kernel
theorem dX6_readWalker_75 : decode cX6_readWalker 75 = .ok (.invokevirtual 71, 3) := by decide +kernel
theorem dX6_readWalker_78 : decode cX6_readWalker 78 = .ok (.ifCond .ne 5, 3) := by decide +kernel
theorem dX6_readWalker_81 : decode cX6_readWalker 81 = .ok (.iconst 0, 1) := by decide +kernel
theorem dX6_readWalker_82 : decode cX6_readWalker 82 = .ok (.ireturn, 1) := by decide +kernel
theorem dX6_readWalker_83 : decode cX6_readWalker 83 = .ok (.aload_n 0, 1) := by decide +kernel
theorem dX6_readWalker_84 : decode cX6_readWalker 84 = .ok (.getfield 15, 3) := by decide +kernel
theorem dX6_readWalker_87 : decode cX6_readWalker 87 = .ok (.getfield 75, 3) := by decide +kernel
theorem dX6_readWalker_90 : decode cX6_readWalker 90 = .ok (.istore_n 2, 1) := by decide +kernel
theorem dX6_readWalker_91 : decode cX6_readWalker 91 = .ok (.aload_n 0, 1) := by decide +kernel
theorem dX6_readWalker_92 : decode cX6_readWalker 92 = .ok (.getfield 15, 3) := by decide +kernel
theorem dX6_readWalker_95 : decode cX6_readWalker 95 = .ok (.invokevirtual 49, 3) := by decide +kernel
theorem dX6_readWalker_98 : decode cX6_readWalker 98 = .ok (.aload_n 0, 1) := by decide +kernel
theorem dX6_readWalker_99 : decode cX6_readWalker 99 = .ok (.iconst 0, 1) := by decide +kernel
theorem dX6_readWalker_100 : decode cX6_readWalker 100 = .ok (.iconst 1, 1) := by decide +kernel
theorem dX6_readWalker_101 : decode cX6_readWalker 101 = .ok (.invokevirtual 71, 3) := by decide +kernel
theorem dX6_readWalker_104 : decode cX6_readWalker 104 = .ok (.ifCond .ne 5, 3) := by decide +kernel
theorem dX6_readWalker_107 : decode cX6_readWalker 107 = .ok (.iconst 0, 1) := by decide +kernel
theorem dX6_readWalker_108 : decode cX6_readWalker 108 = .ok (.ireturn, 1) := by decide +kernel
theorem dX6_readWalker_109 : decode cX6_readWalker 109 = .ok (.aload_n 0, 1) := by decide +kernel
theorem dX6_readWalker_110 : decode cX6_readWalker 110 = .ok (.getfield 15, 3) := by decide +kernel
theorem dX6_readWalker_113 : decode cX6_readWalker 113 = .ok (.getfield 75, 3) := by decide +kernel
theorem dX6_readWalker_116 : decode cX6_readWalker 116 = .ok (.istore_n 3, 1) := by decide +kernel
theorem dX6_readWalker_117 : decode cX6_readWalker 117 = .ok (.aload_n 0, 1) := by decide +kernel
theorem dX6_readWalker_118 : decode cX6_readWalker 118 = .ok (.getfield 15, 3) := by decide +kernel
theorem dX6_readWalker_121 : decode cX6_readWalker 121 = .ok (.invokevirtual 49, 3) := by decide +kernel
theorem dX6_readWalker_124 : decode cX6_readWalker 124 = .ok (.aload_n 0, 1) := by decide +kernel
theorem dX6_readWalker_125 : decode cX6_readWalker 125 = .ok (.iconst 1, 1) := by decide +kernel
theorem dX6_readWalker_126 : decode cX6_readWalker 126 = .ok (.bipush 9, 2) := by decide +kernel
theorem dX6_readWalker_128 : decode cX6_readWalker 128 = .ok (.invokevirtual 71, 3) := by decide +kernel
theorem dX6_readWalker_131 : decode cX6_readWalker 131 = .ok (.ifCond .ne 5, 3) := by decide +kernel
theorem dX6_readWalker_134 : decode cX6_readWalker 134 = .ok (.iconst 0, 1) := by decide +kernel
theorem dX6_readWalker_135 : decode cX6_readWalker 135 = .ok (.ireturn, 1) := by decide +kernel
theorem dX6_readWalker_136 : decode cX6_readWalker 136 = .ok (.aload_n 0, 1) := by decide +kernel
theorem dX6_readWalker_137 : decode cX6_readWalker 137 = .ok (.getfield 15, 3) := by decide +kernel
theorem dX6_readWalker_140 : decode cX6_readWalker 140 = .ok (.getfield 75, 3) := by decide +kernel
theorem dX6_readWalker_143 : decode cX6_readWalker 143 = .ok (.istore 4, 2) := by decide +kernel
theorem dX6_readWalker_145 : decode cX6_readWalker 145 = .ok (.aload_n 0, 1) := by decide +kernel
theorem dX6_readWalker_146 : decode cX6_readWalker 146 = .ok (.getfield 15, 3) := by decide +kernel
theorem dX6_readWalker_149 : decode cX6_readWalker 149 = .ok (.invokevirtual 49, 3) := by decide +kernel
theorem dX6_readWalker_152 : decode cX6_readWalker 152 = .ok (.aload_n 0, 1) := by decide +kernel
theorem dX6_readWalker_153 : decode cX6_readWalker 153 = .ok (.iconst 0, 1) := by decide +kernel
theorem dX6_readWalker_154 : decode cX6_readWalker 154 = .ok (.bipush 99, 2) := by decide +kernel
theorem dX6_readWalker_156 : decode cX6_readWalker 156 = .ok (.invokevirtual 71, 3) := by decide +kernel
theorem dX6_readWalker_159 : decode cX6_readWalker 159 = .ok (.ifCond .ne 5, 3) := by decide +kernel
theorem dX6_readWalker_162 : decode cX6_readWalker 162 = .ok (.iconst 0, 1) := by decide +kernel
theorem dX6_readWalker_163 : decode cX6_readWalker 163 = .ok (.ireturn, 1) := by decide +kernel
theorem dX6_readWalker_164 : decode cX6_readWalker 164 = .ok (.aload_n 0, 1) := by decide +kernel
theorem dX6_readWalker_165 : decode cX6_readWalker 165 = .ok (.getfield 19, 3) := by decide +kernel
theorem dX6_readWalker_168 : decode cX6_readWalker 168 = .ok (.iload_n 1, 1) := by decide +kernel
theorem dX6_readWalker_169 : decode cX6_readWalker 169 = .ok (.iload_n 2, 1) := by decide +kernel
theorem dX6_readWalker_170 : decode cX6_readWalker 170 = .ok (.iload_n 3, 1) := by decide +kernel
theorem dX6_readWalker_171 : decode cX6_readWalker 171 = .ok (.iload 4, 2) := by decide +kernel
theorem dX6_readWalker_173 : decode cX6_readWalker 173 = .ok (.aload_n 0, 1) := by decide +kernel
theorem dX6_readWalker_174 : decode cX6_readWalker 174 = .ok (.getfield 15, 3) := by decide +kernel
theorem dX6_readWalker_177 : decode cX6_readWalker 177 = .ok (.getfield 75, 3) := by decide +kernel
theorem dX6_readWalker_180 : decode cX6_readWalker 180 = .ok (.invokevirtual 106, 3) := by decide +kernel
theorem dX6_readWalker_183 : decode cX6_readWalker 183 = .ok (.aload_n 0, 1) := by decide +kernel
theorem dX6_readWalker_184 : decode cX6_readWalker 184 = .ok (.getfield 15, 3) := by decide +kernel
theorem dX6_readWalker_187 : decode cX6_readWalker 187 = .ok (.invokevirtual 49, 3) := by decide +kernel
theorem dX6_readWalker_190 : decode cX6_readWalker 190 = .ok (.iconst 1, 1) := by decide +kernel
theorem dX6_readWalker_191 : decode cX6_readWalker 191 = .ok (.ireturn, 1) := by decide +kernel
theorem hd_X6_readWalker : yX6_readWalker.cls = xCn 6 ∧ yX6_readWalker.cls ≠ "java/lang/invoke/MethodHandle" ∧ yX6_readWalker.cls ≠ "java/lang/invoke/VarHandle" ∧ (parseMethodDescriptor yX6_readWalker.desc).map (fun d => d.parameters.length) = some 0 := by decide +kernel
def f_X6_readWalker (sh : List xSh) (q0 : Nat) (d : xD) : Option (Int32 × xD) :=
  (xgR 6 sh d q0 2).bind fun v1 => (xgI 3 sh d v1 9).bind fun v2 => if v2 < (6 : Int32) then ((xgR 6 sh d q0 0).bind fun v3 => (xon 7 sh v3 (f_X7_next sh v3 d)).bind fun d4 => (xgR 6 sh d4 q0 2).bind fun v5 => (xgR 6 sh d4 q0 0).bind fun v6 => (xgI 7 sh d4 v6 2).bind fun v7 => (xon 3 sh v5 (f_X3_walkerNamed sh v5 v7 d4)).bind fun z8 => (xon 6 sh q0 (f_X6_isNewName sh q0 z8.1 z8.2)).bind fun z9 => if z9.1 = 0 then (some ((0 : Int32), z9.2)) else ((xgR 6 sh z9.2 q0 0).bind fun v10 => (xgI 7 sh z9.2 v10 2).bind fun v11 => (xgR 6 sh z9.2 q0 0).bind fun v12 => (xon 7 sh v12 (f_X7_next sh v12 z9.2)).bind fun d13 => (xgR 6 sh d13 q0 2).bind fun v14 => (xgI 3 sh d13 v14 0).bind fun v15 => (xon 6 sh q0 (f_X6_isNumber sh q0 (0 : Int32) v15 d13)).bind fun z16 => if z16.1 = 0 then (some ((0 : Int32), z16.2)) else ((xgR 6 sh z16.2 q0 0).bind fun v17 => (xgI 7 sh z16.2 v17 2).bind fun v18 => (xgR 6 sh z16.2 q0 0).bind fun v19 => (xon 7 sh v19 (f_X7_next sh v19 z16.2)).bind fun d20 => (xon 6 sh q0 (f_X6_isNumber sh q0 (0 : Int32) (1 : Int32) d20)).bind fun z21 => if z21.1 = 0 then (some ((0 : Int32), z21.2)) else ((xgR 6 sh z21.2 q0 0).bind fun v22 => (xgI 7 sh z21.2 v22 2).bind fun v23 => (xgR 6 sh z21.2 q0 0).bind fun v24 => (xon 7 sh v24 (f_X7_next sh v24 z21.2)).bind fun d25 => (xon 6 sh q0 (f_X6_isNumber sh q0 (1 : Int32) (9 : Int32) d25)).bind fun z26 => if z26.1 = 0 then (some ((0 : Int32), z26.2)) else ((xgR 6 sh z26.2 q0 0).bind fun v27 => (xgI 7 sh z26.2 v27 2).bind fun v28 => (xgR 6 sh z26.2 q0 0).bind fun v29 => (xon 7 sh v29 (f_X7_next sh v29 z26.2)).bind fun d30 => (xon 6 sh q0 (f_X6_isNumber sh q0 (0 : Int32) (99 : Int32) d30)).bind fun z31 => if z31.1 = 0 then (some ((0 : Int32), z31.2)) else ((xgR 6 sh z31.2 q0 2).bind fun v32 => (xgR 6 sh z31.2 q0 0).bind fun v33 => (xgI 7 sh z31.2 v33 2).bind fun v34 => (xon 3 sh v32 (f_X3_addWalker sh v32 v11 v18 v23 v28 v34 z31.2)).bind fun d35 => (xgR 6 sh d35 q0 0).bind fun v36 => (xon 7 sh v36 (f_X7_next sh v36 d35)).bind fun d37 => some ((1 : Int32), d37))))))) else ((xgR 6 sh d q0 0).bind fun v38 => (xon 7 sh v38 (f_X7_refuse sh v38 (2 : Int32) d)).bind fun z39 => (xz z39.1).bind fun v40 => some (v40, z39.2))
set_option maxHeartbeats 4000000 in
set_option maxRecDepth 100000 in
theorem mt_X6_readWalker (l : Launch) (D : va_G) (cid : FieldType → ClassId) (b : Nat) (ex : Bool) (sa sv B0 : Nat) (sh : List xSh) (q0 : Nat) (d : xD) (r : Int32) (dz : xD) (hf : f_X6_readWalker sh q0 d = some (r, dz)) : xMet l yX6_readWalker cX6_readWalker 5 (some .boolean) 3 0 0 D cid b ex sa sv B0 [.ref (b + q0)] sh d (some (.int r)) sh dz := by
  refine xMet.of (by decide) (Nat.le_of_ble_eq_true rfl) ?_
  intro p e s m below meth c ls A S hr hin G hl
  have hl : lv_has ls 5 [(0, .ref (b + q0))] := hl
  generalize ([.ref (b + q0)] : List Value).toArray = av at S ⊢
  have hx := S.1
  have hb := S.2.1
  have hml := S.2.2.1
  have hown := S.2.2.2.1
  have hts := S.2.2.2.2.1
  unfold f_X6_readWalker at hf
  refine lv_aload_n hx hb dX6_readWalker_0 rfl (lv_at hl 0 rfl) ?_
  obtain ⟨v1, hv1, hf⟩ := x_ob hf
  refine xr_getR (ci := 6) (k := 2) S G hv1 rfl kw_296 dX6_readWalker_1 ?_
  obtain ⟨v2, hv2, hf⟩ := x_ob hf
  refine xr_getI (ci := 3) (k := 9) S G hv2 rfl kw_105 dX6_readWalker_4 ?_
  refine lv_bipush (v := (6 : Int32)) hx hb dX6_readWalker_7 (by decide) ?_
  refine lv_icmp_lt (tgt := 21) hx hb dX6_readWalker_9 (by decide) (fun c => ?_) (fun c => ?_)
  · have hf := x_pos c hf
    refine lv_aload_n hx hb dX6_readWalker_21 rfl (lv_at hl 0 rfl) ?_
    obtain ⟨v3, hv3, hf⟩ := x_ob hf
    refine xr_getR (ci := 6) (k := 0) S G hv3 rfl kw_294 dX6_readWalker_22 ?_
    obtain ⟨d4, hd4, hf⟩ := x_ob hf
    obtain ⟨hqd4, hd4⟩ := xon_of hd4
    refine xr_callV (ci := 7) (As := []) (rest := []) (st1 := []) S G hl.1 (fun _ => rfl) (mt_X7_next l D cid b ex sa sv B0 sh v3 d _ hd4) hqd4 (by decide) kw_600 kw_559 kw_560 kw_5 kw_561 hd_X7_next ⟨Nat.le_of_ble_eq_true rfl, Nat.le_of_ble_eq_true rfl⟩ rfl rfl rfl (Nat.le_of_ble_eq_true rfl) ⟨Nat.le_of_ble_eq_true rfl, Nat.le_of_ble_eq_true rfl⟩ dX6_readWalker_25 (fun H locs G => ?_)
    refine lv_aload_n hx hb dX6_readWalker_28 rfl (lv_at hl 0 rfl) ?_
    refine lv_aload_n hx hb dX6_readWalker_29 rfl (lv_at hl 0 rfl) ?_
    obtain ⟨v5, hv5, hf⟩ := x_ob hf
    refine xr_getR (ci := 6) (k := 2) S G hv5 rfl kw_296 dX6_readWalker_30 ?_
    refine lv_aload_n hx hb dX6_readWalker_33 rfl (lv_at hl 0 rfl) ?_
    obtain ⟨v6, hv6, hf⟩ := x_ob hf
    refine xr_getR (ci := 6) (k := 0) S G hv6 rfl kw_294 dX6_readWalker_34 ?_
    obtain ⟨v7, hv7, hf⟩ := x_ob hf
    refine xr_getI (ci := 7) (k := 2) S G hv7 rfl kw_235 dX6_readWalker_37 ?_
    obtain ⟨z8, hz8, hf⟩ := x_ob hf
    obtain ⟨hqz8, hz8⟩ := xon_of hz8
    refine xr_callV (ci := 3) (As := [.int v7]) (rest := [.ref (b + q0)]) (st1 := [.int z8.1, .ref (b + q0)]) S G hl.1 (fun _ => rfl) (mt_X3_walkerNamed l D cid b ex sa sv B0 sh v5 v7 d4 _ _ hz8) hqz8 (by decide) kw_636 kw_637 kw_638 kw_2 kw_639 hd_X3_walkerNamed ⟨Nat.le_of_ble_eq_true rfl, Nat.le_of_ble_eq_true rfl⟩ rfl rfl rfl (Nat.le_of_ble_eq_true rfl) ⟨Nat.le_of_ble_eq_true rfl, Nat.le_of_ble_eq_true rfl⟩ dX6_readWalker_40 (fun H locs G => ?_)
    obtain ⟨z9, hz9, hf⟩ := x_ob hf
    obtain ⟨hqz9, hz9⟩ := xon_of hz9
    refine xr_callV (ci := 6) (As := [.int z8.1]) (rest := []) (st1 := [.int z9.1]) S G hl.1 (fun _ => rfl) (mt_X6_isNewName l D cid b ex sa sv B0 sh q0 z8.1 z8.2 _ _ hz9) hqz9 (by decide) kw_620 kw_622 ks_10 kw_10 kw_623 hd_X6_isNewName ⟨Nat.le_of_ble_eq_true rfl, Nat.le_of_ble_eq_true rfl⟩ rfl rfl rfl (Nat.le_of_ble_eq_true rfl) ⟨Nat.le_of_ble_eq_true rfl, Nat.le_of_ble_eq_true rfl⟩ dX6_readWalker_43 (fun H locs G => ?_)
    refine lv_if_ne (tgt := 51) hx hb dX6_readWalker_46 (by decide) (fun c => ?_) (fun c => ?_)
    · have hf := x_neg c hf
      refine lv_aload_n hx hb dX6_readWalker_51 rfl (lv_at hl 0 rfl) ?_
      obtain ⟨v10, hv10, hf⟩ := x_ob hf
      refine xr_getR (ci := 6) (k := 0) S G hv10 rfl kw_294 dX6_readWalker_52 ?_
      obtain ⟨v11, hv11, hf⟩ := x_ob hf
      refine xr_getI (ci := 7) (k := 2) S G hv11 rfl kw_235 dX6_readWalker_55 ?_
      refine lv_istore_n (lv' := [(1, .int v11), (0, .ref (b + q0))]) hx hb dX6_readWalker_58 rfl hl (by decide) rfl (fun ls hl => ?_)
      refine lv_aload_n hx hb dX6_readWalker_59 rfl (lv_at hl 1 rfl) ?_
      obtain ⟨v12, hv12, hf⟩ := x_ob hf
      refine xr_getR (ci := 6) (k := 0) S G hv12 rfl kw_294 dX6_readWalker_60 ?_
      obtain ⟨d13, hd13, hf⟩ := x_ob hf
      obtain ⟨hqd13, hd13⟩ := xon_of hd13
      refine xr_callV (ci := 7) (As := []) (rest := []) (st1 := []) S G hl.1 (fun _ => rfl) (mt_X7_next l D cid b ex sa sv B0 sh v12 z9.2 _ hd13) hqd13 (by decide) kw_600 kw_559 kw_560 kw_5 kw_561 hd_X7_next ⟨Nat.le_of_ble_eq_true rfl, Nat.le_of_ble_eq_true rfl⟩ rfl rfl rfl (Nat.le_of_ble_eq_true rfl) ⟨Nat.le_of_ble_eq_true rfl, Nat.le_of_ble_eq_true rfl⟩ dX6_readWalker_63 (fun H locs G => ?_)
      refine lv_aload_n hx hb dX6_readWalker_66 rfl (lv_at hl 1 rfl) ?_
      refine lv_iconst (v := (0 : Int32)) hx hb dX6_readWalker_67 (by decide) ?_
      refine lv_aload_n hx hb dX6_readWalker_68 rfl (lv_at hl 1 rfl) ?_
      obtain ⟨v14, hv14, hf⟩ := x_ob hf
      refine xr_getR (ci := 6) (k := 2) S G hv14 rfl kw_296 dX6_readWalker_69 ?_
      obtain ⟨v15, hv15, hf⟩ := x_ob hf
      refine xr_getI (ci := 3) (k := 0) S G hv15 rfl kw_79 dX6_readWalker_72 ?_
      obtain ⟨z16, hz16, hf⟩ := x_ob hf
      obtain ⟨hqz16, hz16⟩ := xon_of hz16
      refine xr_callV (ci := 6) (As := [.int (0 : Int32), .int v15]) (rest := []) (st1 := [.int z16.1]) S G hl.1 (fun _ => rfl) (mt_X6_isNumber l D cid b ex sa sv B0 sh q0 (0 : Int32) v15 d13 _ _ hz16) hqz16 (by decide) kw_601 kw_603 ks_8 kw_10 kw_604 hd_X6_isNumber ⟨Nat.le_of_ble_eq_true rfl, Nat.le_of_ble_eq_true rfl⟩ rfl rfl rfl (Nat.le_of_ble_eq_true rfl) ⟨Nat.le_of_ble_eq_true rfl, Nat.le_of_ble_eq_true rfl⟩ dX6_readWalker_75 (fun H locs G => ?_)
      refine lv_if_ne (tgt := 83) hx hb dX6_readWalker_78 (by decide) (fun c => ?_) (fun c => ?_)
      · have hf := x_neg c hf
        refine lv_aload_n hx hb dX6_readWalker_83 rfl (lv_at hl 1 rfl) ?_
        obtain ⟨v17, hv17, hf⟩ := x_ob hf
        refine xr_getR (ci := 6) (k := 0) S G hv17 rfl kw_294 dX6_readWalker_84 ?_
        obtain ⟨v18, hv18, hf⟩ := x_ob hf
        refine xr_getI (ci := 7) (k := 2) S G hv18 rfl kw_235 dX6_readWalker_87 ?_
        refine lv_istore_n (lv' := [(2, .int v18), (1, .int v11), (0, .ref (b + q0))]) hx hb dX6_readWalker_90 rfl hl (by decide) rfl (fun ls hl => ?_)
        refine lv_aload_n hx hb dX6_readWalker_91 rfl (lv_at hl 2 rfl) ?_
        obtain ⟨v19, hv19, hf⟩ := x_ob hf
        refine xr_getR (ci := 6) (k := 0) S G hv19 rfl kw_294 dX6_readWalker_92 ?_
        obtain ⟨d20, hd20, hf⟩ := x_ob hf
        obtain ⟨hqd20, hd20⟩ := xon_of hd20
        refine xr_callV (ci := 7) (As := []) (rest := []) (st1 := []) S G hl.1 (fun _ => rfl) (mt_X7_next l D cid b ex sa sv B0 sh v19 z16.2 _ hd20) hqd20 (by decide) kw_600 kw_559 kw_560 kw_5 kw_561 hd_X7_next ⟨Nat.le_of_ble_eq_true rfl, Nat.le_of_ble_eq_true rfl⟩ rfl rfl rfl (Nat.le_of_ble_eq_true rfl) ⟨Nat.le_of_ble_eq_true rfl, Nat.le_of_ble_eq_true rfl⟩ dX6_readWalker_95 (fun H locs G => ?_)
        refine lv_aload_n hx hb dX6_readWalker_98 rfl (lv_at hl 2 rfl) ?_
        refine lv_iconst (v := (0 : Int32)) hx hb dX6_readWalker_99 (by decide) ?_
        refine lv_iconst (v := (1 : Int32)) hx hb dX6_readWalker_100 (by decide) ?_
        obtain ⟨z21, hz21, hf⟩ := x_ob hf
        obtain ⟨hqz21, hz21⟩ := xon_of hz21
        refine xr_callV (ci := 6) (As := [.int (0 : Int32), .int (1 : Int32)]) (rest := []) (st1 := [.int z21.1]) S G hl.1 (fun _ => rfl) (mt_X6_isNumber l D cid b ex sa sv B0 sh q0 (0 : Int32) (1 : Int32) d20 _ _ hz21) hqz21 (by decide) kw_601 kw_603 ks_8 kw_10 kw_604 hd_X6_isNumber ⟨Nat.le_of_ble_eq_true rfl, Nat.le_of_ble_eq_true rfl⟩ rfl rfl rfl (Nat.le_of_ble_eq_true rfl) ⟨Nat.le_of_ble_eq_true rfl, Nat.le_of_ble_eq_true rfl⟩ dX6_readWalker_101 (fun H locs G => ?_)
        refine lv_if_ne (tgt := 109) hx hb dX6_readWalker_104 (by decide) (fun c => ?_) (fun c => ?_)
        · have hf := x_neg c hf
          refine lv_aload_n hx hb dX6_readWalker_109 rfl (lv_at hl 2 rfl) ?_
          obtain ⟨v22, hv22, hf⟩ := x_ob hf
          refine xr_getR (ci := 6) (k := 0) S G hv22 rfl kw_294 dX6_readWalker_110 ?_
          obtain ⟨v23, hv23, hf⟩ := x_ob hf
          refine xr_getI (ci := 7) (k := 2) S G hv23 rfl kw_235 dX6_readWalker_113 ?_
          refine lv_istore_n (lv' := [(3, .int v23), (2, .int v18), (1, .int v11), (0, .ref (b + q0))]) hx hb dX6_readWalker_116 rfl hl (by decide) rfl (fun ls hl => ?_)
          refine lv_aload_n hx hb dX6_readWalker_117 rfl (lv_at hl 3 rfl) ?_
          obtain ⟨v24, hv24, hf⟩ := x_ob hf
          refine xr_getR (ci := 6) (k := 0) S G hv24 rfl kw_294 dX6_readWalker_118 ?_
          obtain ⟨d25, hd25, hf⟩ := x_ob hf
          obtain ⟨hqd25, hd25⟩ := xon_of hd25
          refine xr_callV (ci := 7) (As := []) (rest := []) (st1 := []) S G hl.1 (fun _ => rfl) (mt_X7_next l D cid b ex sa sv B0 sh v24 z21.2 _ hd25) hqd25 (by decide) kw_600 kw_559 kw_560 kw_5 kw_561 hd_X7_next ⟨Nat.le_of_ble_eq_true rfl, Nat.le_of_ble_eq_true rfl⟩ rfl rfl rfl (Nat.le_of_ble_eq_true rfl) ⟨Nat.le_of_ble_eq_true rfl, Nat.le_of_ble_eq_true rfl⟩ dX6_readWalker_121 (fun H locs G => ?_)
          refine lv_aload_n hx hb dX6_readWalker_124 rfl (lv_at hl 3 rfl) ?_
          refine lv_iconst (v := (1 : Int32)) hx hb dX6_readWalker_125 (by decide) ?_
          refine lv_bipush (v := (9 : Int32)) hx hb dX6_readWalker_126 (by decide) ?_
          obtain ⟨z26, hz26, hf⟩ := x_ob hf
          obtain ⟨hqz26, hz26⟩ := xon_of hz26
          refine xr_callV (ci := 6) (As := [.int (1 : Int32), .int (9 : Int32)]) (rest := []) (st1 := [.int z26.1]) S G hl.1 (fun _ => rfl) (mt_X6_isNumber l D cid b ex sa sv B0 sh q0 (1 : Int32) (9 : Int32) d25 _ _ hz26) hqz26 (by decide) kw_601 kw_603 ks_8 kw_10 kw_604 hd_X6_isNumber ⟨Nat.le_of_ble_eq_true rfl, Nat.le_of_ble_eq_true rfl⟩ rfl rfl rfl (Nat.le_of_ble_eq_true rfl) ⟨Nat.le_of_ble_eq_true rfl, Nat.le_of_ble_eq_true rfl⟩ dX6_readWalker_128 (fun H locs G => ?_)
          refine lv_if_ne (tgt := 136) hx hb dX6_readWalker_131 (by decide) (fun c => ?_) (fun c => ?_)
          · have hf := x_neg c hf
            refine lv_aload_n hx hb dX6_readWalker_136 rfl (lv_at hl 3 rfl) ?_
            obtain ⟨v27, hv27, hf⟩ := x_ob hf
            refine xr_getR (ci := 6) (k := 0) S G hv27 rfl kw_294 dX6_readWalker_137 ?_
            obtain ⟨v28, hv28, hf⟩ := x_ob hf
            refine xr_getI (ci := 7) (k := 2) S G hv28 rfl kw_235 dX6_readWalker_140 ?_
            refine lv_istore (lv' := [(4, .int v28), (3, .int v23), (2, .int v18), (1, .int v11), (0, .ref (b + q0))]) hx hb dX6_readWalker_143 hl (by decide) rfl (fun ls hl => ?_)
            refine lv_aload_n hx hb dX6_readWalker_145 rfl (lv_at hl 4 rfl) ?_
            obtain ⟨v29, hv29, hf⟩ := x_ob hf
            refine xr_getR (ci := 6) (k := 0) S G hv29 rfl kw_294 dX6_readWalker_146 ?_
            obtain ⟨d30, hd30, hf⟩ := x_ob hf
            obtain ⟨hqd30, hd30⟩ := xon_of hd30
            refine xr_callV (ci := 7) (As := []) (rest := []) (st1 := []) S G hl.1 (fun _ => rfl) (mt_X7_next l D cid b ex sa sv B0 sh v29 z26.2 _ hd30) hqd30 (by decide) kw_600 kw_559 kw_560 kw_5 kw_561 hd_X7_next ⟨Nat.le_of_ble_eq_true rfl, Nat.le_of_ble_eq_true rfl⟩ rfl rfl rfl (Nat.le_of_ble_eq_true rfl) ⟨Nat.le_of_ble_eq_true rfl, Nat.le_of_ble_eq_true rfl⟩ dX6_readWalker_149 (fun H locs G => ?_)
            refine lv_aload_n hx hb dX6_readWalker_152 rfl (lv_at hl 4 rfl) ?_
            refine lv_iconst (v := (0 : Int32)) hx hb dX6_readWalker_153 (by decide) ?_
            refine lv_bipush (v := (99 : Int32)) hx hb dX6_readWalker_154 (by decide) ?_
            obtain ⟨z31, hz31, hf⟩ := x_ob hf
            obtain ⟨hqz31, hz31⟩ := xon_of hz31
            refine xr_callV (ci := 6) (As := [.int (0 : Int32), .int (99 : Int32)]) (rest := []) (st1 := [.int z31.1]) S G hl.1 (fun _ => rfl) (mt_X6_isNumber l D cid b ex sa sv B0 sh q0 (0 : Int32) (99 : Int32) d30 _ _ hz31) hqz31 (by decide) kw_601 kw_603 ks_8 kw_10 kw_604 hd_X6_isNumber ⟨Nat.le_of_ble_eq_true rfl, Nat.le_of_ble_eq_true rfl⟩ rfl rfl rfl (Nat.le_of_ble_eq_true rfl) ⟨Nat.le_of_ble_eq_true rfl, Nat.le_of_ble_eq_true rfl⟩ dX6_readWalker_156 (fun H locs G => ?_)
            refine lv_if_ne (tgt := 164) hx hb dX6_readWalker_159 (by decide) (fun c => ?_) (fun c => ?_)
            · have hf := x_neg c hf
              refine lv_aload_n hx hb dX6_readWalker_164 rfl (lv_at hl 4 rfl) ?_
              obtain ⟨v32, hv32, hf⟩ := x_ob hf
              refine xr_getR (ci := 6) (k := 2) S G hv32 rfl kw_296 dX6_readWalker_165 ?_
              refine lv_iload_n hx hb dX6_readWalker_168 rfl (lv_at hl 3 rfl) ?_
              refine lv_iload_n hx hb dX6_readWalker_169 rfl (lv_at hl 2 rfl) ?_
              refine lv_iload_n hx hb dX6_readWalker_170 rfl (lv_at hl 1 rfl) ?_
              refine lv_iload hx hb dX6_readWalker_171 (lv_at hl 0 rfl) ?_
              refine lv_aload_n hx hb dX6_readWalker_173 rfl (lv_at hl 4 rfl) ?_
              obtain ⟨v33, hv33, hf⟩ := x_ob hf
              refine xr_getR (ci := 6) (k := 0) S G hv33 rfl kw_294 dX6_readWalker_174 ?_
              obtain ⟨v34, hv34, hf⟩ := x_ob hf
              refine xr_getI (ci := 7) (k := 2) S G hv34 rfl kw_235 dX6_readWalker_177 ?_
              obtain ⟨d35, hd35, hf⟩ := x_ob hf
              obtain ⟨hqd35, hd35⟩ := xon_of hd35
              refine xr_callV (ci := 3) (As := [.int v11, .int v18, .int v23, .int v28, .int v34]) (rest := []) (st1 := []) S G hl.1 (fun _ => rfl) (mt_X3_addWalker l D cid b ex sa sv B0 sh v32 v11 v18 v23 v28 v34 z31.2 _ hd35) hqd35 (by decide) kw_640 kw_641 kw_642 kw_2 kw_643 hd_X3_addWalker ⟨Nat.le_of_ble_eq_true rfl, Nat.le_of_ble_eq_true rfl⟩ rfl rfl rfl (Nat.le_of_ble_eq_true rfl) ⟨Nat.le_of_ble_eq_true rfl, Nat.le_of_ble_eq_true rfl⟩ dX6_readWalker_180 (fun H locs G => ?_)
              refine lv_aload_n hx hb dX6_readWalker_183 rfl (lv_at hl 4 rfl) ?_
              obtain ⟨v36, hv36, hf⟩ := x_ob hf
              refine xr_getR (ci := 6) (k := 0) S G hv36 rfl kw_294 dX6_readWalker_184 ?_
              obtain ⟨d37, hd37, hf⟩ := x_ob hf
              obtain ⟨hqd37, hd37⟩ := xon_of hd37
              refine xr_callV (ci := 7) (As := []) (rest := []) (st1 := []) S G hl.1 (fun _ => rfl) (mt_X7_next l D cid b ex sa sv B0 sh v36 d35 _ hd37) hqd37 (by decide) kw_600 kw_559 kw_560 kw_5 kw_561 hd_X7_next ⟨Nat.le_of_ble_eq_true rfl, Nat.le_of_ble_eq_true rfl⟩ rfl rfl rfl (Nat.le_of_ble_eq_true rfl) ⟨Nat.le_of_ble_eq_true rfl, Nat.le_of_ble_eq_true rfl⟩ dX6_readWalker_187 (fun H locs G => ?_)
              refine lv_iconst (v := (1 : Int32)) hx hb dX6_readWalker_190 (by decide) ?_
              cases hf
              exact xr_zret S G (fun _ => rfl) hr (by decide) dX6_readWalker_191
            · have hf := x_pos c hf
              refine lv_iconst (v := (0 : Int32)) hx hb dX6_readWalker_162 (by decide) ?_
              cases hf
              exact xr_zret S G (fun _ => rfl) hr (by decide) dX6_readWalker_163
          · have hf := x_pos c hf
            refine lv_iconst (v := (0 : Int32)) hx hb dX6_readWalker_134 (by decide) ?_
            cases hf
            exact xr_zret S G (fun _ => rfl) hr (by decide) dX6_readWalker_135
        · have hf := x_pos c hf
          refine lv_iconst (v := (0 : Int32)) hx hb dX6_readWalker_107 (by decide) ?_
          cases hf
          exact xr_zret S G (fun _ => rfl) hr (by decide) dX6_readWalker_108
      · have hf := x_pos c hf
        refine lv_iconst (v := (0 : Int32)) hx hb dX6_readWalker_81 (by decide) ?_
        cases hf
        exact xr_zret S G (fun _ => rfl) hr (by decide) dX6_readWalker_82
    · have hf := x_pos c hf
      refine lv_iconst (v := (0 : Int32)) hx hb dX6_readWalker_49 (by decide) ?_
      cases hf
      exact xr_zret S G (fun _ => rfl) hr (by decide) dX6_readWalker_50
  · have hf := x_neg c hf
    refine lv_aload_n hx hb dX6_readWalker_12 rfl (lv_at hl 0 rfl) ?_
    obtain ⟨v38, hv38, hf⟩ := x_ob hf
    refine xr_getR (ci := 6) (k := 0) S G hv38 rfl kw_294 dX6_readWalker_13 ?_
    refine lv_iconst (v := (2 : Int32)) hx hb dX6_readWalker_16 (by decide) ?_
    obtain ⟨z39, hz39, hf⟩ := x_ob hf
    obtain ⟨hqz39, hz39⟩ := xon_of hz39
    refine xr_callV (ci := 7) (As := [.int (2 : Int32)]) (rest := []) (st1 := [.int z39.1]) S G hl.1 (fun _ => rfl) (mt_X7_refuse l D cid b ex sa sv B0 sh v38 (2 : Int32) d _ _ hz39) hqz39 (by decide) kw_605 kw_606 kw_607 kw_5 kw_608 hd_X7_refuse ⟨Nat.le_of_ble_eq_true rfl, Nat.le_of_ble_eq_true rfl⟩ rfl rfl rfl (Nat.le_of_ble_eq_true rfl) ⟨Nat.le_of_ble_eq_true rfl, Nat.le_of_ble_eq_true rfl⟩ dX6_readWalker_17 (fun H locs G => ?_)
    obtain ⟨v40, hv40, hf⟩ := x_ob hf
    cases hf
    exact xr_zret S G (fun _ => rfl) hr hv40 dX6_readWalker_20
-- HalfLandings$TextReader.isToldName(I)Z
theorem dX6_isToldName_0 : decode cX6_isToldName 0 = .ok (.aload_n 0, 1) := by decide +kernel
theorem dX6_isToldName_1 : decode cX6_isToldName 1 = .ok (.getfield 15, 3) := by decide +kernel
theorem dX6_isToldName_4 : decode cX6_isToldName 4 = .ok (.getfield 38, 3) := by decide +kernel
theorem dX6_isToldName_7 : decode cX6_isToldName 7 = .ok (.bipush 21, 2) := by decide +kernel
theorem dX6_isToldName_9 : decode cX6_isToldName 9 = .ok (.if_icmp .eq 12, 3) := by decide +kernel
theorem dX6_isToldName_12 : decode cX6_isToldName 12 = .ok (.aload_n 0, 1) := by decide +kernel
theorem dX6_isToldName_13 : decode cX6_isToldName 13 = .ok (.getfield 15, 3) := by decide +kernel
theorem dX6_isToldName_16 : decode cX6_isToldName 16 = .ok (.iconst 1, 1) := by decide +kernel
theorem dX6_isToldName_17 : decode cX6_isToldName 17 = .ok (.invokevirtual 45, 3) := by decide +kernel
theorem dX6_isToldName_20 : decode cX6_isToldName 20 = .ok (.ireturn, 1) := by decide +kernel
theorem dX6_isToldName_21 : decode cX6_isToldName 21 = .ok (.iload_n 1, 1) := by decide +kernel
theorem dX6_isToldName_22 : decode cX6_isToldName 22 = .ok (.iconst (-1), 1) := by decide +kernel
theorem dX6_isToldName_23 : decode cX6_isToldName 23 = .ok (.if_icmp .ne 14, 3) := by decide +kernel
theorem dX6_isToldName_26 : decode cX6_isToldName 26 = .ok (.aload_n 0, 1) := by decide +kernel
theorem dX6_isToldName_27 : decode cX6_isToldName 27 = .ok (.getfield 15, 3) := by decide +kernel
theorem dX6_isToldName_30 : decode cX6_isToldName 30 = .ok (.iconst 4, 1) := by decide +kernel
theorem dX6_isToldName_31 : decode cX6_isToldName 31 = .ok (.invokevirtual 45, 3) := by decide +kernel
theorem dX6_isToldName_34 : decode cX6_isToldName 34 = .ok (.ifCond .eq 7, 3) := by decide +kernel
theorem dX6_isToldName_37 : decode cX6_isToldName 37 = .ok (.iconst 1, 1) := by decide +kernel
theorem dX6_isToldName_38 : decode cX6_isToldName 38 = .ok (.goto 4, 3) := by decide +kernel
theorem dX6_isToldName_41 : decode cX6_isToldName 41 = .ok (.iconst 0, 1) := by decide +kernel
theorem dX6_isToldName_42 : decode cX6_isToldName 42 = .ok (.ireturn, 1) := by decide +kernel
theorem hd_X6_isToldName : yX6_isToldName.cls = xCn 6 ∧ yX6_isToldName.cls ≠ "java/lang/invoke/MethodHandle" ∧ yX6_isToldName.cls ≠ "java/lang/invoke/VarHandle" ∧ (parseMethodDescriptor yX6_isToldName.desc).map (fun d => d.parameters.length) = some 1 := by decide +kernel
def k_X6_isToldName_42 (sh : List xSh) (y0 : Int32) (d : xD) : Option (Int32 × xD) :=
  (xz y0).bind fun v1 => some (v1, d)
def k_X6_isToldName_37 (sh : List xSh) (d : xD) : Option (Int32 × xD) :=
  k_X6_isToldName_42 sh (1 : Int32) d
def f_X6_isToldName (sh : List xSh) (q0 : Nat) (x1 : Int32) (d : xD) : Option (Int32 × xD) :=
  (xgR 6 sh d q0 0).bind fun v2 => (xgI 7 sh d v2 0).bind fun v3 => if v3 = (21 : Int32) then (if x1 = (-1 : Int32) then ((xgR 6 sh d q0 0).bind fun v4 => (xon 7 sh v4 (f_X7_refuse sh v4 (4 : Int32) d)).bind fun z5 => if z5.1 = 0 then (k_X6_isToldName_42 sh (0 : Int32) z5.2) else (k_X6_isToldName_37 sh z5.2)) else (k_X6_isToldName_37 sh d)) else ((xgR 6 sh d q0 0).bind fun v6 => (xon 7 sh v6 (f_X7_refuse sh v6 (1 : Int32) d)).bind fun z7 => (xz z7.1).bind fun v8 => some (v8, z7.2))
set_option maxHeartbeats 4000000 in
set_option maxRecDepth 100000 in
theorem mt_X6_isToldName (l : Launch) (D : va_G) (cid : FieldType → ClassId) (b : Nat) (ex : Bool) (sa sv B0 : Nat) (sh : List xSh) (q0 : Nat) (x1 : Int32) (d : xD) (r : Int32) (dz : xD) (hf : f_X6_isToldName sh q0 x1 d = some (r, dz)) : xMet l yX6_isToldName cX6_isToldName 2 (some .boolean) 1 0 0 D cid b ex sa sv B0 [.ref (b + q0), .int x1] sh d (some (.int r)) sh dz := by
  refine xMet.of (by decide) (Nat.le_of_ble_eq_true rfl) ?_
  intro p e s m below meth c ls A S hr hin G hl
  have hl : lv_has ls 2 [(0, .ref (b + q0)), (1, .int x1)] := hl
  generalize ([.ref (b + q0), .int x1] : List Value).toArray = av at S ⊢
  have hx := S.1
  have hb := S.2.1
  have hml := S.2.2.1
  have hown := S.2.2.2.1
  have hts := S.2.2.2.2.1
  have K42 : ∀ (y0 : Int32) (d : xD), k_X6_isToldName_42 sh y0 d = some (r, dz) → ∀ (H : Heap) (locs : List Loc) (ls : Array Slot), lv_has ls 2 [] → xG D cid b A sh d s H locs → W p l e (xRm 1 0 0) s m av below meth c H locs 0 0 (MQ below (xQ D cid b ex A (some (.int r)) sh dz) av s 0 0 A) (F0 m 42 ls [.int y0]) := by
    intro y0 d hf H locs ls hl G
    unfold k_X6_isToldName_42 at hf
    obtain ⟨v1, hv1, hf⟩ := x_ob hf
    cases hf
    exact xr_zret S G (fun _ => rfl) hr hv1 dX6_isToldName_42
  have K37 : ∀ (d : xD), k_X6_isToldName_37 sh d = some (r, dz) → ∀ (H : Heap) (locs : List Loc) (ls : Array Slot), lv_has ls 2 [] → xG D cid b A sh d s H locs → W p l e (xRm 1 0 0) s m av below meth c H locs 0 0 (MQ below (xQ D cid b ex A (some (.int r)) sh dz) av s 0 0 A) (F0 m 37 ls []) := by
    intro d hf H locs ls hl G
    unfold k_X6_isToldName_37 at hf
    refine lv_iconst (v := (1 : Int32)) hx hb dX6_isToldName_37 (by decide) ?_
    refine lv_goto (tgt := 42) hx hb dX6_isToldName_38 (by decide) ?_
    exact K42 (1 : Int32) d hf _ _ ls (lv_sub hl [] rfl) G
  unfold f_X6_isToldName at hf
  refine lv_aload_n hx hb dX6_isToldName_0 rfl (lv_at hl 0 rfl) ?_
  obtain ⟨v2, hv2, hf⟩ := x_ob hf
  refine xr_getR (ci := 6) (k := 0) S G hv2 rfl kw_294 dX6_isToldName_1 ?_
  obtain ⟨v3, hv3, hf⟩ := x_ob hf
  refine xr_getI (ci := 7) (k := 0) S G hv3 rfl kw_230 dX6_isToldName_4 ?_
  refine lv_bipush (v := (21 : Int32)) hx hb dX6_isToldName_7 (by decide) ?_
  refine lv_icmp_eq (tgt := 21) hx hb dX6_isToldName_9 (by decide) (fun c => ?_) (fun c => ?_)
  · have hf := x_pos c hf
    refine lv_iload_n hx hb dX6_isToldName_21 rfl (lv_at hl 1 rfl) ?_
    refine lv_iconst (v := (-1 : Int32)) hx hb dX6_isToldName_22 (by decide) ?_
    refine lv_icmp_ne (tgt := 37) hx hb dX6_isToldName_23 (by decide) (fun c => ?_) (fun c => ?_)
    · have hf := x_neg c hf
      exact K37 d hf _ _ ls (lv_sub hl [] rfl) G
    · have hf := x_pos c hf
      refine lv_aload_n hx hb dX6_isToldName_26 rfl (lv_at hl 0 rfl) ?_
      obtain ⟨v4, hv4, hf⟩ := x_ob hf
      refine xr_getR (ci := 6) (k := 0) S G hv4 rfl kw_294 dX6_isToldName_27 ?_
      refine lv_iconst (v := (4 : Int32)) hx hb dX6_isToldName_30 (by decide) ?_
      obtain ⟨z5, hz5, hf⟩ := x_ob hf
      obtain ⟨hqz5, hz5⟩ := xon_of hz5
      refine xr_callV (ci := 7) (As := [.int (4 : Int32)]) (rest := []) (st1 := [.int z5.1]) S G hl.1 (fun _ => rfl) (mt_X7_refuse l D cid b ex sa sv B0 sh v4 (4 : Int32) d _ _ hz5) hqz5 (by decide) kw_605 kw_606 kw_607 kw_5 kw_608 hd_X7_refuse ⟨Nat.le_of_ble_eq_true rfl, Nat.le_of_ble_eq_true rfl⟩ rfl rfl rfl (Nat.le_of_ble_eq_true rfl) ⟨Nat.le_of_ble_eq_true rfl, Nat.le_of_ble_eq_true rfl⟩ dX6_isToldName_31 (fun H locs G => ?_)
      refine lv_if_eq (tgt := 41) hx hb dX6_isToldName_34 (by decide) (fun c => ?_) (fun c => ?_)
      · have hf := x_pos c hf
        refine lv_iconst (v := (0 : Int32)) hx hb dX6_isToldName_41 (by decide) ?_
        exact K42 (0 : Int32) z5.2 hf _ _ ls (lv_sub hl [] rfl) G
      · have hf := x_neg c hf
        exact K37 z5.2 hf _ _ ls (lv_sub hl [] rfl) G
  · have hf := x_neg c hf
    refine lv_aload_n hx hb dX6_isToldName_12 rfl (lv_at hl 0 rfl) ?_
    obtain ⟨v6, hv6, hf⟩ := x_ob hf
    refine xr_getR (ci := 6) (k := 0) S G hv6 rfl kw_294 dX6_isToldName_13 ?_
    refine lv_iconst (v := (1 : Int32)) hx hb dX6_isToldName_16 (by decide) ?_
    obtain ⟨z7, hz7, hf⟩ := x_ob hf
    obtain ⟨hqz7, hz7⟩ := xon_of hz7
    refine xr_callV (ci := 7) (As := [.int (1 : Int32)]) (rest := []) (st1 := [.int z7.1]) S G hl.1 (fun _ => rfl) (mt_X7_refuse l D cid b ex sa sv B0 sh v6 (1 : Int32) d _ _ hz7) hqz7 (by decide) kw_605 kw_606 kw_607 kw_5 kw_608 hd_X7_refuse ⟨Nat.le_of_ble_eq_true rfl, Nat.le_of_ble_eq_true rfl⟩ rfl rfl rfl (Nat.le_of_ble_eq_true rfl) ⟨Nat.le_of_ble_eq_true rfl, Nat.le_of_ble_eq_true rfl⟩ dX6_isToldName_17 (fun H locs G => ?_)
    obtain ⟨v8, hv8, hf⟩ := x_ob hf
    cases hf
    exact xr_zret S G (fun _ => rfl) hr hv8 dX6_isToldName_20
-- HalfLandings$TextReader.readRest()Z
theorem dX6_readRest_0 : decode cX6_readRest 0 = .ok (.aload_n 0, 1) := by decide +kernel
theorem dX6_readRest_1 : decode cX6_readRest 1 = .ok (.getfield 19, 3) := by decide +kernel
theorem dX6_readRest_4 : decode cX6_readRest 4 = .ok (.getfield 110, 3) := by decide +kernel
theorem dX6_readRest_7 : decode cX6_readRest 7 = .ok (.bipush 12, 2) := by decide +kernel
theorem dX6_readRest_9 : decode cX6_readRest 9 = .ok (.if_icmp .lt 12, 3) := by decide +kernel
theorem dX6_readRest_12 : decode cX6_readRest 12 = .ok (.aload_n 0, 1) := by decide +kernel
theorem dX6_readRest_13 : decode cX6_readRest 13 = .ok (.getfield 15, 3) := by decide +kernel
theorem dX6_readRest_16 : decode cX6_readRest 16 = .ok (.iconst 2, 1) := by decide +kernel
theorem dX6_readRest_17 : decode cX6_readRest 17 = .ok (.invokevirtual 45, 3) := by decide +kernel
theorem dX6_readRest_20 : decode cX6_readRest 20 = .ok (.ireturn, 1) := by decide +kernel
theorem dX6_readRest_21 : decode cX6_readRest 21 = .ok (.aload_n 0, 1) := by decide +kernel
theorem dX6_readRest_22 : decode cX6_readRest 22 = .ok (.getfield 15, 3) := by decide +kernel
theorem dX6_readRest_25 : decode cX6_readRest 25 = .ok (.invokevirtual 49, 3) := by decide +kernel
theorem dX6_readRest_28 : decode cX6_readRest 28 = .ok (.aload_n 0, 1) := by decide +kernel
theorem dX6_readRest_29 : decode cX6_readRest 29 = .ok (.getfield 19, 3) := by decide +kernel
theorem dX6_readRest_32 : decode cX6_readRest 32 = .ok (.aload_n 0, 1) := by decide +kernel
theorem dX6_readRest_33 : decode cX6_readRest 33 = .ok (.getfield 15, 3) := by decide +kernel
theorem dX6_readRest_36 : decode cX6_readRest 36 = .ok (.getfield 75, 3) := by decide +kernel
theorem dX6_readRest_39 : decode cX6_readRest 39 = .ok (.invokevirtual 103, 3) := by decide +kernel
theorem dX6_readRest_42 : decode cX6_readRest 42 = .ok (.istore_n 1, 1) := by decide +kernel
theorem dX6_readRest_43 : decode cX6_readRest 43 = .ok (.aload_n 0, 1) := by decide +kernel
theorem dX6_readRest_44 : decode cX6_readRest 44 = .ok (.iload_n 1, 1) := by decide +kernel
theorem dX6_readRest_45 : decode cX6_readRest 45 = .ok (.invokevirtual 113, 3) := by decide +kernel
theorem dX6_readRest_48 : decode cX6_readRest 48 = .ok (.ifCond .ne 5, 3) := by decide +kernel
theorem dX6_readRest_51 : decode cX6_readRest 51 = .ok (.iconst 0, 1) := by decide +kernel
theorem dX6_readRest_52 : decode cX6_readRest 52 = .ok (.ireturn, 1) := by decide +kernel
theorem dX6_readRest_53 : decode cX6_readRest 53 = .ok (.aload_n 0, 1) := by decide +kernel
theorem dX6_readRest_54 : decode cX6_readRest 54 = .ok (.getfield 15, 3) := by decide +kernel
theorem dX6_readRest_57 : decode cX6_readRest 57 = .ok (.invokevirtual 49, 3) := by decide +kernel
theorem dX6_readRest_60 : decode cX6_readRest 60 = .ok (.aload_n 0, 1) := by decide +kernel
theorem dX6_readRest_61 : decode cX6_readRest 61 = .ok (.getfield 19, 3) := by decide +kernel
theorem dX6_readRest_64 : decode cX6_readRest 64 = .ok (.aload_n 0, 1) := by decide +kernel
theorem dX6_readRest_65 : decode cX6_readRest 65 = .ok (.getfield 15, 3) := by decide +kernel
theorem dX6_readRest_68 : decode cX6_readRest 68 = .ok (.getfield 75, 3) := by decide +kernel
theorem dX6_readRest_71 : decode cX6_readRest 71 = .ok (.invokevirtual 86, 3) := by decide +kernel
theorem dX6_readRest_74 : decode cX6_readRest 74 = .ok (.istore_n 2, 1) := by decide +kernel
theorem dX6_readRest_75 : decode cX6_readRest 75 = .ok (.aload_n 0, 1) := by decide +kernel
theorem dX6_readRest_76 : decode cX6_readRest 76 = .ok (.iload_n 2, 1) := by decide +kernel
theorem dX6_readRest_77 : decode cX6_readRest 77 = .ok (.invokevirtual 113, 3) := by decide +kernel
theorem dX6_readRest_80 : decode cX6_readRest 80 = .ok (.ifCond .ne 5, 3) := by decide +kernel
theorem dX6_readRest_83 : decode cX6_readRest 83 = .ok (.iconst 0, 1) := by decide +kernel
theorem dX6_readRest_84 : decode cX6_readRest 84 = .ok (.ireturn, 1) := by decide +kernel
theorem dX6_readRest_85 : decode cX6_readRest 85 = .ok (.aload_n 0, 1) := by decide +kernel
theorem dX6_readRest_86 : decode cX6_readRest 86 = .ok (.getfield 15, 3) := by decide +kernel
theorem dX6_readRest_89 : decode cX6_readRest 89 = .ok (.invokevirtual 49, 3) := by decide +kernel
theorem dX6_readRest_92 : decode cX6_readRest 92 = .ok (.aload_n 0, 1) := by decide +kernel
theorem dX6_readRest_93 : decode cX6_readRest 93 = .ok (.iconst 1, 1) := by decide +kernel
theorem dX6_readRest_94 : decode cX6_readRest 94 = .ok (.bipush 30, 2) := by decide +kernel
theorem dX6_readRest_96 : decode cX6_readRest 96 = .ok (.invokevirtual 71, 3) := by decide +kernel
theorem dX6_readRest_99 : decode cX6_readRest 99 = .ok (.ifCond .ne 5, 3) := by decide +kernel
theorem dX6_readRest_102 : decode cX6_readRest 102 = .ok (.iconst 0, 1) := by decide +kernel
theorem dX6_readRest_103 : decode cX6_readRest 103 = .ok (.ireturn, 1) := by decide +kernel
theorem dX6_readRest_104 : decode cX6_readRest 104 = .ok (.aload_n 0, 1) := by decide +kernel
theorem dX6_readRest_105 : decode cX6_readRest 105 = .ok (.getfield 19, 3) := by decide +kernel
theorem dX6_readRest_108 : decode cX6_readRest 108 = .ok (.iload_n 1, 1) := by decide +kernel
theorem dX6_readRest_109 : decode cX6_readRest 109 = .ok (.iload_n 2, 1) := by decide +kernel
theorem dX6_readRest_110 : decode cX6_readRest 110 = .ok (.aload_n 0, 1) := by decide +kernel
theorem dX6_readRest_111 : decode cX6_readRest 111 = .ok (.getfield 15, 3) := by decide +kernel
theorem dX6_readRest_114 : decode cX6_readRest 114 = .ok (.getfield 75, 3) := by decide +kernel
theorem dX6_readRest_117 : decode cX6_readRest 117 = .ok (.invokevirtual 116, 3) := by decide +kernel
theorem dX6_readRest_120 : decode cX6_readRest 120 = .ok (.aload_n 0, 1) := by decide +kernel
theorem dX6_readRest_121 : decode cX6_readRest 121 = .ok (.getfield 15, 3) := by decide +kernel
theorem dX6_readRest_124 : decode cX6_readRest 124 = .ok (.invokevirtual 49, 3) := by decide +kernel
theorem dX6_readRest_127 : decode cX6_readRest 127 = .ok (.iconst 1, 1) := by decide +kernel
theorem dX6_readRest_128 : decode cX6_readRest 128 = .ok (.ireturn, 1) := by decide +kernel
theorem hd_X6_readRest : yX6_readRest.cls = xCn 6 ∧ yX6_readRest.cls ≠ "java/lang/invoke/MethodHandle" ∧ yX6_readRest.cls ≠ "java/lang/invoke/VarHandle" ∧ (parseMethodDescriptor yX6_readRest.desc).map (fun d => d.parameters.length) = some 0 := by decide +kernel
def f_X6_readRest (sh : List xSh) (q0 : Nat) (d : xD) : Option (Int32 × xD) :=
  (xgR 6 sh d q0 2).bind fun v1 => (xgI 3 sh d v1 15).bind fun v2 => if v2 < (12 : Int32) then ((xgR 6 sh d q0 0).bind fun v3 => (xon 7 sh v3 (f_X7_next sh v3 d)).bind fun d4 => (xgR 6 sh d4 q0 2).bind fun v5 => (xgR 6 sh d4 q0 0).bind fun v6 => (xgI 7 sh d4 v6 2).bind fun v7 => (xon 3 sh v5 (f_X3_walkerNamed sh v5 v7 d4)).bind fun z8 => (xon 6 sh q0 (f_X6_isToldName sh q0 z8.1 z8.2)).bind fun z9 => if z9.1 = 0 then (some ((0 : Int32), z9.2)) else ((xgR 6 sh z9.2 q0 0).bind fun v10 => (xon 7 sh v10 (f_X7_next sh v10 z9.2)).bind fun d11 => (xgR 6 sh d11 q0 2).bind fun v12 => (xgR 6 sh d11 q0 0).bind fun v13 => (xgI 7 sh d11 v13 2).bind fun v14 => (xon 3 sh v12 (f_X3_benchNamed sh v12 v14 d11)).bind fun z15 => (xon 6 sh q0 (f_X6_isToldName sh q0 z15.1 z15.2)).bind fun z16 => if z16.1 = 0 then (some ((0 : Int32), z16.2)) else ((xgR 6 sh z16.2 q0 0).bind fun v17 => (xon 7 sh v17 (f_X7_next sh v17 z16.2)).bind fun d18 => (xon 6 sh q0 (f_X6_isNumber sh q0 (1 : Int32) (30 : Int32) d18)).bind fun z19 => if z19.1 = 0 then (some ((0 : Int32), z19.2)) else ((xgR 6 sh z19.2 q0 2).bind fun v20 => (xgR 6 sh z19.2 q0 0).bind fun v21 => (xgI 7 sh z19.2 v21 2).bind fun v22 => (xon 3 sh v20 (f_X3_addRest sh v20 z8.1 z15.1 v22 z19.2)).bind fun d23 => (xgR 6 sh d23 q0 0).bind fun v24 => (xon 7 sh v24 (f_X7_next sh v24 d23)).bind fun d25 => some ((1 : Int32), d25))))) else ((xgR 6 sh d q0 0).bind fun v26 => (xon 7 sh v26 (f_X7_refuse sh v26 (2 : Int32) d)).bind fun z27 => (xz z27.1).bind fun v28 => some (v28, z27.2))
set_option maxHeartbeats 4000000 in
set_option maxRecDepth 100000 in
theorem mt_X6_readRest (l : Launch) (D : va_G) (cid : FieldType → ClassId) (b : Nat) (ex : Bool) (sa sv B0 : Nat) (sh : List xSh) (q0 : Nat) (d : xD) (r : Int32) (dz : xD) (hf : f_X6_readRest sh q0 d = some (r, dz)) : xMet l yX6_readRest cX6_readRest 3 (some .boolean) 3 0 0 D cid b ex sa sv B0 [.ref (b + q0)] sh d (some (.int r)) sh dz := by
  refine xMet.of (by decide) (Nat.le_of_ble_eq_true rfl) ?_
  intro p e s m below meth c ls A S hr hin G hl
  have hl : lv_has ls 3 [(0, .ref (b + q0))] := hl
  generalize ([.ref (b + q0)] : List Value).toArray = av at S ⊢
  have hx := S.1
  have hb := S.2.1
  have hml := S.2.2.1
  have hown := S.2.2.2.1
  have hts := S.2.2.2.2.1
  unfold f_X6_readRest at hf
  refine lv_aload_n hx hb dX6_readRest_0 rfl (lv_at hl 0 rfl) ?_
  obtain ⟨v1, hv1, hf⟩ := x_ob hf
  refine xr_getR (ci := 6) (k := 2) S G hv1 rfl kw_296 dX6_readRest_1 ?_
  obtain ⟨v2, hv2, hf⟩ := x_ob hf
  refine xr_getI (ci := 3) (k := 15) S G hv2 rfl kw_118 dX6_readRest_4 ?_
  refine lv_bipush (v := (12 : Int32)) hx hb dX6_readRest_7 (by decide) ?_
  refine lv_icmp_lt (tgt := 21) hx hb dX6_readRest_9 (by decide) (fun c => ?_) (fun c => ?_)
  · have hf := x_pos c hf
    refine lv_aload_n hx hb dX6_readRest_21 rfl (lv_at hl 0 rfl) ?_
    obtain ⟨v3, hv3, hf⟩ := x_ob hf
    refine xr_getR (ci := 6) (k := 0) S G hv3 rfl kw_294 dX6_readRest_22 ?_
    obtain ⟨d4, hd4, hf⟩ := x_ob hf
    obtain ⟨hqd4, hd4⟩ := xon_of hd4
    refine xr_callV (ci := 7) (As := []) (rest := []) (st1 := []) S G hl.1 (fun _ => rfl) (mt_X7_next l D cid b ex sa sv B0 sh v3 d _ hd4) hqd4 (by decide) kw_600 kw_559 kw_560 kw_5 kw_561 hd_X7_next ⟨Nat.le_of_ble_eq_true rfl, Nat.le_of_ble_eq_true rfl⟩ rfl rfl rfl (Nat.le_of_ble_eq_true rfl) ⟨Nat.le_of_ble_eq_true rfl, Nat.le_of_ble_eq_true rfl⟩ dX6_readRest_25 (fun H locs G => ?_)
    refine lv_aload_n hx hb dX6_readRest_28 rfl (lv_at hl 0 rfl) ?_
    obtain ⟨v5, hv5, hf⟩ := x_ob hf
    refine xr_getR (ci := 6) (k := 2) S G hv5 rfl kw_296 dX6_readRest_29 ?_
    refine lv_aload_n hx hb dX6_readRest_32 rfl (lv_at hl 0 rfl) ?_
    obtain ⟨v6, hv6, hf⟩ := x_ob hf
    refine xr_getR (ci := 6) (k := 0) S G hv6 rfl kw_294 dX6_readRest_33 ?_
    obtain ⟨v7, hv7, hf⟩ := x_ob hf
    refine xr_getI (ci := 7) (k := 2) S G hv7 rfl kw_235 dX6_readRest_36 ?_
    obtain ⟨z8, hz8, hf⟩ := x_ob hf
    obtain ⟨hqz8, hz8⟩ := xon_of hz8
    refine xr_callV (ci := 3) (As := [.int v7]) (rest := []) (st1 := [.int z8.1]) S G hl.1 (fun _ => rfl) (mt_X3_walkerNamed l D cid b ex sa sv B0 sh v5 v7 d4 _ _ hz8) hqz8 (by decide) kw_636 kw_637 kw_638 kw_2 kw_639 hd_X3_walkerNamed ⟨Nat.le_of_ble_eq_true rfl, Nat.le_of_ble_eq_true rfl⟩ rfl rfl rfl (Nat.le_of_ble_eq_true rfl) ⟨Nat.le_of_ble_eq_true rfl, Nat.le_of_ble_eq_true rfl⟩ dX6_readRest_39 (fun H locs G => ?_)
    refine lv_istore_n (lv' := [(1, .int z8.1), (0, .ref (b + q0))]) hx hb dX6_readRest_42 rfl hl (by decide) rfl (fun ls hl => ?_)
    refine lv_aload_n hx hb dX6_readRest_43 rfl (lv_at hl 1 rfl) ?_
    refine lv_iload_n hx hb dX6_readRest_44 rfl (lv_at hl 0 rfl) ?_
    obtain ⟨z9, hz9, hf⟩ := x_ob hf
    obtain ⟨hqz9, hz9⟩ := xon_of hz9
    refine xr_callV (ci := 6) (As := [.int z8.1]) (rest := []) (st1 := [.int z9.1]) S G hl.1 (fun _ => rfl) (mt_X6_isToldName l D cid b ex sa sv B0 sh q0 z8.1 z8.2 _ _ hz9) hqz9 (by decide) kw_648 kw_650 ks_13 kw_10 kw_651 hd_X6_isToldName ⟨Nat.le_of_ble_eq_true rfl, Nat.le_of_ble_eq_true rfl⟩ rfl rfl rfl (Nat.le_of_ble_eq_true rfl) ⟨Nat.le_of_ble_eq_true rfl, Nat.le_of_ble_eq_true rfl⟩ dX6_readRest_45 (fun H locs G => ?_)
    refine lv_if_ne (tgt := 53) hx hb dX6_readRest_48 (by decide) (fun c => ?_) (fun c => ?_)
    · have hf := x_neg c hf
      refine lv_aload_n hx hb dX6_readRest_53 rfl (lv_at hl 1 rfl) ?_
      obtain ⟨v10, hv10, hf⟩ := x_ob hf
      refine xr_getR (ci := 6) (k := 0) S G hv10 rfl kw_294 dX6_readRest_54 ?_
      obtain ⟨d11, hd11, hf⟩ := x_ob hf
      obtain ⟨hqd11, hd11⟩ := xon_of hd11
      refine xr_callV (ci := 7) (As := []) (rest := []) (st1 := []) S G hl.1 (fun _ => rfl) (mt_X7_next l D cid b ex sa sv B0 sh v10 z9.2 _ hd11) hqd11 (by decide) kw_600 kw_559 kw_560 kw_5 kw_561 hd_X7_next ⟨Nat.le_of_ble_eq_true rfl, Nat.le_of_ble_eq_true rfl⟩ rfl rfl rfl (Nat.le_of_ble_eq_true rfl) ⟨Nat.le_of_ble_eq_true rfl, Nat.le_of_ble_eq_true rfl⟩ dX6_readRest_57 (fun H locs G => ?_)
      refine lv_aload_n hx hb dX6_readRest_60 rfl (lv_at hl 1 rfl) ?_
      obtain ⟨v12, hv12, hf⟩ := x_ob hf
      refine xr_getR (ci := 6) (k := 2) S G hv12 rfl kw_296 dX6_readRest_61 ?_
      refine lv_aload_n hx hb dX6_readRest_64 rfl (lv_at hl 1 rfl) ?_
      obtain ⟨v13, hv13, hf⟩ := x_ob hf
      refine xr_getR (ci := 6) (k := 0) S G hv13 rfl kw_294 dX6_readRest_65 ?_
      obtain ⟨v14, hv14, hf⟩ := x_ob hf
      refine xr_getI (ci := 7) (k := 2) S G hv14 rfl kw_235 dX6_readRest_68 ?_
      obtain ⟨z15, hz15, hf⟩ := x_ob hf
      obtain ⟨hqz15, hz15⟩ := xon_of hz15
      refine xr_callV (ci := 3) (As := [.int v14]) (rest := []) (st1 := [.int z15.1]) S G hl.1 (fun _ => rfl) (mt_X3_benchNamed l D cid b ex sa sv B0 sh v12 v14 d11 _ _ hz15) hqz15 (by decide) kw_613 kw_614 kw_615 kw_2 kw_616 hd_X3_benchNamed ⟨Nat.le_of_ble_eq_true rfl, Nat.le_of_ble_eq_true rfl⟩ rfl rfl rfl (Nat.le_of_ble_eq_true rfl) ⟨Nat.le_of_ble_eq_true rfl, Nat.le_of_ble_eq_true rfl⟩ dX6_readRest_71 (fun H locs G => ?_)
      refine lv_istore_n (lv' := [(2, .int z15.1), (1, .int z8.1), (0, .ref (b + q0))]) hx hb dX6_readRest_74 rfl hl (by decide) rfl (fun ls hl => ?_)
      refine lv_aload_n hx hb dX6_readRest_75 rfl (lv_at hl 2 rfl) ?_
      refine lv_iload_n hx hb dX6_readRest_76 rfl (lv_at hl 0 rfl) ?_
      obtain ⟨z16, hz16, hf⟩ := x_ob hf
      obtain ⟨hqz16, hz16⟩ := xon_of hz16
      refine xr_callV (ci := 6) (As := [.int z15.1]) (rest := []) (st1 := [.int z16.1]) S G hl.1 (fun _ => rfl) (mt_X6_isToldName l D cid b ex sa sv B0 sh q0 z15.1 z15.2 _ _ hz16) hqz16 (by decide) kw_648 kw_650 ks_13 kw_10 kw_651 hd_X6_isToldName ⟨Nat.le_of_ble_eq_true rfl, Nat.le_of_ble_eq_true rfl⟩ rfl rfl rfl (Nat.le_of_ble_eq_true rfl) ⟨Nat.le_of_ble_eq_true rfl, Nat.le_of_ble_eq_true rfl⟩ dX6_readRest_77 (fun H locs G => ?_)
      refine lv_if_ne (tgt := 85) hx hb dX6_readRest_80 (by decide) (fun c => ?_) (fun c => ?_)
      · have hf := x_neg c hf
        refine lv_aload_n hx hb dX6_readRest_85 rfl (lv_at hl 2 rfl) ?_
        obtain ⟨v17, hv17, hf⟩ := x_ob hf
        refine xr_getR (ci := 6) (k := 0) S G hv17 rfl kw_294 dX6_readRest_86 ?_
        obtain ⟨d18, hd18, hf⟩ := x_ob hf
        obtain ⟨hqd18, hd18⟩ := xon_of hd18
        refine xr_callV (ci := 7) (As := []) (rest := []) (st1 := []) S G hl.1 (fun _ => rfl) (mt_X7_next l D cid b ex sa sv B0 sh v17 z16.2 _ hd18) hqd18 (by decide) kw_600 kw_559 kw_560 kw_5 kw_561 hd_X7_next ⟨Nat.le_of_ble_eq_true rfl, Nat.le_of_ble_eq_true rfl⟩ rfl rfl rfl (Nat.le_of_ble_eq_true rfl) ⟨Nat.le_of_ble_eq_true rfl, Nat.le_of_ble_eq_true rfl⟩ dX6_readRest_89 (fun H locs G => ?_)
        refine lv_aload_n hx hb dX6_readRest_92 rfl (lv_at hl 2 rfl) ?_
        refine lv_iconst (v := (1 : Int32)) hx hb dX6_readRest_93 (by decide) ?_
        refine lv_bipush (v := (30 : Int32)) hx hb dX6_readRest_94 (by decide) ?_
        obtain ⟨z19, hz19, hf⟩ := x_ob hf
        obtain ⟨hqz19, hz19⟩ := xon_of hz19
        refine xr_callV (ci := 6) (As := [.int (1 : Int32), .int (30 : Int32)]) (rest := []) (st1 := [.int z19.1]) S G hl.1 (fun _ => rfl) (mt_X6_isNumber l D cid b ex sa sv B0 sh q0 (1 : Int32) (30 : Int32) d18 _ _ hz19) hqz19 (by decide) kw_601 kw_603 ks_8 kw_10 kw_604 hd_X6_isNumber ⟨Nat.le_of_ble_eq_true rfl, Nat.le_of_ble_eq_true rfl⟩ rfl rfl rfl (Nat.le_of_ble_eq_true rfl) ⟨Nat.le_of_ble_eq_true rfl, Nat.le_of_ble_eq_true rfl⟩ dX6_readRest_96 (fun H locs G => ?_)
        refine lv_if_ne (tgt := 104) hx hb dX6_readRest_99 (by decide) (fun c => ?_) (fun c => ?_)
        · have hf := x_neg c hf
          refine lv_aload_n hx hb dX6_readRest_104 rfl (lv_at hl 2 rfl) ?_
          obtain ⟨v20, hv20, hf⟩ := x_ob hf
          refine xr_getR (ci := 6) (k := 2) S G hv20 rfl kw_296 dX6_readRest_105 ?_
          refine lv_iload_n hx hb dX6_readRest_108 rfl (lv_at hl 1 rfl) ?_
          refine lv_iload_n hx hb dX6_readRest_109 rfl (lv_at hl 0 rfl) ?_
          refine lv_aload_n hx hb dX6_readRest_110 rfl (lv_at hl 2 rfl) ?_
          obtain ⟨v21, hv21, hf⟩ := x_ob hf
          refine xr_getR (ci := 6) (k := 0) S G hv21 rfl kw_294 dX6_readRest_111 ?_
          obtain ⟨v22, hv22, hf⟩ := x_ob hf
          refine xr_getI (ci := 7) (k := 2) S G hv22 rfl kw_235 dX6_readRest_114 ?_
          obtain ⟨d23, hd23, hf⟩ := x_ob hf
          obtain ⟨hqd23, hd23⟩ := xon_of hd23
          refine xr_callV (ci := 3) (As := [.int z8.1, .int z15.1, .int v22]) (rest := []) (st1 := []) S G hl.1 (fun _ => rfl) (mt_X3_addRest l D cid b ex sa sv B0 sh v20 z8.1 z15.1 v22 z19.2 _ hd23) hqd23 (by decide) kw_652 kw_653 kw_654 kw_2 kw_655 hd_X3_addRest ⟨Nat.le_of_ble_eq_true rfl, Nat.le_of_ble_eq_true rfl⟩ rfl rfl rfl (Nat.le_of_ble_eq_true rfl) ⟨Nat.le_of_ble_eq_true rfl, Nat.le_of_ble_eq_true rfl⟩ dX6_readRest_117 (fun H locs G => ?_)
          refine lv_aload_n hx hb dX6_readRest_120 rfl (lv_at hl 2 rfl) ?_
          obtain ⟨v24, hv24, hf⟩ := x_ob hf
          refine xr_getR (ci := 6) (k := 0) S G hv24 rfl kw_294 dX6_readRest_121 ?_
          obtain ⟨d25, hd25, hf⟩ := x_ob hf
          obtain ⟨hqd25, hd25⟩ := xon_of hd25
          refine xr_callV (ci := 7) (As := []) (rest := []) (st1 := []) S G hl.1 (fun _ => rfl) (mt_X7_next l D cid b ex sa sv B0 sh v24 d23 _ hd25) hqd25 (by decide) kw_600 kw_559 kw_560 kw_5 kw_561 hd_X7_next ⟨Nat.le_of_ble_eq_true rfl, Nat.le_of_ble_eq_true rfl⟩ rfl rfl rfl (Nat.le_of_ble_eq_true rfl) ⟨Nat.le_of_ble_eq_true rfl, Nat.le_of_ble_eq_true rfl⟩ dX6_readRest_124 (fun H locs G => ?_)
          refine lv_iconst (v := (1 : Int32)) hx hb dX6_readRest_127 (by decide) ?_
          cases hf
          exact xr_zret S G (fun _ => rfl) hr (by decide) dX6_readRest_128
        · have hf := x_pos c hf
          refine lv_iconst (v := (0 : Int32)) hx hb dX6_readRest_102 (by decide) ?_
          cases hf
          exact xr_zret S G (fun _ => rfl) hr (by decide) dX6_readRest_103
      · have hf := x_pos c hf
        refine lv_iconst (v := (0 : Int32)) hx hb dX6_readRest_83 (by decide) ?_
        cases hf
        exact xr_zret S G (fun _ => rfl) hr (by decide) dX6_readRest_84
    · have hf := x_pos c hf
      refine lv_iconst (v := (0 : Int32)) hx hb dX6_readRest_51 (by decide) ?_
      cases hf
      exact xr_zret S G (fun _ => rfl) hr (by decide) dX6_readRest_52
  · have hf := x_neg c hf
    refine lv_aload_n hx hb dX6_readRest_12 rfl (lv_at hl 0 rfl) ?_
    obtain ⟨v26, hv26, hf⟩ := x_ob hf
    refine xr_getR (ci := 6) (k := 0) S G hv26 rfl kw_294 dX6_readRest_13 ?_
    refine lv_iconst (v := (2 : Int32)) hx hb dX6_readRest_16 (by decide) ?_
    obtain ⟨z27, hz27, hf⟩ := x_ob hf
    obtain ⟨hqz27, hz27⟩ := xon_of hz27
    refine xr_callV (ci := 7) (As := [.int (2 : Int32)]) (rest := []) (st1 := [.int z27.1]) S G hl.1 (fun _ => rfl) (mt_X7_refuse l D cid b ex sa sv B0 sh v26 (2 : Int32) d _ _ hz27) hqz27 (by decide) kw_605 kw_606 kw_607 kw_5 kw_608 hd_X7_refuse ⟨Nat.le_of_ble_eq_true rfl, Nat.le_of_ble_eq_true rfl⟩ rfl rfl rfl (Nat.le_of_ble_eq_true rfl) ⟨Nat.le_of_ble_eq_true rfl, Nat.le_of_ble_eq_true rfl⟩ dX6_readRest_17 (fun H locs G => ?_)
    obtain ⟨v28, hv28, hf⟩ := x_ob hf
    cases hf
    exact xr_zret S G (fun _ => rfl) hr hv28 dX6_readRest_20
-- HalfLandings$TextReader.isFirstTime(I)Z
theorem dX6_isFirstTime_0 : decode cX6_isFirstTime 0 = .ok (.aload_n 0, 1) := by decide +kernel
theorem dX6_isFirstTime_1 : decode cX6_isFirstTime 1 = .ok (.getfield 9, 3) := by decide +kernel
theorem dX6_isFirstTime_4 : decode cX6_isFirstTime 4 = .ok (.iload_n 1, 1) := by decide +kernel
theorem dX6_isFirstTime_5 : decode cX6_isFirstTime 5 = .ok (.ishr, 1) := by decide +kernel
theorem dX6_isFirstTime_6 : decode cX6_isFirstTime 6 = .ok (.iconst 1, 1) := by decide +kernel
theorem dX6_isFirstTime_7 : decode cX6_isFirstTime 7 = .ok (.iand, 1) := by decide +kernel
theorem dX6_isFirstTime_8 : decode cX6_isFirstTime 8 = .ok (.iconst 1, 1) := by decide +kernel
theorem dX6_isFirstTime_9 : decode cX6_isFirstTime 9 = .ok (.if_icmp .ne 12, 3) := by decide +kernel
theorem dX6_isFirstTime_12 : decode cX6_isFirstTime 12 = .ok (.aload_n 0, 1) := by decide +kernel
theorem dX6_isFirstTime_13 : decode cX6_isFirstTime 13 = .ok (.getfield 15, 3) := by decide +kernel
theorem dX6_isFirstTime_16 : decode cX6_isFirstTime 16 = .ok (.iconst 3, 1) := by decide +kernel
theorem dX6_isFirstTime_17 : decode cX6_isFirstTime 17 = .ok (.invokevirtual 45, 3) := by decide +kernel
theorem dX6_isFirstTime_20 : decode cX6_isFirstTime 20 = .ok (.ireturn, 1) := by decide +kernel
theorem dX6_isFirstTime_21 : decode cX6_isFirstTime 21 = .ok (.aload_n 0, 1) := by decide +kernel
theorem dX6_isFirstTime_22 : decode cX6_isFirstTime 22 = .ok (.dup, 1) := by decide +kernel
theorem dX6_isFirstTime_23 : decode cX6_isFirstTime 23 = .ok (.getfield 9, 3) := by decide +kernel
theorem dX6_isFirstTime_26 : decode cX6_isFirstTime 26 = .ok (.iconst 1, 1) := by decide +kernel
theorem dX6_isFirstTime_27 : decode cX6_isFirstTime 27 = .ok (.iload_n 1, 1) := by decide +kernel
theorem dX6_isFirstTime_28 : decode cX6_isFirstTime 28 = .ok (.ishl, 1) := by decide +kernel
theorem dX6_isFirstTime_29 : decode cX6_isFirstTime 29 = .ok (.ior, 1) := by decide +kernel
theorem dX6_isFirstTime_30 : decode cX6_isFirstTime 30 = .ok (.putfield 9, 3) := by decide +kernel
theorem dX6_isFirstTime_33 : decode cX6_isFirstTime 33 = .ok (.iconst 1, 1) := by decide +kernel
theorem dX6_isFirstTime_34 : decode cX6_isFirstTime 34 = .ok (.ireturn, 1) := by decide +kernel
theorem hd_X6_isFirstTime : yX6_isFirstTime.cls = xCn 6 ∧ yX6_isFirstTime.cls ≠ "java/lang/invoke/MethodHandle" ∧ yX6_isFirstTime.cls ≠ "java/lang/invoke/VarHandle" ∧ (parseMethodDescriptor yX6_isFirstTime.desc).map (fun d => d.parameters.length) = some 1 := by decide +kernel
def f_X6_isFirstTime (sh : List xSh) (q0 : Nat) (x1 : Int32) (d : xD) : Option (Int32 × xD) :=
  (xgI 6 sh d q0 3).bind fun v1 => if ((v1 >>> (x1 &&& 31)) &&& (1 : Int32)) = (1 : Int32) then ((xgR 6 sh d q0 0).bind fun v4 => (xon 7 sh v4 (f_X7_refuse sh v4 (3 : Int32) d)).bind fun z5 => (xz z5.1).bind fun v6 => some (v6, z5.2)) else ((xgI 6 sh d q0 3).bind fun v2 => (xpI 6 sh d q0 3 (v2 ||| ((1 : Int32) <<< (x1 &&& 31)))).bind fun d3 => some ((1 : Int32), d3))
set_option maxHeartbeats 4000000 in
set_option maxRecDepth 100000 in
theorem mt_X6_isFirstTime (l : Launch) (D : va_G) (cid : FieldType → ClassId) (b : Nat) (ex : Bool) (sa sv B0 : Nat) (sh : List xSh) (q0 : Nat) (x1 : Int32) (d : xD) (r : Int32) (dz : xD) (hf : f_X6_isFirstTime sh q0 x1 d = some (r, dz)) : xMet l yX6_isFirstTime cX6_isFirstTime 2 (some .boolean) 1 0 0 D cid b ex sa sv B0 [.ref (b + q0), .int x1] sh d (some (.int r)) sh dz := by
  refine xMet.of (by decide) (Nat.le_of_ble_eq_true rfl) ?_
  intro p e s m below meth c ls A S hr hin G hl
  have hl : lv_has ls 2 [(0, .ref (b + q0)), (1, .int x1)] := hl
  generalize ([.ref (b + q0), .int x1] : List Value).toArray = av at S ⊢
  have hx := S.1
  have hb := S.2.1
  have hml := S.2.2.1
  have hown := S.2.2.2.1
  have hts := S.2.2.2.2.1
  unfold f_X6_isFirstTime at hf
  refine lv_aload_n hx hb dX6_isFirstTime_0 rfl (lv_at hl 0 rfl) ?_
  obtain ⟨v1, hv1, hf⟩ := x_ob hf
  refine xr_getI (ci := 6) (k := 3) S G hv1 rfl kw_297 dX6_isFirstTime_1 ?_
  refine lv_iload_n hx hb dX6_isFirstTime_4 rfl (lv_at hl 1 rfl) ?_
  refine lv_ishr hx hb dX6_isFirstTime_5 ?_
  refine lv_iconst (v := (1 : Int32)) hx hb dX6_isFirstTime_6 (by decide) ?_
  refine lv_iand hx hb dX6_isFirstTime_7 ?_
  refine lv_iconst (v := (1 : Int32)) hx hb dX6_isFirstTime_8 (by decide) ?_
  refine lv_icmp_ne (tgt := 21) hx hb dX6_isFirstTime_9 (by decide) (fun c => ?_) (fun c => ?_)
  · have hf := x_neg c hf
    refine lv_aload_n hx hb dX6_isFirstTime_21 rfl (lv_at hl 0 rfl) ?_
    refine lv_dup hx hb dX6_isFirstTime_22 rfl ?_
    obtain ⟨v2, hv2, hf⟩ := x_ob hf
    refine xr_getI (ci := 6) (k := 3) S G hv2 rfl kw_297 dX6_isFirstTime_23 ?_
    refine lv_iconst (v := (1 : Int32)) hx hb dX6_isFirstTime_26 (by decide) ?_
    refine lv_iload_n hx hb dX6_isFirstTime_27 rfl (lv_at hl 1 rfl) ?_
    refine lv_ishl hx hb dX6_isFirstTime_28 ?_
    refine lv_ior hx hb dX6_isFirstTime_29 ?_
    obtain ⟨d3, hd3, hf⟩ := x_ob hf
    refine xr_putI (ci := 6) (k := 3) S G hd3 rfl kw_297 dX6_isFirstTime_30 (fun H locs G => ?_)
    refine lv_iconst (v := (1 : Int32)) hx hb dX6_isFirstTime_33 (by decide) ?_
    cases hf
    exact xr_zret S G (fun _ => rfl) hr (by decide) dX6_isFirstTime_34
  · have hf := x_pos c hf
    refine lv_aload_n hx hb dX6_isFirstTime_12 rfl (lv_at hl 0 rfl) ?_
    obtain ⟨v4, hv4, hf⟩ := x_ob hf
    refine xr_getR (ci := 6) (k := 0) S G hv4 rfl kw_294 dX6_isFirstTime_13 ?_
    refine lv_iconst (v := (3 : Int32)) hx hb dX6_isFirstTime_16 (by decide) ?_
    obtain ⟨z5, hz5, hf⟩ := x_ob hf
    obtain ⟨hqz5, hz5⟩ := xon_of hz5
    refine xr_callV (ci := 7) (As := [.int (3 : Int32)]) (rest := []) (st1 := [.int z5.1]) S G hl.1 (fun _ => rfl) (mt_X7_refuse l D cid b ex sa sv B0 sh v4 (3 : Int32) d _ _ hz5) hqz5 (by decide) kw_605 kw_606 kw_607 kw_5 kw_608 hd_X7_refuse ⟨Nat.le_of_ble_eq_true rfl, Nat.le_of_ble_eq_true rfl⟩ rfl rfl rfl (Nat.le_of_ble_eq_true rfl) ⟨Nat.le_of_ble_eq_true rfl, Nat.le_of_ble_eq_true rfl⟩ dX6_isFirstTime_17 (fun H locs G => ?_)
    obtain ⟨v6, hv6, hf⟩ := x_ob hf
    cases hf
    exact xr_zret S G (fun _ => rfl) hr hv6 dX6_isFirstTime_20
-- HalfLandings$TextReader.readNumberLine(I)Z
theorem dX6_readNumberLine_0 : decode cX6_readNumberLine 0 = .ok (.aload_n 0, 1) := by decide +kernel
theorem dX6_readNumberLine_1 : decode cX6_readNumberLine 1 = .ok (.iload_n 1, 1) := by decide +kernel
theorem dX6_readNumberLine_2 : decode cX6_readNumberLine 2 = .ok (.invokevirtual 119, 3) := by decide +kernel
theorem dX6_readNumberLine_5 : decode cX6_readNumberLine 5 = .ok (.ifCond .ne 5, 3) := by decide +kernel
theorem dX6_readNumberLine_8 : decode cX6_readNumberLine 8 = .ok (.iconst 0, 1) := by decide +kernel
theorem dX6_readNumberLine_9 : decode cX6_readNumberLine 9 = .ok (.ireturn, 1) := by decide +kernel
theorem dX6_readNumberLine_10 : decode cX6_readNumberLine 10 = .ok (.aload_n 0, 1) := by decide +kernel
theorem dX6_readNumberLine_11 : decode cX6_readNumberLine 11 = .ok (.getfield 15, 3) := by decide +kernel
theorem dX6_readNumberLine_14 : decode cX6_readNumberLine 14 = .ok (.invokevirtual 49, 3) := by decide +kernel
theorem dX6_readNumberLine_17 : decode cX6_readNumberLine 17 = .ok (.iload_n 1, 1) := by decide +kernel
theorem dX6_readNumberLine_18 : decode cX6_readNumberLine 18 = .ok (.iconst 4, 1) := by decide +kernel
theorem dX6_readNumberLine_19 : decode cX6_readNumberLine 19 = .ok (.if_icmp .ne 39, 3) := by decide +kernel
theorem dX6_readNumberLine_22 : decode cX6_readNumberLine 22 = .ok (.aload_n 0, 1) := by decide +kernel
theorem dX6_readNumberLine_23 : decode cX6_readNumberLine 23 = .ok (.iconst 1, 1) := by decide +kernel
theorem dX6_readNumberLine_24 : decode cX6_readNumberLine 24 = .ok (.aload_n 0, 1) := by decide +kernel
theorem dX6_readNumberLine_25 : decode cX6_readNumberLine 25 = .ok (.getfield 19, 3) := by decide +kernel
theorem dX6_readNumberLine_28 : decode cX6_readNumberLine 28 = .ok (.getfield 78, 3) := by decide +kernel
theorem dX6_readNumberLine_31 : decode cX6_readNumberLine 31 = .ok (.iconst 1, 1) := by decide +kernel
theorem dX6_readNumberLine_32 : decode cX6_readNumberLine 32 = .ok (.isub, 1) := by decide +kernel
theorem dX6_readNumberLine_33 : decode cX6_readNumberLine 33 = .ok (.invokevirtual 71, 3) := by decide +kernel
theorem dX6_readNumberLine_36 : decode cX6_readNumberLine 36 = .ok (.ifCond .ne 5, 3) := by decide +kernel
theorem dX6_readNumberLine_39 : decode cX6_readNumberLine 39 = .ok (.iconst 0, 1) := by decide +kernel
theorem dX6_readNumberLine_40 : decode cX6_readNumberLine 40 = .ok (.ireturn, 1) := by decide +kernel
theorem dX6_readNumberLine_41 : decode cX6_readNumberLine 41 = .ok (.aload_n 0, 1) := by decide +kernel
theorem dX6_readNumberLine_42 : decode cX6_readNumberLine 42 = .ok (.getfield 19, 3) := by decide +kernel
theorem dX6_readNumberLine_45 : decode cX6_readNumberLine 45 = .ok (.aload_n 0, 1) := by decide +kernel
theorem dX6_readNumberLine_46 : decode cX6_readNumberLine 46 = .ok (.getfield 15, 3) := by decide +kernel
theorem dX6_readNumberLine_49 : decode cX6_readNumberLine 49 = .ok (.getfield 75, 3) := by decide +kernel
theorem dX6_readNumberLine_52 : decode cX6_readNumberLine 52 = .ok (.putfield 122, 3) := by decide +kernel
theorem dX6_readNumberLine_55 : decode cX6_readNumberLine 55 = .ok (.goto 63, 3) := by decide +kernel
theorem dX6_readNumberLine_58 : decode cX6_readNumberLine 58 = .ok (.iload_n 1, 1) := by decide +kernel
theorem dX6_readNumberLine_59 : decode cX6_readNumberLine 59 = .ok (.iconst 5, 1) := by decide +kernel
theorem dX6_readNumberLine_60 : decode cX6_readNumberLine 60 = .ok (.if_icmp .ne 32, 3) := by decide +kernel
theorem dX6_readNumberLine_63 : decode cX6_readNumberLine 63 = .ok (.aload_n 0, 1) := by decide +kernel
theorem dX6_readNumberLine_64 : decode cX6_readNumberLine 64 = .ok (.iconst 0, 1) := by decide +kernel
theorem dX6_readNumberLine_65 : decode cX6_readNumberLine 65 = .ok (.bipush 100, 2) := by decide +kernel
theorem dX6_readNumberLine_67 : decode cX6_readNumberLine 67 = .ok (.invokevirtual 71, 3) := by decide +kernel
theorem dX6_readNumberLine_70 : decode cX6_readNumberLine 70 = .ok (.ifCond .ne 5, 3) := by decide +kernel
theorem dX6_readNumberLine_73 : decode cX6_readNumberLine 73 = .ok (.iconst 0, 1) := by decide +kernel
theorem dX6_readNumberLine_74 : decode cX6_readNumberLine 74 = .ok (.ireturn, 1) := by decide +kernel
theorem dX6_readNumberLine_75 : decode cX6_readNumberLine 75 = .ok (.aload_n 0, 1) := by decide +kernel
theorem dX6_readNumberLine_76 : decode cX6_readNumberLine 76 = .ok (.getfield 19, 3) := by decide +kernel
theorem dX6_readNumberLine_79 : decode cX6_readNumberLine 79 = .ok (.aload_n 0, 1) := by decide +kernel
theorem dX6_readNumberLine_80 : decode cX6_readNumberLine 80 = .ok (.getfield 15, 3) := by decide +kernel
theorem dX6_readNumberLine_83 : decode cX6_readNumberLine 83 = .ok (.getfield 75, 3) := by decide +kernel
theorem dX6_readNumberLine_86 : decode cX6_readNumberLine 86 = .ok (.putfield 125, 3) := by decide +kernel
theorem dX6_readNumberLine_89 : decode cX6_readNumberLine 89 = .ok (.goto 29, 3) := by decide +kernel
theorem dX6_readNumberLine_92 : decode cX6_readNumberLine 92 = .ok (.aload_n 0, 1) := by decide +kernel
theorem dX6_readNumberLine_93 : decode cX6_readNumberLine 93 = .ok (.iconst 0, 1) := by decide +kernel
theorem dX6_readNumberLine_94 : decode cX6_readNumberLine 94 = .ok (.ldc 128, 2) := by decide +kernel
theorem dX6_readNumberLine_96 : decode cX6_readNumberLine 96 = .ok (.invokevirtual 71, 3) := by decide +kernel
theorem dX6_readNumberLine_99 : decode cX6_readNumberLine 99 = .ok (.ifCond .ne 5, 3) := by decide +kernel
theorem dX6_readNumberLine_102 : decode cX6_readNumberLine 102 = .ok (.iconst 0, 1) := by decide +kernel
theorem dX6_readNumberLine_103 : decode cX6_readNumberLine 103 = .ok (.ireturn, 1) := by decide +kernel
theorem dX6_readNumberLine_104 : decode cX6_readNumberLine 104 = .ok (.aload_n 0, 1) := by decide +kernel
theorem dX6_readNumberLine_105 : decode cX6_readNumberLine 105 = .ok (.getfield 19, 3) := by decide +kernel
theorem dX6_readNumberLine_108 : decode cX6_readNumberLine 108 = .ok (.aload_n 0, 1) := by decide +kernel
theorem dX6_readNumberLine_109 : decode cX6_readNumberLine 109 = .ok (.getfield 15, 3) := by decide +kernel
theorem dX6_readNumberLine_112 : decode cX6_readNumberLine 112 = .ok (.getfield 75, 3) := by decide +kernel
theorem dX6_readNumberLine_115 : decode cX6_readNumberLine 115 = .ok (.putfield 129, 3) := by decide +kernel
theorem dX6_readNumberLine_118 : decode cX6_readNumberLine 118 = .ok (.aload_n 0, 1) := by decide +kernel
theorem dX6_readNumberLine_119 : decode cX6_readNumberLine 119 = .ok (.getfield 15, 3) := by decide +kernel
theorem dX6_readNumberLine_122 : decode cX6_readNumberLine 122 = .ok (.invokevirtual 49, 3) := by decide +kernel
theorem dX6_readNumberLine_125 : decode cX6_readNumberLine 125 = .ok (.iconst 1, 1) := by decide +kernel
theorem dX6_readNumberLine_126 : decode cX6_readNumberLine 126 = .ok (.ireturn, 1) := by decide +kernel
theorem hd_X6_readNumberLine : yX6_readNumberLine.cls = xCn 6 ∧ yX6_readNumberLine.cls ≠ "java/lang/invoke/MethodHandle" ∧ yX6_readNumberLine.cls ≠ "java/lang/invoke/VarHandle" ∧ (parseMethodDescriptor yX6_readNumberLine.desc).map (fun d => d.parameters.length) = some 1 := by decide +kernel
def k_X6_readNumberLine_118 (sh : List xSh) (q0 : Nat) (d : xD) : Option (Int32 × xD) :=
  (xgR 6 sh d q0 0).bind fun v1 => (xon 7 sh v1 (f_X7_next sh v1 d)).bind fun d2 => some ((1 : Int32), d2)
def f_X6_readNumberLine (sh : List xSh) (q0 : Nat) (x1 : Int32) (d : xD) : Option (Int32 × xD) :=
  (xon 6 sh q0 (f_X6_isFirstTime sh q0 x1 d)).bind fun z3 => if z3.1 = 0 then (some ((0 : Int32), z3.2)) else ((xgR 6 sh z3.2 q0 0).bind fun v4 => (xon 7 sh v4 (f_X7_next sh v4 z3.2)).bind fun d5 => if x1 = (4 : Int32) then ((xgR 6 sh d5 q0 2).bind fun v16 => (xgI 3 sh d5 v16 0).bind fun v17 => (xon 6 sh q0 (f_X6_isNumber sh q0 (1 : Int32) (v17 - (1 : Int32)) d5)).bind fun z18 => if z18.1 = 0 then (some ((0 : Int32), z18.2)) else ((xgR 6 sh z18.2 q0 2).bind fun v19 => (xgR 6 sh z18.2 q0 0).bind fun v20 => (xgI 7 sh z18.2 v20 2).bind fun v21 => (xpI 3 sh z18.2 v19 1 v21).bind fun d22 => k_X6_readNumberLine_118 sh q0 d22)) else (if x1 = (5 : Int32) then ((xon 6 sh q0 (f_X6_isNumber sh q0 (0 : Int32) (100 : Int32) d5)).bind fun z11 => if z11.1 = 0 then (some ((0 : Int32), z11.2)) else ((xgR 6 sh z11.2 q0 2).bind fun v12 => (xgR 6 sh z11.2 q0 0).bind fun v13 => (xgI 7 sh z11.2 v13 2).bind fun v14 => (xpI 3 sh z11.2 v12 2 v14).bind fun d15 => k_X6_readNumberLine_118 sh q0 d15)) else ((xon 6 sh q0 (f_X6_isNumber sh q0 (0 : Int32) (99999 : Int32) d5)).bind fun z6 => if z6.1 = 0 then (some ((0 : Int32), z6.2)) else ((xgR 6 sh z6.2 q0 2).bind fun v7 => (xgR 6 sh z6.2 q0 0).bind fun v8 => (xgI 7 sh z6.2 v8 2).bind fun v9 => (xpI 3 sh z6.2 v7 3 v9).bind fun d10 => k_X6_readNumberLine_118 sh q0 d10))))
set_option maxHeartbeats 4000000 in
set_option maxRecDepth 100000 in
theorem mt_X6_readNumberLine (l : Launch) (D : va_G) (cid : FieldType → ClassId) (b : Nat) (ex : Bool) (sa sv B0 : Nat) (sh : List xSh) (q0 : Nat) (x1 : Int32) (d : xD) (r : Int32) (dz : xD) (hf : f_X6_readNumberLine sh q0 x1 d = some (r, dz)) : xMet l yX6_readNumberLine cX6_readNumberLine 2 (some .boolean) 3 0 0 D cid b ex sa sv B0 [.ref (b + q0), .int x1] sh d (some (.int r)) sh dz := by
  refine xMet.of (by decide) (Nat.le_of_ble_eq_true rfl) ?_
  intro p e s m below meth c ls A S hr hin G hl
  have hl : lv_has ls 2 [(0, .ref (b + q0)), (1, .int x1)] := hl
  generalize ([.ref (b + q0), .int x1] : List Value).toArray = av at S ⊢
  have hx := S.1
  have hb := S.2.1
  have hml := S.2.2.1
  have hown := S.2.2.2.1
  have hts := S.2.2.2.2.1
  have K118 : ∀ (q0 : Nat) (d : xD), k_X6_readNumberLine_118 sh q0 d = some (r, dz) → ∀ (H : Heap) (locs : List Loc) (ls : Array Slot), lv_has ls 2 [(0, .ref (b + q0))] → xG D cid b A sh d s H locs → W p l e (xRm 3 0 0) s m av below meth c H locs 0 0 (MQ below (xQ D cid b ex A (some (.int r)) sh dz) av s 0 0 A) (F0 m 118 ls []) := by
    intro q0 d hf H locs ls hl G
    unfold k_X6_readNumberLine_118 at hf
    refine lv_aload_n hx hb dX6_readNumberLine_118 rfl (lv_at hl 0 rfl) ?_
    obtain ⟨v1, hv1, hf⟩ := x_ob hf
    refine xr_getR (ci := 6) (k := 0) S G hv1 rfl kw_294 dX6_readNumberLine_119 ?_
    obtain ⟨d2, hd2, hf⟩ := x_ob hf
    obtain ⟨hqd2, hd2⟩ := xon_of hd2
    refine xr_callV (ci := 7) (As := []) (rest := []) (st1 := []) S G hl.1 (fun _ => rfl) (mt_X7_next l D cid b ex sa sv B0 sh v1 d _ hd2) hqd2 (by decide) kw_600 kw_559 kw_560 kw_5 kw_561 hd_X7_next ⟨Nat.le_of_ble_eq_true rfl, Nat.le_of_ble_eq_true rfl⟩ rfl rfl rfl (Nat.le_of_ble_eq_true rfl) ⟨Nat.le_of_ble_eq_true rfl, Nat.le_of_ble_eq_true rfl⟩ dX6_readNumberLine_122 (fun H locs G => ?_)
    refine lv_iconst (v := (1 : Int32)) hx hb dX6_readNumberLine_125 (by decide) ?_
    cases hf
    exact xr_zret S G (fun _ => rfl) hr (by decide) dX6_readNumberLine_126
  unfold f_X6_readNumberLine at hf
  refine lv_aload_n hx hb dX6_readNumberLine_0 rfl (lv_at hl 0 rfl) ?_
  refine lv_iload_n hx hb dX6_readNumberLine_1 rfl (lv_at hl 1 rfl) ?_
  obtain ⟨z3, hz3, hf⟩ := x_ob hf
  obtain ⟨hqz3, hz3⟩ := xon_of hz3
  refine xr_callV (ci := 6) (As := [.int x1]) (rest := []) (st1 := [.int z3.1]) S G hl.1 (fun _ => rfl) (mt_X6_isFirstTime l D cid b ex sa sv B0 sh q0 x1 d _ _ hz3) hqz3 (by decide) kw_660 kw_662 ks_15 kw_10 kw_663 hd_X6_isFirstTime ⟨Nat.le_of_ble_eq_true rfl, Nat.le_of_ble_eq_true rfl⟩ rfl rfl rfl (Nat.le_of_ble_eq_true rfl) ⟨Nat.le_of_ble_eq_true rfl, Nat.le_of_ble_eq_true rfl⟩ dX6_readNumberLine_2 (fun H locs G => ?_)
  refine lv_if_ne (tgt := 10) hx hb dX6_readNumberLine_5 (by decide) (fun c => ?_) (fun c => ?_)
  · have hf := x_neg c hf
    refine lv_aload_n hx hb dX6_readNumberLine_10 rfl (lv_at hl 0 rfl) ?_
    obtain ⟨v4, hv4, hf⟩ := x_ob hf
    refine xr_getR (ci := 6) (k := 0) S G hv4 rfl kw_294 dX6_readNumberLine_11 ?_
    obtain ⟨d5, hd5, hf⟩ := x_ob hf
    obtain ⟨hqd5, hd5⟩ := xon_of hd5
    refine xr_callV (ci := 7) (As := []) (rest := []) (st1 := []) S G hl.1 (fun _ => rfl) (mt_X7_next l D cid b ex sa sv B0 sh v4 z3.2 _ hd5) hqd5 (by decide) kw_600 kw_559 kw_560 kw_5 kw_561 hd_X7_next ⟨Nat.le_of_ble_eq_true rfl, Nat.le_of_ble_eq_true rfl⟩ rfl rfl rfl (Nat.le_of_ble_eq_true rfl) ⟨Nat.le_of_ble_eq_true rfl, Nat.le_of_ble_eq_true rfl⟩ dX6_readNumberLine_14 (fun H locs G => ?_)
    refine lv_iload_n hx hb dX6_readNumberLine_17 rfl (lv_at hl 1 rfl) ?_
    refine lv_iconst (v := (4 : Int32)) hx hb dX6_readNumberLine_18 (by decide) ?_
    refine lv_icmp_ne (tgt := 58) hx hb dX6_readNumberLine_19 (by decide) (fun c => ?_) (fun c => ?_)
    · have hf := x_neg c hf
      refine lv_iload_n hx hb dX6_readNumberLine_58 rfl (lv_at hl 1 rfl) ?_
      refine lv_iconst (v := (5 : Int32)) hx hb dX6_readNumberLine_59 (by decide) ?_
      refine lv_icmp_ne (tgt := 92) hx hb dX6_readNumberLine_60 (by decide) (fun c => ?_) (fun c => ?_)
      · have hf := x_neg c hf
        refine lv_aload_n hx hb dX6_readNumberLine_92 rfl (lv_at hl 0 rfl) ?_
        refine lv_iconst (v := (0 : Int32)) hx hb dX6_readNumberLine_93 (by decide) ?_
        refine lv_ldc (v := (99999 : Int32)) hx hb hown (hts _ kw_664) dX6_readNumberLine_94 ?_
        obtain ⟨z6, hz6, hf⟩ := x_ob hf
        obtain ⟨hqz6, hz6⟩ := xon_of hz6
        refine xr_callV (ci := 6) (As := [.int (0 : Int32), .int (99999 : Int32)]) (rest := []) (st1 := [.int z6.1]) S G hl.1 (fun _ => rfl) (mt_X6_isNumber l D cid b ex sa sv B0 sh q0 (0 : Int32) (99999 : Int32) d5 _ _ hz6) hqz6 (by decide) kw_601 kw_603 ks_8 kw_10 kw_604 hd_X6_isNumber ⟨Nat.le_of_ble_eq_true rfl, Nat.le_of_ble_eq_true rfl⟩ rfl rfl rfl (Nat.le_of_ble_eq_true rfl) ⟨Nat.le_of_ble_eq_true rfl, Nat.le_of_ble_eq_true rfl⟩ dX6_readNumberLine_96 (fun H locs G => ?_)
        refine lv_if_ne (tgt := 104) hx hb dX6_readNumberLine_99 (by decide) (fun c => ?_) (fun c => ?_)
        · have hf := x_neg c hf
          refine lv_aload_n hx hb dX6_readNumberLine_104 rfl (lv_at hl 0 rfl) ?_
          obtain ⟨v7, hv7, hf⟩ := x_ob hf
          refine xr_getR (ci := 6) (k := 2) S G hv7 rfl kw_296 dX6_readNumberLine_105 ?_
          refine lv_aload_n hx hb dX6_readNumberLine_108 rfl (lv_at hl 0 rfl) ?_
          obtain ⟨v8, hv8, hf⟩ := x_ob hf
          refine xr_getR (ci := 6) (k := 0) S G hv8 rfl kw_294 dX6_readNumberLine_109 ?_
          obtain ⟨v9, hv9, hf⟩ := x_ob hf
          refine xr_getI (ci := 7) (k := 2) S G hv9 rfl kw_235 dX6_readNumberLine_112 ?_
          obtain ⟨d10, hd10, hf⟩ := x_ob hf
          refine xr_putI (ci := 3) (k := 3) S G hd10 rfl kw_91 dX6_readNumberLine_115 (fun H locs G => ?_)
          exact K118 q0 d10 hf _ _ ls (lv_sub hl [0] rfl) G
        · have hf := x_pos c hf
          refine lv_iconst (v := (0 : Int32)) hx hb dX6_readNumberLine_102 (by decide) ?_
          cases hf
          exact xr_zret S G (fun _ => rfl) hr (by decide) dX6_readNumberLine_103
      · have hf := x_pos c hf
        refine lv_aload_n hx hb dX6_readNumberLine_63 rfl (lv_at hl 0 rfl) ?_
        refine lv_iconst (v := (0 : Int32)) hx hb dX6_readNumberLine_64 (by decide) ?_
        refine lv_bipush (v := (100 : Int32)) hx hb dX6_readNumberLine_65 (by decide) ?_
        obtain ⟨z11, hz11, hf⟩ := x_ob hf
        obtain ⟨hqz11, hz11⟩ := xon_of hz11
        refine xr_callV (ci := 6) (As := [.int (0 : Int32), .int (100 : Int32)]) (rest := []) (st1 := [.int z11.1]) S G hl.1 (fun _ => rfl) (mt_X6_isNumber l D cid b ex sa sv B0 sh q0 (0 : Int32) (100 : Int32) d5 _ _ hz11) hqz11 (by decide) kw_601 kw_603 ks_8 kw_10 kw_604 hd_X6_isNumber ⟨Nat.le_of_ble_eq_true rfl, Nat.le_of_ble_eq_true rfl⟩ rfl rfl rfl (Nat.le_of_ble_eq_true rfl) ⟨Nat.le_of_ble_eq_true rfl, Nat.le_of_ble_eq_true rfl⟩ dX6_readNumberLine_67 (fun H locs G => ?_)
        refine lv_if_ne (tgt := 75) hx hb dX6_readNumberLine_70 (by decide) (fun c => ?_) (fun c => ?_)
        · have hf := x_neg c hf
          refine lv_aload_n hx hb dX6_readNumberLine_75 rfl (lv_at hl 0 rfl) ?_
          obtain ⟨v12, hv12, hf⟩ := x_ob hf
          refine xr_getR (ci := 6) (k := 2) S G hv12 rfl kw_296 dX6_readNumberLine_76 ?_
          refine lv_aload_n hx hb dX6_readNumberLine_79 rfl (lv_at hl 0 rfl) ?_
          obtain ⟨v13, hv13, hf⟩ := x_ob hf
          refine xr_getR (ci := 6) (k := 0) S G hv13 rfl kw_294 dX6_readNumberLine_80 ?_
          obtain ⟨v14, hv14, hf⟩ := x_ob hf
          refine xr_getI (ci := 7) (k := 2) S G hv14 rfl kw_235 dX6_readNumberLine_83 ?_
          obtain ⟨d15, hd15, hf⟩ := x_ob hf
          refine xr_putI (ci := 3) (k := 2) S G hd15 rfl kw_86 dX6_readNumberLine_86 (fun H locs G => ?_)
          refine lv_goto (tgt := 118) hx hb dX6_readNumberLine_89 (by decide) ?_
          exact K118 q0 d15 hf _ _ ls (lv_sub hl [0] rfl) G
        · have hf := x_pos c hf
          refine lv_iconst (v := (0 : Int32)) hx hb dX6_readNumberLine_73 (by decide) ?_
          cases hf
          exact xr_zret S G (fun _ => rfl) hr (by decide) dX6_readNumberLine_74
    · have hf := x_pos c hf
      refine lv_aload_n hx hb dX6_readNumberLine_22 rfl (lv_at hl 0 rfl) ?_
      refine lv_iconst (v := (1 : Int32)) hx hb dX6_readNumberLine_23 (by decide) ?_
      refine lv_aload_n hx hb dX6_readNumberLine_24 rfl (lv_at hl 0 rfl) ?_
      obtain ⟨v16, hv16, hf⟩ := x_ob hf
      refine xr_getR (ci := 6) (k := 2) S G hv16 rfl kw_296 dX6_readNumberLine_25 ?_
      obtain ⟨v17, hv17, hf⟩ := x_ob hf
      refine xr_getI (ci := 3) (k := 0) S G hv17 rfl kw_79 dX6_readNumberLine_28 ?_
      refine lv_iconst (v := (1 : Int32)) hx hb dX6_readNumberLine_31 (by decide) ?_
      refine lv_isub hx hb dX6_readNumberLine_32 ?_
      obtain ⟨z18, hz18, hf⟩ := x_ob hf
      obtain ⟨hqz18, hz18⟩ := xon_of hz18
      refine xr_callV (ci := 6) (As := [.int (1 : Int32), .int (v17 - (1 : Int32))]) (rest := []) (st1 := [.int z18.1]) S G hl.1 (fun _ => rfl) (mt_X6_isNumber l D cid b ex sa sv B0 sh q0 (1 : Int32) (v17 - (1 : Int32)) d5 _ _ hz18) hqz18 (by decide) kw_601 kw_603 ks_8 kw_10 kw_604 hd_X6_isNumber ⟨Nat.le_of_ble_eq_true rfl, Nat.le_of_ble_eq_true rfl⟩ rfl rfl rfl (Nat.le_of_ble_eq_true rfl) ⟨Nat.le_of_ble_eq_true rfl, Nat.le_of_ble_eq_true rfl⟩ dX6_readNumberLine_33 (fun H locs G => ?_)
      refine lv_if_ne (tgt := 41) hx hb dX6_readNumberLine_36 (by decide) (fun c => ?_) (fun c => ?_)
      · have hf := x_neg c hf
        refine lv_aload_n hx hb dX6_readNumberLine_41 rfl (lv_at hl 0 rfl) ?_
        obtain ⟨v19, hv19, hf⟩ := x_ob hf
        refine xr_getR (ci := 6) (k := 2) S G hv19 rfl kw_296 dX6_readNumberLine_42 ?_
        refine lv_aload_n hx hb dX6_readNumberLine_45 rfl (lv_at hl 0 rfl) ?_
        obtain ⟨v20, hv20, hf⟩ := x_ob hf
        refine xr_getR (ci := 6) (k := 0) S G hv20 rfl kw_294 dX6_readNumberLine_46 ?_
        obtain ⟨v21, hv21, hf⟩ := x_ob hf
        refine xr_getI (ci := 7) (k := 2) S G hv21 rfl kw_235 dX6_readNumberLine_49 ?_
        obtain ⟨d22, hd22, hf⟩ := x_ob hf
        refine xr_putI (ci := 3) (k := 1) S G hd22 rfl kw_84 dX6_readNumberLine_52 (fun H locs G => ?_)
        refine lv_goto (tgt := 118) hx hb dX6_readNumberLine_55 (by decide) ?_
        exact K118 q0 d22 hf _ _ ls (lv_sub hl [0] rfl) G
      · have hf := x_pos c hf
        refine lv_iconst (v := (0 : Int32)) hx hb dX6_readNumberLine_39 (by decide) ?_
        cases hf
        exact xr_zret S G (fun _ => rfl) hr (by decide) dX6_readNumberLine_40
  · have hf := x_pos c hf
    refine lv_iconst (v := (0 : Int32)) hx hb dX6_readNumberLine_8 (by decide) ?_
    cases hf
    exact xr_zret S G (fun _ => rfl) hr (by decide) dX6_readNumberLine_9
-- HalfLandings$TextReader.readLaw()Z
theorem dX6_readLaw_0 : decode cX6_readLaw 0 = .ok (.aload_n 0, 1) := by decide +kernel
theorem dX6_readLaw_1 : decode cX6_readLaw 1 = .ok (.getfield 15, 3) := by decide +kernel
theorem dX6_readLaw_4 : decode cX6_readLaw 4 = .ok (.invokevirtual 49, 3) := by decide +kernel
theorem dX6_readLaw_7 : decode cX6_readLaw 7 = .ok (.aload_n 0, 1) := by decide +kernel
theorem dX6_readLaw_8 : decode cX6_readLaw 8 = .ok (.getfield 15, 3) := by decide +kernel
theorem dX6_readLaw_11 : decode cX6_readLaw 11 = .ok (.getfield 38, 3) := by decide +kernel
theorem dX6_readLaw_14 : decode cX6_readLaw 14 = .ok (.istore_n 1, 1) := by decide +kernel
theorem dX6_readLaw_15 : decode cX6_readLaw 15 = .ok (.iload_n 1, 1) := by decide +kernel
theorem dX6_readLaw_16 : decode cX6_readLaw 16 = .ok (.bipush 8, 2) := by decide +kernel
theorem dX6_readLaw_18 : decode cX6_readLaw 18 = .ok (.if_icmp .lt 9, 3) := by decide +kernel
theorem dX6_readLaw_21 : decode cX6_readLaw 21 = .ok (.iload_n 1, 1) := by decide +kernel
theorem dX6_readLaw_22 : decode cX6_readLaw 22 = .ok (.bipush 10, 2) := by decide +kernel
theorem dX6_readLaw_24 : decode cX6_readLaw 24 = .ok (.if_icmp .le 12, 3) := by decide +kernel
theorem dX6_readLaw_27 : decode cX6_readLaw 27 = .ok (.aload_n 0, 1) := by decide +kernel
theorem dX6_readLaw_28 : decode cX6_readLaw 28 = .ok (.getfield 15, 3) := by decide +kernel
theorem dX6_readLaw_31 : decode cX6_readLaw 31 = .ok (.iconst 1, 1) := by decide +kernel
theorem dX6_readLaw_32 : decode cX6_readLaw 32 = .ok (.invokevirtual 45, 3) := by decide +kernel
theorem dX6_readLaw_35 : decode cX6_readLaw 35 = .ok (.ireturn, 1) := by decide +kernel
theorem dX6_readLaw_36 : decode cX6_readLaw 36 = .ok (.aload_n 0, 1) := by decide +kernel
theorem dX6_readLaw_37 : decode cX6_readLaw 37 = .ok (.iload_n 1, 1) := by decide +kernel
theorem dX6_readLaw_38 : decode cX6_readLaw 38 = .ok (.invokevirtual 119, 3) := by decide +kernel
theorem dX6_readLaw_41 : decode cX6_readLaw 41 = .ok (.ifCond .ne 5, 3) := by decide +kernel
theorem dX6_readLaw_44 : decode cX6_readLaw 44 = .ok (.iconst 0, 1) := by decide +kernel
theorem dX6_readLaw_45 : decode cX6_readLaw 45 = .ok (.ireturn, 1) := by decide +kernel
theorem dX6_readLaw_46 : decode cX6_readLaw 46 = .ok (.aload_n 0, 1) := by decide +kernel
theorem dX6_readLaw_47 : decode cX6_readLaw 47 = .ok (.getfield 15, 3) := by decide +kernel
theorem dX6_readLaw_50 : decode cX6_readLaw 50 = .ok (.invokevirtual 49, 3) := by decide +kernel
theorem dX6_readLaw_53 : decode cX6_readLaw 53 = .ok (.iload_n 1, 1) := by decide +kernel
theorem dX6_readLaw_54 : decode cX6_readLaw 54 = .ok (.bipush 8, 2) := by decide +kernel
theorem dX6_readLaw_56 : decode cX6_readLaw 56 = .ok (.isub, 1) := by decide +kernel
theorem dX6_readLaw_57 : decode cX6_readLaw 57 = .ok (.istore_n 2, 1) := by decide +kernel
theorem dX6_readLaw_58 : decode cX6_readLaw 58 = .ok (.aload_n 0, 1) := by decide +kernel
theorem dX6_readLaw_59 : decode cX6_readLaw 59 = .ok (.getfield 19, 3) := by decide +kernel
theorem dX6_readLaw_62 : decode cX6_readLaw 62 = .ok (.getfield 132, 3) := by decide +kernel
theorem dX6_readLaw_65 : decode cX6_readLaw 65 = .ok (.iload_n 2, 1) := by decide +kernel
theorem dX6_readLaw_66 : decode cX6_readLaw 66 = .ok (.invokevirtual 136, 3) := by decide +kernel
theorem dX6_readLaw_69 : decode cX6_readLaw 69 = .ok (.aload_n 0, 1) := by decide +kernel
theorem dX6_readLaw_70 : decode cX6_readLaw 70 = .ok (.getfield 28, 3) := by decide +kernel
theorem dX6_readLaw_73 : decode cX6_readLaw 73 = .ok (.aload_n 0, 1) := by decide +kernel
theorem dX6_readLaw_74 : decode cX6_readLaw 74 = .ok (.getfield 19, 3) := by decide +kernel
theorem dX6_readLaw_77 : decode cX6_readLaw 77 = .ok (.getfield 132, 3) := by decide +kernel
theorem dX6_readLaw_80 : decode cX6_readLaw 80 = .ok (.invokevirtual 141, 3) := by decide +kernel
theorem dX6_readLaw_83 : decode cX6_readLaw 83 = .ok (.ifCond .ne 5, 3) := by decide +kernel
theorem dX6_readLaw_86 : decode cX6_readLaw 86 = .ok (.iconst 0, 1) := by decide +kernel
theorem dX6_readLaw_87 : decode cX6_readLaw 87 = .ok (.ireturn, 1) := by decide +kernel
theorem dX6_readLaw_88 : decode cX6_readLaw 88 = .ok (.aload_n 0, 1) := by decide +kernel
theorem dX6_readLaw_89 : decode cX6_readLaw 89 = .ok (.getfield 19, 3) := by decide +kernel
theorem dX6_readLaw_92 : decode cX6_readLaw 92 = .ok (.getfield 132, 3) := by decide +kernel
theorem dX6_readLaw_95 : decode cX6_readLaw 95 = .ok (.iload_n 2, 1) := by decide +kernel
theorem dX6_readLaw_96 : decode cX6_readLaw 96 = .ok (.invokevirtual 145, 3) := by decide +kernel
theorem dX6_readLaw_99 : decode cX6_readLaw 99 = .ok (.iconst 1, 1) := by decide +kernel
theorem dX6_readLaw_100 : decode cX6_readLaw 100 = .ok (.ireturn, 1) := by decide +kernel
theorem hd_X6_readLaw : yX6_readLaw.cls = xCn 6 ∧ yX6_readLaw.cls ≠ "java/lang/invoke/MethodHandle" ∧ yX6_readLaw.cls ≠ "java/lang/invoke/VarHandle" ∧ (parseMethodDescriptor yX6_readLaw.desc).map (fun d => d.parameters.length) = some 0 := by decide +kernel
def k_X6_readLaw_27 (sh : List xSh) (q0 : Nat) (d : xD) : Option (Int32 × xD) :=
  (xgR 6 sh d q0 0).bind fun v1 => (xon 7 sh v1 (f_X7_refuse sh v1 (1 : Int32) d)).bind fun z2 => (xz z2.1).bind fun v3 => some (v3, z2.2)
def f_X6_readLaw (sh : List xSh) (q0 : Nat) (d : xD) : Option (Int32 × xD) :=
  (xgR 6 sh d q0 0).bind fun v4 => (xon 7 sh v4 (f_X7_next sh v4 d)).bind fun d5 => (xgR 6 sh d5 q0 0).bind fun v6 => (xgI 7 sh d5 v6 0).bind fun v7 => if v7 < (8 : Int32) then (k_X6_readLaw_27 sh q0 d5) else (if v7 ≤ (10 : Int32) then ((xon 6 sh q0 (f_X6_isFirstTime sh q0 v7 d5)).bind fun z8 => if z8.1 = 0 then (some ((0 : Int32), z8.2)) else ((xgR 6 sh z8.2 q0 0).bind fun v9 => (xon 7 sh v9 (f_X7_next sh v9 z8.2)).bind fun d10 => (xgR 6 sh d10 q0 2).bind fun v11 => (xgR 3 sh d10 v11 19).bind fun v12 => (xon 1 sh v12 (f_X1_open sh v12 (v7 - (8 : Int32)) d10)).bind fun d13 => (xgR 6 sh d13 q0 1).bind fun v14 => (xgR 6 sh d13 q0 2).bind fun v15 => (xgR 3 sh d13 v15 19).bind fun v16 => (xon 0 sh v14 (f_X0_read sh v14 v16 d13)).bind fun z17 => if z17.1 = 0 then (some ((0 : Int32), z17.2)) else ((xgR 6 sh z17.2 q0 2).bind fun v18 => (xgR 3 sh z17.2 v18 19).bind fun v19 => (xon 1 sh v19 (f_X1_close sh v19 (v7 - (8 : Int32)) z17.2)).bind fun d20 => some ((1 : Int32), d20)))) else (k_X6_readLaw_27 sh q0 d5))
set_option maxHeartbeats 4000000 in
set_option maxRecDepth 100000 in
theorem mt_X6_readLaw (l : Launch) (D : va_G) (cid : FieldType → ClassId) (b : Nat) (ex : Bool) (sa sv B0 : Nat) (sh : List xSh) (q0 : Nat) (d : xD) (r : Int32) (dz : xD) (hf : f_X6_readLaw sh q0 d = some (r, dz)) : xMet l yX6_readLaw cX6_readLaw 3 (some .boolean) 4 0 0 D cid b ex sa sv B0 [.ref (b + q0)] sh d (some (.int r)) sh dz := by
  refine xMet.of (by decide) (Nat.le_of_ble_eq_true rfl) ?_
  intro p e s m below meth c ls A S hr hin G hl
  have hl : lv_has ls 3 [(0, .ref (b + q0))] := hl
  generalize ([.ref (b + q0)] : List Value).toArray = av at S ⊢
  have hx := S.1
  have hb := S.2.1
  have hml := S.2.2.1
  have hown := S.2.2.2.1
  have hts := S.2.2.2.2.1
  have K27 : ∀ (q0 : Nat) (d : xD), k_X6_readLaw_27 sh q0 d = some (r, dz) → ∀ (H : Heap) (locs : List Loc) (ls : Array Slot), lv_has ls 3 [(0, .ref (b + q0))] → xG D cid b A sh d s H locs → W p l e (xRm 4 0 0) s m av below meth c H locs 0 0 (MQ below (xQ D cid b ex A (some (.int r)) sh dz) av s 0 0 A) (F0 m 27 ls []) := by
    intro q0 d hf H locs ls hl G
    unfold k_X6_readLaw_27 at hf
    refine lv_aload_n hx hb dX6_readLaw_27 rfl (lv_at hl 0 rfl) ?_
    obtain ⟨v1, hv1, hf⟩ := x_ob hf
    refine xr_getR (ci := 6) (k := 0) S G hv1 rfl kw_294 dX6_readLaw_28 ?_
    refine lv_iconst (v := (1 : Int32)) hx hb dX6_readLaw_31 (by decide) ?_
    obtain ⟨z2, hz2, hf⟩ := x_ob hf
    obtain ⟨hqz2, hz2⟩ := xon_of hz2
    refine xr_callV (ci := 7) (As := [.int (1 : Int32)]) (rest := []) (st1 := [.int z2.1]) S G hl.1 (fun _ => rfl) (mt_X7_refuse l D cid b ex sa sv B0 sh v1 (1 : Int32) d _ _ hz2) hqz2 (by decide) kw_605 kw_606 kw_607 kw_5 kw_608 hd_X7_refuse ⟨Nat.le_of_ble_eq_true rfl, Nat.le_of_ble_eq_true rfl⟩ rfl rfl rfl (Nat.le_of_ble_eq_true rfl) ⟨Nat.le_of_ble_eq_true rfl, Nat.le_of_ble_eq_true rfl⟩ dX6_readLaw_32 (fun H locs G => ?_)
    obtain ⟨v3, hv3, hf⟩ := x_ob hf
    cases hf
    exact xr_zret S G (fun _ => rfl) hr hv3 dX6_readLaw_35
  unfold f_X6_readLaw at hf
  refine lv_aload_n hx hb dX6_readLaw_0 rfl (lv_at hl 0 rfl) ?_
  obtain ⟨v4, hv4, hf⟩ := x_ob hf
  refine xr_getR (ci := 6) (k := 0) S G hv4 rfl kw_294 dX6_readLaw_1 ?_
  obtain ⟨d5, hd5, hf⟩ := x_ob hf
  obtain ⟨hqd5, hd5⟩ := xon_of hd5
  refine xr_callV (ci := 7) (As := []) (rest := []) (st1 := []) S G hl.1 (fun _ => rfl) (mt_X7_next l D cid b ex sa sv B0 sh v4 d _ hd5) hqd5 (by decide) kw_600 kw_559 kw_560 kw_5 kw_561 hd_X7_next ⟨Nat.le_of_ble_eq_true rfl, Nat.le_of_ble_eq_true rfl⟩ rfl rfl rfl (Nat.le_of_ble_eq_true rfl) ⟨Nat.le_of_ble_eq_true rfl, Nat.le_of_ble_eq_true rfl⟩ dX6_readLaw_4 (fun H locs G => ?_)
  refine lv_aload_n hx hb dX6_readLaw_7 rfl (lv_at hl 0 rfl) ?_
  obtain ⟨v6, hv6, hf⟩ := x_ob hf
  refine xr_getR (ci := 6) (k := 0) S G hv6 rfl kw_294 dX6_readLaw_8 ?_
  obtain ⟨v7, hv7, hf⟩ := x_ob hf
  refine xr_getI (ci := 7) (k := 0) S G hv7 rfl kw_230 dX6_readLaw_11 ?_
  refine lv_istore_n (lv' := [(1, .int v7), (0, .ref (b + q0))]) hx hb dX6_readLaw_14 rfl hl (by decide) rfl (fun ls hl => ?_)
  refine lv_iload_n hx hb dX6_readLaw_15 rfl (lv_at hl 0 rfl) ?_
  refine lv_bipush (v := (8 : Int32)) hx hb dX6_readLaw_16 (by decide) ?_
  refine lv_icmp_lt (tgt := 27) hx hb dX6_readLaw_18 (by decide) (fun c => ?_) (fun c => ?_)
  · have hf := x_pos c hf
    exact K27 q0 d5 hf _ _ ls (lv_sub hl [1] rfl) G
  · have hf := x_neg c hf
    refine lv_iload_n hx hb dX6_readLaw_21 rfl (lv_at hl 0 rfl) ?_
    refine lv_bipush (v := (10 : Int32)) hx hb dX6_readLaw_22 (by decide) ?_
    refine lv_icmp_le (tgt := 36) hx hb dX6_readLaw_24 (by decide) (fun c => ?_) (fun c => ?_)
    · have hf := x_pos c hf
      refine lv_aload_n hx hb dX6_readLaw_36 rfl (lv_at hl 1 rfl) ?_
      refine lv_iload_n hx hb dX6_readLaw_37 rfl (lv_at hl 0 rfl) ?_
      obtain ⟨z8, hz8, hf⟩ := x_ob hf
      obtain ⟨hqz8, hz8⟩ := xon_of hz8
      refine xr_callV (ci := 6) (As := [.int v7]) (rest := []) (st1 := [.int z8.1]) S G hl.1 (fun _ => rfl) (mt_X6_isFirstTime l D cid b ex sa sv B0 sh q0 v7 d5 _ _ hz8) hqz8 (by decide) kw_660 kw_662 ks_15 kw_10 kw_663 hd_X6_isFirstTime ⟨Nat.le_of_ble_eq_true rfl, Nat.le_of_ble_eq_true rfl⟩ rfl rfl rfl (Nat.le_of_ble_eq_true rfl) ⟨Nat.le_of_ble_eq_true rfl, Nat.le_of_ble_eq_true rfl⟩ dX6_readLaw_38 (fun H locs G => ?_)
      refine lv_if_ne (tgt := 46) hx hb dX6_readLaw_41 (by decide) (fun c => ?_) (fun c => ?_)
      · have hf := x_neg c hf
        refine lv_aload_n hx hb dX6_readLaw_46 rfl (lv_at hl 1 rfl) ?_
        obtain ⟨v9, hv9, hf⟩ := x_ob hf
        refine xr_getR (ci := 6) (k := 0) S G hv9 rfl kw_294 dX6_readLaw_47 ?_
        obtain ⟨d10, hd10, hf⟩ := x_ob hf
        obtain ⟨hqd10, hd10⟩ := xon_of hd10
        refine xr_callV (ci := 7) (As := []) (rest := []) (st1 := []) S G hl.1 (fun _ => rfl) (mt_X7_next l D cid b ex sa sv B0 sh v9 z8.2 _ hd10) hqd10 (by decide) kw_600 kw_559 kw_560 kw_5 kw_561 hd_X7_next ⟨Nat.le_of_ble_eq_true rfl, Nat.le_of_ble_eq_true rfl⟩ rfl rfl rfl (Nat.le_of_ble_eq_true rfl) ⟨Nat.le_of_ble_eq_true rfl, Nat.le_of_ble_eq_true rfl⟩ dX6_readLaw_50 (fun H locs G => ?_)
        refine lv_iload_n hx hb dX6_readLaw_53 rfl (lv_at hl 0 rfl) ?_
        refine lv_bipush (v := (8 : Int32)) hx hb dX6_readLaw_54 (by decide) ?_
        refine lv_isub hx hb dX6_readLaw_56 ?_
        refine lv_istore_n (lv' := [(2, .int (v7 - (8 : Int32))), (1, .int v7), (0, .ref (b + q0))]) hx hb dX6_readLaw_57 rfl hl (by decide) rfl (fun ls hl => ?_)
        refine lv_aload_n hx hb dX6_readLaw_58 rfl (lv_at hl 2 rfl) ?_
        obtain ⟨v11, hv11, hf⟩ := x_ob hf
        refine xr_getR (ci := 6) (k := 2) S G hv11 rfl kw_296 dX6_readLaw_59 ?_
        obtain ⟨v12, hv12, hf⟩ := x_ob hf
        refine xr_getR (ci := 3) (k := 19) S G hv12 rfl kw_127 dX6_readLaw_62 ?_
        refine lv_iload_n hx hb dX6_readLaw_65 rfl (lv_at hl 0 rfl) ?_
        obtain ⟨d13, hd13, hf⟩ := x_ob hf
        obtain ⟨hqd13, hd13⟩ := xon_of hd13
        refine xr_callV (ci := 1) (As := [.int (v7 - (8 : Int32))]) (rest := []) (st1 := []) S G hl.1 (fun _ => rfl) (mt_X1_open l D cid b ex sa sv B0 sh v12 (v7 - (8 : Int32)) d10 _ hd13) hqd13 (by decide) kw_669 kw_670 kw_671 kw_3 kw_672 hd_X1_open ⟨Nat.le_of_ble_eq_true rfl, Nat.le_of_ble_eq_true rfl⟩ rfl rfl rfl (Nat.le_of_ble_eq_true rfl) ⟨Nat.le_of_ble_eq_true rfl, Nat.le_of_ble_eq_true rfl⟩ dX6_readLaw_66 (fun H locs G => ?_)
        refine lv_aload_n hx hb dX6_readLaw_69 rfl (lv_at hl 2 rfl) ?_
        obtain ⟨v14, hv14, hf⟩ := x_ob hf
        refine xr_getR (ci := 6) (k := 1) S G hv14 rfl kw_295 dX6_readLaw_70 ?_
        refine lv_aload_n hx hb dX6_readLaw_73 rfl (lv_at hl 2 rfl) ?_
        obtain ⟨v15, hv15, hf⟩ := x_ob hf
        refine xr_getR (ci := 6) (k := 2) S G hv15 rfl kw_296 dX6_readLaw_74 ?_
        obtain ⟨v16, hv16, hf⟩ := x_ob hf
        refine xr_getR (ci := 3) (k := 19) S G hv16 rfl kw_127 dX6_readLaw_77 ?_
        obtain ⟨z17, hz17, hf⟩ := x_ob hf
        obtain ⟨hqz17, hz17⟩ := xon_of hz17
        refine xr_callV (ci := 0) (As := [.ref (b + v16)]) (rest := []) (st1 := [.int z17.1]) S G hl.1 (fun _ => rfl) (mt_X0_read l D cid b ex sa sv B0 sh v14 v16 d13 _ _ hz17) hqz17 (by decide) kw_673 kw_674 kw_675 kw_11 kw_676 hd_X0_read ⟨Nat.le_of_ble_eq_true rfl, Nat.le_of_ble_eq_true rfl⟩ rfl rfl rfl (Nat.le_of_ble_eq_true rfl) ⟨Nat.le_of_ble_eq_true rfl, Nat.le_of_ble_eq_true rfl⟩ dX6_readLaw_80 (fun H locs G => ?_)
        refine lv_if_ne (tgt := 88) hx hb dX6_readLaw_83 (by decide) (fun c => ?_) (fun c => ?_)
        · have hf := x_neg c hf
          refine lv_aload_n hx hb dX6_readLaw_88 rfl (lv_at hl 2 rfl) ?_
          obtain ⟨v18, hv18, hf⟩ := x_ob hf
          refine xr_getR (ci := 6) (k := 2) S G hv18 rfl kw_296 dX6_readLaw_89 ?_
          obtain ⟨v19, hv19, hf⟩ := x_ob hf
          refine xr_getR (ci := 3) (k := 19) S G hv19 rfl kw_127 dX6_readLaw_92 ?_
          refine lv_iload_n hx hb dX6_readLaw_95 rfl (lv_at hl 0 rfl) ?_
          obtain ⟨d20, hd20, hf⟩ := x_ob hf
          obtain ⟨hqd20, hd20⟩ := xon_of hd20
          refine xr_callV (ci := 1) (As := [.int (v7 - (8 : Int32))]) (rest := []) (st1 := []) S G hl.1 (fun _ => rfl) (mt_X1_close l D cid b ex sa sv B0 sh v19 (v7 - (8 : Int32)) z17.2 _ hd20) hqd20 (by decide) kw_706 kw_707 kw_708 kw_3 kw_709 hd_X1_close ⟨Nat.le_of_ble_eq_true rfl, Nat.le_of_ble_eq_true rfl⟩ rfl rfl rfl (Nat.le_of_ble_eq_true rfl) ⟨Nat.le_of_ble_eq_true rfl, Nat.le_of_ble_eq_true rfl⟩ dX6_readLaw_96 (fun H locs G => ?_)
          refine lv_iconst (v := (1 : Int32)) hx hb dX6_readLaw_99 (by decide) ?_
          cases hf
          exact xr_zret S G (fun _ => rfl) hr (by decide) dX6_readLaw_100
        · have hf := x_pos c hf
          refine lv_iconst (v := (0 : Int32)) hx hb dX6_readLaw_86 (by decide) ?_
          cases hf
          exact xr_zret S G (fun _ => rfl) hr (by decide) dX6_readLaw_87
      · have hf := x_pos c hf
        refine lv_iconst (v := (0 : Int32)) hx hb dX6_readLaw_44 (by decide) ?_
        cases hf
        exact xr_zret S G (fun _ => rfl) hr (by decide) dX6_readLaw_45
    · have hf := x_neg c hf
      exact K27 q0 d5 hf _ _ ls (lv_sub hl [1] rfl) G
-- HalfLandings$TextReader.readLine(Z)Z
theorem dX6_readLine_0 : decode cX6_readLine 0 = .ok (.aload_n 0, 1) := by decide +kernel
theorem dX6_readLine_1 : decode cX6_readLine 1 = .ok (.getfield 15, 3) := by decide +kernel
theorem dX6_readLine_4 : decode cX6_readLine 4 = .ok (.getfield 38, 3) := by decide +kernel
theorem dX6_readLine_7 : decode cX6_readLine 7 = .ok (.tableswitch 97 0 7 #[45, 65, 70, 75, 80, 80, 80, 92], 45) := by decide +kernel
theorem dX6_readLine_52 : decode cX6_readLine 52 = .ok (.iload_n 1, 1) := by decide +kernel
theorem dX6_readLine_53 : decode cX6_readLine 53 = .ok (.ifCond .eq 10, 3) := by decide +kernel
theorem dX6_readLine_56 : decode cX6_readLine 56 = .ok (.aload_n 0, 1) := by decide +kernel
theorem dX6_readLine_57 : decode cX6_readLine 57 = .ok (.invokevirtual 52, 3) := by decide +kernel
theorem dX6_readLine_60 : decode cX6_readLine 60 = .ok (.goto 11, 3) := by decide +kernel
theorem dX6_readLine_63 : decode cX6_readLine 63 = .ok (.aload_n 0, 1) := by decide +kernel
theorem dX6_readLine_64 : decode cX6_readLine 64 = .ok (.getfield 15, 3) := by decide +kernel
theorem dX6_readLine_67 : decode cX6_readLine 67 = .ok (.iconst 1, 1) := by decide +kernel
theorem dX6_readLine_68 : decode cX6_readLine 68 = .ok (.invokevirtual 45, 3) := by decide +kernel
theorem dX6_readLine_71 : decode cX6_readLine 71 = .ok (.ireturn, 1) := by decide +kernel
theorem dX6_readLine_72 : decode cX6_readLine 72 = .ok (.aload_n 0, 1) := by decide +kernel
theorem dX6_readLine_73 : decode cX6_readLine 73 = .ok (.invokevirtual 56, 3) := by decide +kernel
theorem dX6_readLine_76 : decode cX6_readLine 76 = .ok (.ireturn, 1) := by decide +kernel
theorem dX6_readLine_77 : decode cX6_readLine 77 = .ok (.aload_n 0, 1) := by decide +kernel
theorem dX6_readLine_78 : decode cX6_readLine 78 = .ok (.invokevirtual 59, 3) := by decide +kernel
theorem dX6_readLine_81 : decode cX6_readLine 81 = .ok (.ireturn, 1) := by decide +kernel
theorem dX6_readLine_82 : decode cX6_readLine 82 = .ok (.aload_n 0, 1) := by decide +kernel
theorem dX6_readLine_83 : decode cX6_readLine 83 = .ok (.invokevirtual 62, 3) := by decide +kernel
theorem dX6_readLine_86 : decode cX6_readLine 86 = .ok (.ireturn, 1) := by decide +kernel
theorem dX6_readLine_87 : decode cX6_readLine 87 = .ok (.aload_n 0, 1) := by decide +kernel
theorem dX6_readLine_88 : decode cX6_readLine 88 = .ok (.aload_n 0, 1) := by decide +kernel
theorem dX6_readLine_89 : decode cX6_readLine 89 = .ok (.getfield 15, 3) := by decide +kernel
theorem dX6_readLine_92 : decode cX6_readLine 92 = .ok (.getfield 38, 3) := by decide +kernel
theorem dX6_readLine_95 : decode cX6_readLine 95 = .ok (.invokevirtual 65, 3) := by decide +kernel
theorem dX6_readLine_98 : decode cX6_readLine 98 = .ok (.ireturn, 1) := by decide +kernel
theorem dX6_readLine_99 : decode cX6_readLine 99 = .ok (.aload_n 0, 1) := by decide +kernel
theorem dX6_readLine_100 : decode cX6_readLine 100 = .ok (.invokevirtual 68, 3) := by decide +kernel
theorem dX6_readLine_103 : decode cX6_readLine 103 = .ok (.ireturn, 1) := by decide +kernel
theorem dX6_readLine_104 : decode cX6_readLine 104 = .ok (.aload_n 0, 1) := by decide +kernel
theorem dX6_readLine_105 : decode cX6_readLine 105 = .ok (.getfield 15, 3) := by decide +kernel
theorem dX6_readLine_108 : decode cX6_readLine 108 = .ok (.iconst 1, 1) := by decide +kernel
theorem dX6_readLine_109 : decode cX6_readLine 109 = .ok (.invokevirtual 45, 3) := by decide +kernel
theorem dX6_readLine_112 : decode cX6_readLine 112 = .ok (.ireturn, 1) := by decide +kernel
theorem hd_X6_readLine : yX6_readLine.cls = xCn 6 ∧ yX6_readLine.cls ≠ "java/lang/invoke/MethodHandle" ∧ yX6_readLine.cls ≠ "java/lang/invoke/VarHandle" ∧ (parseMethodDescriptor yX6_readLine.desc).map (fun d => d.parameters.length) = some 1 := by decide +kernel
def k_X6_readLine_71 (sh : List xSh) (y0 : Int32) (d : xD) : Option (Int32 × xD) :=
  (xz y0).bind fun v1 => some (v1, d)
def f_X6_readLine (sh : List xSh) (q0 : Nat) (x1 : Int32) (d : xD) : Option (Int32 × xD) :=
  (xgR 6 sh d q0 0).bind fun v2 => (xgI 7 sh d v2 0).bind fun v3 => if v3 = (0 : Int32) then (if x1 = 0 then ((xgR 6 sh d q0 0).bind fun v5 => (xon 7 sh v5 (f_X7_refuse sh v5 (1 : Int32) d)).bind fun z6 => k_X6_readLine_71 sh z6.1 z6.2) else ((xon 6 sh q0 (f_X6_readStair sh q0 d)).bind fun z7 => k_X6_readLine_71 sh z7.1 z7.2)) else (if v3 = (1 : Int32) then ((xon 6 sh q0 (f_X6_readBench sh q0 d)).bind fun z9 => (xz z9.1).bind fun v10 => some (v10, z9.2)) else (if v3 = (2 : Int32) then ((xon 6 sh q0 (f_X6_readWalker sh q0 d)).bind fun z12 => (xz z12.1).bind fun v13 => some (v13, z12.2)) else (if v3 = (3 : Int32) then ((xon 6 sh q0 (f_X6_readRest sh q0 d)).bind fun z15 => (xz z15.1).bind fun v16 => some (v16, z15.2)) else (if v3 = (4 : Int32) then ((xgR 6 sh d q0 0).bind fun v18 => (xgI 7 sh d v18 0).bind fun v19 => (xon 6 sh q0 (f_X6_readNumberLine sh q0 v19 d)).bind fun z20 => (xz z20.1).bind fun v21 => some (v21, z20.2)) else (if v3 = (5 : Int32) then ((xgR 6 sh d q0 0).bind fun v23 => (xgI 7 sh d v23 0).bind fun v24 => (xon 6 sh q0 (f_X6_readNumberLine sh q0 v24 d)).bind fun z25 => (xz z25.1).bind fun v26 => some (v26, z25.2)) else (if v3 = (6 : Int32) then ((xgR 6 sh d q0 0).bind fun v28 => (xgI 7 sh d v28 0).bind fun v29 => (xon 6 sh q0 (f_X6_readNumberLine sh q0 v29 d)).bind fun z30 => (xz z30.1).bind fun v31 => some (v31, z30.2)) else (if v3 = (7 : Int32) then ((xon 6 sh q0 (f_X6_readLaw sh q0 d)).bind fun z33 => (xz z33.1).bind fun v34 => some (v34, z33.2)) else ((xgR 6 sh d q0 0).bind fun v35 => (xon 7 sh v35 (f_X7_refuse sh v35 (1 : Int32) d)).bind fun z36 => (xz z36.1).bind fun v37 => some (v37, z36.2)))))))))
set_option maxHeartbeats 4000000 in
set_option maxRecDepth 100000 in
theorem mt_X6_readLine (l : Launch) (D : va_G) (cid : FieldType → ClassId) (b : Nat) (ex : Bool) (sa sv B0 : Nat) (sh : List xSh) (q0 : Nat) (x1 : Int32) (d : xD) (r : Int32) (dz : xD) (hf : f_X6_readLine sh q0 x1 d = some (r, dz)) : xMet l yX6_readLine cX6_readLine 2 (some .boolean) 5 0 0 D cid b ex sa sv B0 [.ref (b + q0), .int x1] sh d (some (.int r)) sh dz := by
  refine xMet.of (by decide) (Nat.le_of_ble_eq_true rfl) ?_
  intro p e s m below meth c ls A S hr hin G hl
  have hl : lv_has ls 2 [(0, .ref (b + q0)), (1, .int x1)] := hl
  generalize ([.ref (b + q0), .int x1] : List Value).toArray = av at S ⊢
  have hx := S.1
  have hb := S.2.1
  have hml := S.2.2.1
  have hown := S.2.2.2.1
  have hts := S.2.2.2.2.1
  have K71 : ∀ (y0 : Int32) (d : xD), k_X6_readLine_71 sh y0 d = some (r, dz) → ∀ (H : Heap) (locs : List Loc) (ls : Array Slot), lv_has ls 2 [] → xG D cid b A sh d s H locs → W p l e (xRm 5 0 0) s m av below meth c H locs 0 0 (MQ below (xQ D cid b ex A (some (.int r)) sh dz) av s 0 0 A) (F0 m 71 ls [.int y0]) := by
    intro y0 d hf H locs ls hl G
    unfold k_X6_readLine_71 at hf
    obtain ⟨v1, hv1, hf⟩ := x_ob hf
    cases hf
    exact xr_zret S G (fun _ => rfl) hr hv1 dX6_readLine_71
  unfold f_X6_readLine at hf
  refine lv_aload_n hx hb dX6_readLine_0 rfl (lv_at hl 0 rfl) ?_
  obtain ⟨v2, hv2, hf⟩ := x_ob hf
  refine xr_getR (ci := 6) (k := 0) S G hv2 rfl kw_294 dX6_readLine_1 ?_
  obtain ⟨v3, hv3, hf⟩ := x_ob hf
  refine xr_getI (ci := 7) (k := 0) S G hv3 rfl kw_230 dX6_readLine_4 ?_
  by_cases c4 : v3 = (0 : Int32)
  · have hf := x_pos c4 hf
    refine xr_tab (k := (0 : Int32)) (tgt := 52) hx hb c4 dX6_readLine_7 (by decide) (by decide) rfl (by decide) ?_
    refine lv_iload_n hx hb dX6_readLine_52 rfl (lv_at hl 1 rfl) ?_
    refine lv_if_eq (tgt := 63) hx hb dX6_readLine_53 (by decide) (fun c => ?_) (fun c => ?_)
    · have hf := x_pos c hf
      refine lv_aload_n hx hb dX6_readLine_63 rfl (lv_at hl 0 rfl) ?_
      obtain ⟨v5, hv5, hf⟩ := x_ob hf
      refine xr_getR (ci := 6) (k := 0) S G hv5 rfl kw_294 dX6_readLine_64 ?_
      refine lv_iconst (v := (1 : Int32)) hx hb dX6_readLine_67 (by decide) ?_
      obtain ⟨z6, hz6, hf⟩ := x_ob hf
      obtain ⟨hqz6, hz6⟩ := xon_of hz6
      refine xr_callV (ci := 7) (As := [.int (1 : Int32)]) (rest := []) (st1 := [.int z6.1]) S G hl.1 (fun _ => rfl) (mt_X7_refuse l D cid b ex sa sv B0 sh v5 (1 : Int32) d _ _ hz6) hqz6 (by decide) kw_605 kw_606 kw_607 kw_5 kw_608 hd_X7_refuse ⟨Nat.le_of_ble_eq_true rfl, Nat.le_of_ble_eq_true rfl⟩ rfl rfl rfl (Nat.le_of_ble_eq_true rfl) ⟨Nat.le_of_ble_eq_true rfl, Nat.le_of_ble_eq_true rfl⟩ dX6_readLine_68 (fun H locs G => ?_)
      exact K71 z6.1 z6.2 hf _ _ ls (lv_sub hl [] rfl) G
    · have hf := x_neg c hf
      refine lv_aload_n hx hb dX6_readLine_56 rfl (lv_at hl 0 rfl) ?_
      obtain ⟨z7, hz7, hf⟩ := x_ob hf
      obtain ⟨hqz7, hz7⟩ := xon_of hz7
      refine xr_callV (ci := 6) (As := []) (rest := []) (st1 := [.int z7.1]) S G hl.1 (fun _ => rfl) (mt_X6_readStair l D cid b ex sa sv B0 sh q0 d _ _ hz7) hqz7 (by decide) kw_596 kw_598 ks_7 kw_10 kw_599 hd_X6_readStair ⟨Nat.le_of_ble_eq_true rfl, Nat.le_of_ble_eq_true rfl⟩ rfl rfl rfl (Nat.le_of_ble_eq_true rfl) ⟨Nat.le_of_ble_eq_true rfl, Nat.le_of_ble_eq_true rfl⟩ dX6_readLine_57 (fun H locs G => ?_)
      refine lv_goto (tgt := 71) hx hb dX6_readLine_60 (by decide) ?_
      exact K71 z7.1 z7.2 hf _ _ ls (lv_sub hl [] rfl) G
  · have hf := x_neg c4 hf
    by_cases c8 : v3 = (1 : Int32)
    · have hf := x_pos c8 hf
      refine xr_tab (k := (1 : Int32)) (tgt := 72) hx hb c8 dX6_readLine_7 (by decide) (by decide) rfl (by decide) ?_
      refine lv_aload_n hx hb dX6_readLine_72 rfl (lv_at hl 0 rfl) ?_
      obtain ⟨z9, hz9, hf⟩ := x_ob hf
      obtain ⟨hqz9, hz9⟩ := xon_of hz9
      refine xr_callV (ci := 6) (As := []) (rest := []) (st1 := [.int z9.1]) S G hl.1 (fun _ => rfl) (mt_X6_readBench l D cid b ex sa sv B0 sh q0 d _ _ hz9) hqz9 (by decide) kw_609 kw_611 ks_9 kw_10 kw_612 hd_X6_readBench ⟨Nat.le_of_ble_eq_true rfl, Nat.le_of_ble_eq_true rfl⟩ rfl rfl rfl (Nat.le_of_ble_eq_true rfl) ⟨Nat.le_of_ble_eq_true rfl, Nat.le_of_ble_eq_true rfl⟩ dX6_readLine_73 (fun H locs G => ?_)
      obtain ⟨v10, hv10, hf⟩ := x_ob hf
      cases hf
      exact xr_zret S G (fun _ => rfl) hr hv10 dX6_readLine_76
    · have hf := x_neg c8 hf
      by_cases c11 : v3 = (2 : Int32)
      · have hf := x_pos c11 hf
        refine xr_tab (k := (2 : Int32)) (tgt := 77) hx hb c11 dX6_readLine_7 (by decide) (by decide) rfl (by decide) ?_
        refine lv_aload_n hx hb dX6_readLine_77 rfl (lv_at hl 0 rfl) ?_
        obtain ⟨z12, hz12, hf⟩ := x_ob hf
        obtain ⟨hqz12, hz12⟩ := xon_of hz12
        refine xr_callV (ci := 6) (As := []) (rest := []) (st1 := [.int z12.1]) S G hl.1 (fun _ => rfl) (mt_X6_readWalker l D cid b ex sa sv B0 sh q0 d _ _ hz12) hqz12 (by decide) kw_632 kw_634 ks_11 kw_10 kw_635 hd_X6_readWalker ⟨Nat.le_of_ble_eq_true rfl, Nat.le_of_ble_eq_true rfl⟩ rfl rfl rfl (Nat.le_of_ble_eq_true rfl) ⟨Nat.le_of_ble_eq_true rfl, Nat.le_of_ble_eq_true rfl⟩ dX6_readLine_78 (fun H locs G => ?_)
        obtain ⟨v13, hv13, hf⟩ := x_ob hf
        cases hf
        exact xr_zret S G (fun _ => rfl) hr hv13 dX6_readLine_81
      · have hf := x_neg c11 hf
        by_cases c14 : v3 = (3 : Int32)
        · have hf := x_pos c14 hf
          refine xr_tab (k := (3 : Int32)) (tgt := 82) hx hb c14 dX6_readLine_7 (by decide) (by decide) rfl (by decide) ?_
          refine lv_aload_n hx hb dX6_readLine_82 rfl (lv_at hl 0 rfl) ?_
          obtain ⟨z15, hz15, hf⟩ := x_ob hf
          obtain ⟨hqz15, hz15⟩ := xon_of hz15
          refine xr_callV (ci := 6) (As := []) (rest := []) (st1 := [.int z15.1]) S G hl.1 (fun _ => rfl) (mt_X6_readRest l D cid b ex sa sv B0 sh q0 d _ _ hz15) hqz15 (by decide) kw_644 kw_646 ks_12 kw_10 kw_647 hd_X6_readRest ⟨Nat.le_of_ble_eq_true rfl, Nat.le_of_ble_eq_true rfl⟩ rfl rfl rfl (Nat.le_of_ble_eq_true rfl) ⟨Nat.le_of_ble_eq_true rfl, Nat.le_of_ble_eq_true rfl⟩ dX6_readLine_83 (fun H locs G => ?_)
          obtain ⟨v16, hv16, hf⟩ := x_ob hf
          cases hf
          exact xr_zret S G (fun _ => rfl) hr hv16 dX6_readLine_86
        · have hf := x_neg c14 hf
          by_cases c17 : v3 = (4 : Int32)
          · have hf := x_pos c17 hf
            refine xr_tab (k := (4 : Int32)) (tgt := 87) hx hb c17 dX6_readLine_7 (by decide) (by decide) rfl (by decide) ?_
            refine lv_aload_n hx hb dX6_readLine_87 rfl (lv_at hl 0 rfl) ?_
            refine lv_aload_n hx hb dX6_readLine_88 rfl (lv_at hl 0 rfl) ?_
            obtain ⟨v18, hv18, hf⟩ := x_ob hf
            refine xr_getR (ci := 6) (k := 0) S G hv18 rfl kw_294 dX6_readLine_89 ?_
            obtain ⟨v19, hv19, hf⟩ := x_ob hf
            refine xr_getI (ci := 7) (k := 0) S G hv19 rfl kw_230 dX6_readLine_92 ?_
            obtain ⟨z20, hz20, hf⟩ := x_ob hf
            obtain ⟨hqz20, hz20⟩ := xon_of hz20
            refine xr_callV (ci := 6) (As := [.int v19]) (rest := []) (st1 := [.int z20.1]) S G hl.1 (fun _ => rfl) (mt_X6_readNumberLine l D cid b ex sa sv B0 sh q0 v19 d _ _ hz20) hqz20 (by decide) kw_656 kw_658 ks_14 kw_10 kw_659 hd_X6_readNumberLine ⟨Nat.le_of_ble_eq_true rfl, Nat.le_of_ble_eq_true rfl⟩ rfl rfl rfl (Nat.le_of_ble_eq_true rfl) ⟨Nat.le_of_ble_eq_true rfl, Nat.le_of_ble_eq_true rfl⟩ dX6_readLine_95 (fun H locs G => ?_)
            obtain ⟨v21, hv21, hf⟩ := x_ob hf
            cases hf
            exact xr_zret S G (fun _ => rfl) hr hv21 dX6_readLine_98
          · have hf := x_neg c17 hf
            by_cases c22 : v3 = (5 : Int32)
            · have hf := x_pos c22 hf
              refine xr_tab (k := (5 : Int32)) (tgt := 87) hx hb c22 dX6_readLine_7 (by decide) (by decide) rfl (by decide) ?_
              refine lv_aload_n hx hb dX6_readLine_87 rfl (lv_at hl 0 rfl) ?_
              refine lv_aload_n hx hb dX6_readLine_88 rfl (lv_at hl 0 rfl) ?_
              obtain ⟨v23, hv23, hf⟩ := x_ob hf
              refine xr_getR (ci := 6) (k := 0) S G hv23 rfl kw_294 dX6_readLine_89 ?_
              obtain ⟨v24, hv24, hf⟩ := x_ob hf
              refine xr_getI (ci := 7) (k := 0) S G hv24 rfl kw_230 dX6_readLine_92 ?_
              obtain ⟨z25, hz25, hf⟩ := x_ob hf
              obtain ⟨hqz25, hz25⟩ := xon_of hz25
              refine xr_callV (ci := 6) (As := [.int v24]) (rest := []) (st1 := [.int z25.1]) S G hl.1 (fun _ => rfl) (mt_X6_readNumberLine l D cid b ex sa sv B0 sh q0 v24 d _ _ hz25) hqz25 (by decide) kw_656 kw_658 ks_14 kw_10 kw_659 hd_X6_readNumberLine ⟨Nat.le_of_ble_eq_true rfl, Nat.le_of_ble_eq_true rfl⟩ rfl rfl rfl (Nat.le_of_ble_eq_true rfl) ⟨Nat.le_of_ble_eq_true rfl, Nat.le_of_ble_eq_true rfl⟩ dX6_readLine_95 (fun H locs G => ?_)
              obtain ⟨v26, hv26, hf⟩ := x_ob hf
              cases hf
              exact xr_zret S G (fun _ => rfl) hr hv26 dX6_readLine_98
            · have hf := x_neg c22 hf
              by_cases c27 : v3 = (6 : Int32)
              · have hf := x_pos c27 hf
                refine xr_tab (k := (6 : Int32)) (tgt := 87) hx hb c27 dX6_readLine_7 (by decide) (by decide) rfl (by decide) ?_
                refine lv_aload_n hx hb dX6_readLine_87 rfl (lv_at hl 0 rfl) ?_
                refine lv_aload_n hx hb dX6_readLine_88 rfl (lv_at hl 0 rfl) ?_
                obtain ⟨v28, hv28, hf⟩ := x_ob hf
                refine xr_getR (ci := 6) (k := 0) S G hv28 rfl kw_294 dX6_readLine_89 ?_
                obtain ⟨v29, hv29, hf⟩ := x_ob hf
                refine xr_getI (ci := 7) (k := 0) S G hv29 rfl kw_230 dX6_readLine_92 ?_
                obtain ⟨z30, hz30, hf⟩ := x_ob hf
                obtain ⟨hqz30, hz30⟩ := xon_of hz30
                refine xr_callV (ci := 6) (As := [.int v29]) (rest := []) (st1 := [.int z30.1]) S G hl.1 (fun _ => rfl) (mt_X6_readNumberLine l D cid b ex sa sv B0 sh q0 v29 d _ _ hz30) hqz30 (by decide) kw_656 kw_658 ks_14 kw_10 kw_659 hd_X6_readNumberLine ⟨Nat.le_of_ble_eq_true rfl, Nat.le_of_ble_eq_true rfl⟩ rfl rfl rfl (Nat.le_of_ble_eq_true rfl) ⟨Nat.le_of_ble_eq_true rfl, Nat.le_of_ble_eq_true rfl⟩ dX6_readLine_95 (fun H locs G => ?_)
                obtain ⟨v31, hv31, hf⟩ := x_ob hf
                cases hf
                exact xr_zret S G (fun _ => rfl) hr hv31 dX6_readLine_98
              · have hf := x_neg c27 hf
                by_cases c32 : v3 = (7 : Int32)
                · have hf := x_pos c32 hf
                  refine xr_tab (k := (7 : Int32)) (tgt := 99) hx hb c32 dX6_readLine_7 (by decide) (by decide) rfl (by decide) ?_
                  refine lv_aload_n hx hb dX6_readLine_99 rfl (lv_at hl 0 rfl) ?_
                  obtain ⟨z33, hz33, hf⟩ := x_ob hf
                  obtain ⟨hqz33, hz33⟩ := xon_of hz33
                  refine xr_callV (ci := 6) (As := []) (rest := []) (st1 := [.int z33.1]) S G hl.1 (fun _ => rfl) (mt_X6_readLaw l D cid b ex sa sv B0 sh q0 d _ _ hz33) hqz33 (by decide) kw_665 kw_667 ks_16 kw_10 kw_668 hd_X6_readLaw ⟨Nat.le_of_ble_eq_true rfl, Nat.le_of_ble_eq_true rfl⟩ rfl rfl rfl (Nat.le_of_ble_eq_true rfl) ⟨Nat.le_of_ble_eq_true rfl, Nat.le_of_ble_eq_true rfl⟩ dX6_readLine_100 (fun H locs G => ?_)
                  obtain ⟨v34, hv34, hf⟩ := x_ob hf
                  cases hf
                  exact xr_zret S G (fun _ => rfl) hr hv34 dX6_readLine_103
                · have hf := x_neg c32 hf
                  have hks : ∀ z ∈ ([0, 1, 2, 3, 4, 5, 6, 7] : List Int), (v3).toInt ≠ z := by
                    intro z hz
                    simp only [List.mem_cons, List.not_mem_nil, or_false] at hz
                    rcases hz with rfl | rfl | rfl | rfl | rfl | rfl | rfl | rfl
                    · exact x_toInt_ne 0 c4 (by decide)
                    · exact x_toInt_ne 1 c8 (by decide)
                    · exact x_toInt_ne 2 c11 (by decide)
                    · exact x_toInt_ne 3 c14 (by decide)
                    · exact x_toInt_ne 4 c17 (by decide)
                    · exact x_toInt_ne 5 c22 (by decide)
                    · exact x_toInt_ne 6 c27 (by decide)
                    · exact x_toInt_ne 7 c32 (by decide)
                  refine xr_tabD (tgt := 104) [0, 1, 2, 3, 4, 5, 6, 7] hx hb dX6_readLine_7 hks (by decide) (by decide) (by decide) ?_
                  refine lv_aload_n hx hb dX6_readLine_104 rfl (lv_at hl 0 rfl) ?_
                  obtain ⟨v35, hv35, hf⟩ := x_ob hf
                  refine xr_getR (ci := 6) (k := 0) S G hv35 rfl kw_294 dX6_readLine_105 ?_
                  refine lv_iconst (v := (1 : Int32)) hx hb dX6_readLine_108 (by decide) ?_
                  obtain ⟨z36, hz36, hf⟩ := x_ob hf
                  obtain ⟨hqz36, hz36⟩ := xon_of hz36
                  refine xr_callV (ci := 7) (As := [.int (1 : Int32)]) (rest := []) (st1 := [.int z36.1]) S G hl.1 (fun _ => rfl) (mt_X7_refuse l D cid b ex sa sv B0 sh v35 (1 : Int32) d _ _ hz36) hqz36 (by decide) kw_605 kw_606 kw_607 kw_5 kw_608 hd_X7_refuse ⟨Nat.le_of_ble_eq_true rfl, Nat.le_of_ble_eq_true rfl⟩ rfl rfl rfl (Nat.le_of_ble_eq_true rfl) ⟨Nat.le_of_ble_eq_true rfl, Nat.le_of_ble_eq_true rfl⟩ dX6_readLine_109 (fun H locs G => ?_)
                  obtain ⟨v37, hv37, hf⟩ := x_ob hf
                  cases hf
                  exact xr_zret S G (fun _ => rfl) hr hv37 dX6_readLine_112
-- HalfLandings$TextReader.read(ILHalfLandings$Plan;)I
theorem dX6_read_0 : decode cX6_read 0 = .ok (.aload_n 0, 1) := by decide +kernel
theorem dX6_read_1 : decode cX6_read 1 = .ok (.aload_n 2, 1) := by decide +kernel
theorem dX6_read_2 : decode cX6_read 2 = .ok (.putfield 19, 3) := by decide +kernel
theorem dX6_read_5 : decode cX6_read 5 = .ok (.aload_n 0, 1) := by decide +kernel
theorem dX6_read_6 : decode cX6_read 6 = .ok (.iconst 0, 1) := by decide +kernel
theorem dX6_read_7 : decode cX6_read 7 = .ok (.putfield 9, 3) := by decide +kernel
theorem dX6_read_10 : decode cX6_read 10 = .ok (.aload_n 0, 1) := by decide +kernel
theorem dX6_read_11 : decode cX6_read 11 = .ok (.getfield 15, 3) := by decide +kernel
theorem dX6_read_14 : decode cX6_read 14 = .ok (.iload_n 1, 1) := by decide +kernel
theorem dX6_read_15 : decode cX6_read 15 = .ok (.invokevirtual 32, 3) := by decide +kernel
theorem dX6_read_18 : decode cX6_read 18 = .ok (.iconst 0, 1) := by decide +kernel
theorem dX6_read_19 : decode cX6_read 19 = .ok (.istore_n 3, 1) := by decide +kernel
theorem dX6_read_20 : decode cX6_read 20 = .ok (.iload_n 3, 1) := by decide +kernel
theorem dX6_read_21 : decode cX6_read 21 = .ok (.iload_n 1, 1) := by decide +kernel
theorem dX6_read_22 : decode cX6_read 22 = .ok (.if_icmp .gt 71, 3) := by decide +kernel
theorem dX6_read_25 : decode cX6_read 25 = .ok (.aload_n 0, 1) := by decide +kernel
theorem dX6_read_26 : decode cX6_read 26 = .ok (.getfield 15, 3) := by decide +kernel
theorem dX6_read_29 : decode cX6_read 29 = .ok (.getfield 38, 3) := by decide +kernel
theorem dX6_read_32 : decode cX6_read 32 = .ok (.bipush 36, 2) := by decide +kernel
theorem dX6_read_34 : decode cX6_read 34 = .ok (.if_icmp .ne 5, 3) := by decide +kernel
theorem dX6_read_37 : decode cX6_read 37 = .ok (.iload_n 3, 1) := by decide +kernel
theorem dX6_read_38 : decode cX6_read 38 = .ok (.ireturn, 1) := by decide +kernel
theorem dX6_read_39 : decode cX6_read 39 = .ok (.aload_n 0, 1) := by decide +kernel
theorem dX6_read_40 : decode cX6_read 40 = .ok (.iload_n 3, 1) := by decide +kernel
theorem dX6_read_41 : decode cX6_read 41 = .ok (.ifCond .ne 7, 3) := by decide +kernel
theorem dX6_read_44 : decode cX6_read 44 = .ok (.iconst 1, 1) := by decide +kernel
theorem dX6_read_45 : decode cX6_read 45 = .ok (.goto 4, 3) := by decide +kernel
theorem dX6_read_48 : decode cX6_read 48 = .ok (.iconst 0, 1) := by decide +kernel
theorem dX6_read_49 : decode cX6_read 49 = .ok (.invokevirtual 41, 3) := by decide +kernel
theorem dX6_read_52 : decode cX6_read 52 = .ok (.ifCond .ne 5, 3) := by decide +kernel
theorem dX6_read_55 : decode cX6_read 55 = .ok (.iconst (-1), 1) := by decide +kernel
theorem dX6_read_56 : decode cX6_read 56 = .ok (.ireturn, 1) := by decide +kernel
theorem dX6_read_57 : decode cX6_read 57 = .ok (.aload_n 0, 1) := by decide +kernel
theorem dX6_read_58 : decode cX6_read 58 = .ok (.getfield 15, 3) := by decide +kernel
theorem dX6_read_61 : decode cX6_read 61 = .ok (.getfield 38, 3) := by decide +kernel
theorem dX6_read_64 : decode cX6_read 64 = .ok (.bipush 23, 2) := by decide +kernel
theorem dX6_read_66 : decode cX6_read 66 = .ok (.if_icmp .eq 14, 3) := by decide +kernel
theorem dX6_read_69 : decode cX6_read 69 = .ok (.aload_n 0, 1) := by decide +kernel
theorem dX6_read_70 : decode cX6_read 70 = .ok (.getfield 15, 3) := by decide +kernel
theorem dX6_read_73 : decode cX6_read 73 = .ok (.iconst 1, 1) := by decide +kernel
theorem dX6_read_74 : decode cX6_read 74 = .ok (.invokevirtual 45, 3) := by decide +kernel
theorem dX6_read_77 : decode cX6_read 77 = .ok (.pop, 1) := by decide +kernel
theorem dX6_read_78 : decode cX6_read 78 = .ok (.iconst (-1), 1) := by decide +kernel
theorem dX6_read_79 : decode cX6_read 79 = .ok (.ireturn, 1) := by decide +kernel
theorem dX6_read_80 : decode cX6_read 80 = .ok (.aload_n 0, 1) := by decide +kernel
theorem dX6_read_81 : decode cX6_read 81 = .ok (.getfield 15, 3) := by decide +kernel
theorem dX6_read_84 : decode cX6_read 84 = .ok (.invokevirtual 49, 3) := by decide +kernel
theorem dX6_read_87 : decode cX6_read 87 = .ok (.iinc 3 1, 3) := by decide +kernel
theorem dX6_read_90 : decode cX6_read 90 = .ok (.goto (-70), 3) := by decide +kernel
theorem dX6_read_93 : decode cX6_read 93 = .ok (.iconst (-1), 1) := by decide +kernel
theorem dX6_read_94 : decode cX6_read 94 = .ok (.ireturn, 1) := by decide +kernel
theorem hd_X6_read : yX6_read.cls = xCn 6 ∧ yX6_read.cls ≠ "java/lang/invoke/MethodHandle" ∧ yX6_read.cls ≠ "java/lang/invoke/VarHandle" ∧ (parseMethodDescriptor yX6_read.desc).map (fun d => d.parameters.length) = some 2 := by decide +kernel
def k_X6_read_93 (sh : List xSh) (d : xD) : Option (Int32 × xD) :=
  some ((-1 : Int32), d)
def k_X6_read_69 (sh : List xSh) (q0 : Nat) (d : xD) : Option (Int32 × xD) :=
  (xgR 6 sh d q0 0).bind fun v1 => (xon 7 sh v1 (f_X7_refuse sh v1 (1 : Int32) d)).bind fun z2 => some ((-1 : Int32), z2.2)
def k_X6_read_55 (sh : List xSh) (d : xD) : Option (Int32 × xD) :=
  some ((-1 : Int32), d)
def k_X6_read_49 (sh : List xSh) (rec20 : Nat → Int32 → Int32 → xD → Option (Int32 × xD)) (q0 : Nat) (x1 : Int32) (x3 : Int32) (p0 : Nat) (y1 : Int32) (d : xD) : Option (Int32 × xD) :=
  (xon 6 sh p0 (f_X6_readLine sh p0 y1 d)).bind fun z3 => if z3.1 = 0 then (k_X6_read_55 sh z3.2) else ((xgR 6 sh z3.2 q0 0).bind fun v4 => (xgI 7 sh z3.2 v4 0).bind fun v5 => if v5 = (23 : Int32) then ((xgR 6 sh z3.2 q0 0).bind fun v6 => (xon 7 sh v6 (f_X7_next sh v6 z3.2)).bind fun d7 => rec20 q0 x1 (x3 + 1) d7) else (k_X6_read_69 sh q0 z3.2))
def k_X6_read_37 (sh : List xSh) (x3 : Int32) (d : xD) : Option (Int32 × xD) :=
  some (x3, d)
def b_X6_read_20 (sh : List xSh) (rec20 : Nat → Int32 → Int32 → xD → Option (Int32 × xD)) (q0 : Nat) (x1 : Int32) (x3 : Int32) (d : xD) : Option (Int32 × xD) :=
  if x1 < x3 then (k_X6_read_93 sh d) else ((xgR 6 sh d q0 0).bind fun v8 => (xgI 7 sh d v8 0).bind fun v9 => if v9 = (36 : Int32) then (k_X6_read_37 sh x3 d) else (if x3 = 0 then (k_X6_read_49 sh rec20 q0 x1 x3 q0 (1 : Int32) d) else (k_X6_read_49 sh rec20 q0 x1 x3 q0 (0 : Int32) d)))
def f_X6_read (sh : List xSh) (q0 : Nat) (x1 : Int32) (q2 : Nat) (d : xD) : Option (Int32 × xD) :=
  (xpR 6 sh d q0 2 q2).bind fun d10 => (xpI 6 sh d10 q0 3 (0 : Int32)).bind fun d11 => (xgR 6 sh d11 q0 0).bind fun v12 => (xon 7 sh v12 (f_X7_start sh v12 x1 d11)).bind fun d13 => xloop (fun _ _ _ _ => none) (b_X6_read_20 sh) xF q0 x1 (0 : Int32) d13
set_option maxHeartbeats 4000000 in
set_option maxRecDepth 100000 in
theorem mt_X6_read (l : Launch) (D : va_G) (cid : FieldType → ClassId) (b : Nat) (ex : Bool) (sa sv B0 : Nat) (sh : List xSh) (q0 : Nat) (x1 : Int32) (q2 : Nat) (d : xD) (r : Int32) (dz : xD) (hf : f_X6_read sh q0 x1 q2 d = some (r, dz)) : xMet l yX6_read cX6_read 4 (some .int) 6 0 0 D cid b ex sa sv B0 [.ref (b + q0), .int x1, .ref (b + q2)] sh d (some (.int r)) sh dz := by
  refine xMet.of (by decide) (Nat.le_of_ble_eq_true rfl) ?_
  intro p e s m below meth c ls A S hr hin G hl
  have hl : lv_has ls 4 [(0, .ref (b + q0)), (1, .int x1), (2, .ref (b + q2))] := hl
  generalize ([.ref (b + q0), .int x1, .ref (b + q2)] : List Value).toArray = av at S ⊢
  have hx := S.1
  have hb := S.2.1
  have hml := S.2.2.1
  have hown := S.2.2.2.1
  have hts := S.2.2.2.2.1
  have K93 : ∀ (d : xD), k_X6_read_93 sh d = some (r, dz) → ∀ (H : Heap) (locs : List Loc) (ls : Array Slot), lv_has ls 4 [] → xG D cid b A sh d s H locs → W p l e (xRm 6 0 0) s m av below meth c H locs 0 0 (MQ below (xQ D cid b ex A (some (.int r)) sh dz) av s 0 0 A) (F0 m 93 ls []) := by
    intro d hf H locs ls hl G
    unfold k_X6_read_93 at hf
    refine lv_iconst (v := (-1 : Int32)) hx hb dX6_read_93 (by decide) ?_
    cases hf
    exact xr_iret S G (fun _ => rfl) hr dX6_read_94
  have K69 : ∀ (q0 : Nat) (d : xD), k_X6_read_69 sh q0 d = some (r, dz) → ∀ (H : Heap) (locs : List Loc) (ls : Array Slot), lv_has ls 4 [(0, .ref (b + q0))] → xG D cid b A sh d s H locs → W p l e (xRm 6 0 0) s m av below meth c H locs 0 0 (MQ below (xQ D cid b ex A (some (.int r)) sh dz) av s 0 0 A) (F0 m 69 ls []) := by
    intro q0 d hf H locs ls hl G
    unfold k_X6_read_69 at hf
    refine lv_aload_n hx hb dX6_read_69 rfl (lv_at hl 0 rfl) ?_
    obtain ⟨v1, hv1, hf⟩ := x_ob hf
    refine xr_getR (ci := 6) (k := 0) S G hv1 rfl kw_294 dX6_read_70 ?_
    refine lv_iconst (v := (1 : Int32)) hx hb dX6_read_73 (by decide) ?_
    obtain ⟨z2, hz2, hf⟩ := x_ob hf
    obtain ⟨hqz2, hz2⟩ := xon_of hz2
    refine xr_callV (ci := 7) (As := [.int (1 : Int32)]) (rest := []) (st1 := [.int z2.1]) S G hl.1 (fun _ => rfl) (mt_X7_refuse l D cid b ex sa sv B0 sh v1 (1 : Int32) d _ _ hz2) hqz2 (by decide) kw_605 kw_606 kw_607 kw_5 kw_608 hd_X7_refuse ⟨Nat.le_of_ble_eq_true rfl, Nat.le_of_ble_eq_true rfl⟩ rfl rfl rfl (Nat.le_of_ble_eq_true rfl) ⟨Nat.le_of_ble_eq_true rfl, Nat.le_of_ble_eq_true rfl⟩ dX6_read_74 (fun H locs G => ?_)
    refine lv_pop hx hb dX6_read_77 rfl ?_
    refine lv_iconst (v := (-1 : Int32)) hx hb dX6_read_78 (by decide) ?_
    cases hf
    exact xr_iret S G (fun _ => rfl) hr dX6_read_79
  have K55 : ∀ (d : xD), k_X6_read_55 sh d = some (r, dz) → ∀ (H : Heap) (locs : List Loc) (ls : Array Slot), lv_has ls 4 [] → xG D cid b A sh d s H locs → W p l e (xRm 6 0 0) s m av below meth c H locs 0 0 (MQ below (xQ D cid b ex A (some (.int r)) sh dz) av s 0 0 A) (F0 m 55 ls []) := by
    intro d hf H locs ls hl G
    unfold k_X6_read_55 at hf
    refine lv_iconst (v := (-1 : Int32)) hx hb dX6_read_55 (by decide) ?_
    cases hf
    exact xr_iret S G (fun _ => rfl) hr dX6_read_56
  have K49 : ∀ (rec20 : Nat → Int32 → Int32 → xD → Option (Int32 × xD)) (hrec20 : ∀ (q0 : Nat) (x1 : Int32) (x3 : Int32) (d : xD), rec20 q0 x1 x3 d = some (r, dz) → ∀ (H : Heap) (locs : List Loc) (ls : Array Slot), lv_has ls 4 [(0, .ref (b + q0)), (1, .int x1), (3, .int x3)] → xG D cid b A sh d s H locs → W p l e (xRm 6 0 0) s m av below meth c H locs 0 0 (MQ below (xQ D cid b ex A (some (.int r)) sh dz) av s 0 0 A) (F0 m 20 ls [])) (q0 : Nat) (x1 : Int32) (x3 : Int32) (p0 : Nat) (y1 : Int32) (d : xD), k_X6_read_49 sh rec20 q0 x1 x3 p0 y1 d = some (r, dz) → ∀ (H : Heap) (locs : List Loc) (ls : Array Slot), lv_has ls 4 [(0, .ref (b + q0)), (1, .int x1), (3, .int x3)] → xG D cid b A sh d s H locs → W p l e (xRm 6 0 0) s m av below meth c H locs 0 0 (MQ below (xQ D cid b ex A (some (.int r)) sh dz) av s 0 0 A) (F0 m 49 ls [.int y1, .ref (b + p0)]) := by
    intro rec20 hrec20 q0 x1 x3 p0 y1 d hf H locs ls hl G
    unfold k_X6_read_49 at hf
    obtain ⟨z3, hz3, hf⟩ := x_ob hf
    obtain ⟨hqz3, hz3⟩ := xon_of hz3
    refine xr_callV (ci := 6) (As := [.int y1]) (rest := []) (st1 := [.int z3.1]) S G hl.1 (fun _ => rfl) (mt_X6_readLine l D cid b ex sa sv B0 sh p0 y1 d _ _ hz3) hqz3 (by decide) kw_592 kw_594 ks_6 kw_10 kw_595 hd_X6_readLine ⟨Nat.le_of_ble_eq_true rfl, Nat.le_of_ble_eq_true rfl⟩ rfl rfl rfl (Nat.le_of_ble_eq_true rfl) ⟨Nat.le_of_ble_eq_true rfl, Nat.le_of_ble_eq_true rfl⟩ dX6_read_49 (fun H locs G => ?_)
    refine lv_if_ne (tgt := 57) hx hb dX6_read_52 (by decide) (fun c => ?_) (fun c => ?_)
    · have hf := x_neg c hf
      refine lv_aload_n hx hb dX6_read_57 rfl (lv_at hl 0 rfl) ?_
      obtain ⟨v4, hv4, hf⟩ := x_ob hf
      refine xr_getR (ci := 6) (k := 0) S G hv4 rfl kw_294 dX6_read_58 ?_
      obtain ⟨v5, hv5, hf⟩ := x_ob hf
      refine xr_getI (ci := 7) (k := 0) S G hv5 rfl kw_230 dX6_read_61 ?_
      refine lv_bipush (v := (23 : Int32)) hx hb dX6_read_64 (by decide) ?_
      refine lv_icmp_eq (tgt := 80) hx hb dX6_read_66 (by decide) (fun c => ?_) (fun c => ?_)
      · have hf := x_pos c hf
        refine lv_aload_n hx hb dX6_read_80 rfl (lv_at hl 0 rfl) ?_
        obtain ⟨v6, hv6, hf⟩ := x_ob hf
        refine xr_getR (ci := 6) (k := 0) S G hv6 rfl kw_294 dX6_read_81 ?_
        obtain ⟨d7, hd7, hf⟩ := x_ob hf
        obtain ⟨hqd7, hd7⟩ := xon_of hd7
        refine xr_callV (ci := 7) (As := []) (rest := []) (st1 := []) S G hl.1 (fun _ => rfl) (mt_X7_next l D cid b ex sa sv B0 sh v6 z3.2 _ hd7) hqd7 (by decide) kw_600 kw_559 kw_560 kw_5 kw_561 hd_X7_next ⟨Nat.le_of_ble_eq_true rfl, Nat.le_of_ble_eq_true rfl⟩ rfl rfl rfl (Nat.le_of_ble_eq_true rfl) ⟨Nat.le_of_ble_eq_true rfl, Nat.le_of_ble_eq_true rfl⟩ dX6_read_84 (fun H locs G => ?_)
        refine lv_iinc (v := (x3 + 1)) (lv' := [(3, .int (x3 + 1)), (0, .ref (b + q0)), (1, .int x1)]) hx hb dX6_read_87 hl (k := 2) rfl rfl (by decide) rfl (fun ls hl => ?_)
        refine lv_goto (tgt := 20) hx hb dX6_read_90 (by decide) ?_
        exact hrec20 q0 x1 (x3 + 1) d7 hf _ _ ls (lv_sub hl [1, 2, 0] rfl) G
      · have hf := x_neg c hf
        exact K69 q0 z3.2 hf _ _ ls (lv_sub hl [0] rfl) G
    · have hf := x_pos c hf
      exact K55 z3.2 hf _ _ ls (lv_sub hl [] rfl) G
  have K37 : ∀ (x3 : Int32) (d : xD), k_X6_read_37 sh x3 d = some (r, dz) → ∀ (H : Heap) (locs : List Loc) (ls : Array Slot), lv_has ls 4 [(3, .int x3)] → xG D cid b A sh d s H locs → W p l e (xRm 6 0 0) s m av below meth c H locs 0 0 (MQ below (xQ D cid b ex A (some (.int r)) sh dz) av s 0 0 A) (F0 m 37 ls []) := by
    intro x3 d hf H locs ls hl G
    unfold k_X6_read_37 at hf
    refine lv_iload_n hx hb dX6_read_37 rfl (lv_at hl 0 rfl) ?_
    cases hf
    exact xr_iret S G (fun _ => rfl) hr dX6_read_38
  have K20 : ∀ (n : Nat) (q0 : Nat) (x1 : Int32) (x3 : Int32) (d : xD), xloop (fun _ _ _ _ => none) (b_X6_read_20 sh) n q0 x1 x3 d = some (r, dz) → ∀ (H : Heap) (locs : List Loc) (ls : Array Slot), lv_has ls 4 [(0, .ref (b + q0)), (1, .int x1), (3, .int x3)] → xG D cid b A sh d s H locs → W p l e (xRm 6 0 0) s m av below meth c H locs 0 0 (MQ below (xQ D cid b ex A (some (.int r)) sh dz) av s 0 0 A) (F0 m 20 ls []) := by
    intro n
    induction n with
    | zero =>
      intro q0 x1 x3 d hf
      have hf : (none : Option (Int32 × xD)) = some (r, dz) := hf
      cases hf
    | succ n hrec20 =>
      intro q0 x1 x3 d hf H locs ls hl G
      have hf : b_X6_read_20 sh (xloop (fun _ _ _ _ => none) (b_X6_read_20 sh) n) q0 x1 x3 d = some (r, dz) := hf
      unfold b_X6_read_20 at hf
      refine lv_iload_n hx hb dX6_read_20 rfl (lv_at hl 2 rfl) ?_
      refine lv_iload_n hx hb dX6_read_21 rfl (lv_at hl 1 rfl) ?_
      refine lv_icmp_gt (tgt := 93) hx hb dX6_read_22 (by decide) (fun c => ?_) (fun c => ?_)
      · have hf := x_pos c hf
        exact K93 d hf _ _ ls (lv_sub hl [] rfl) G
      · have hf := x_neg c hf
        refine lv_aload_n hx hb dX6_read_25 rfl (lv_at hl 0 rfl) ?_
        obtain ⟨v8, hv8, hf⟩ := x_ob hf
        refine xr_getR (ci := 6) (k := 0) S G hv8 rfl kw_294 dX6_read_26 ?_
        obtain ⟨v9, hv9, hf⟩ := x_ob hf
        refine xr_getI (ci := 7) (k := 0) S G hv9 rfl kw_230 dX6_read_29 ?_
        refine lv_bipush (v := (36 : Int32)) hx hb dX6_read_32 (by decide) ?_
        refine lv_icmp_ne (tgt := 39) hx hb dX6_read_34 (by decide) (fun c => ?_) (fun c => ?_)
        · have hf := x_neg c hf
          refine lv_aload_n hx hb dX6_read_39 rfl (lv_at hl 0 rfl) ?_
          refine lv_iload_n hx hb dX6_read_40 rfl (lv_at hl 2 rfl) ?_
          refine lv_if_ne (tgt := 48) hx hb dX6_read_41 (by decide) (fun c => ?_) (fun c => ?_)
          · have hf := x_neg c hf
            refine lv_iconst (v := (0 : Int32)) hx hb dX6_read_48 (by decide) ?_
            exact K49 _ hrec20 q0 x1 x3 q0 (0 : Int32) d hf _ _ ls (lv_sub hl [0, 1, 2] rfl) G
          · have hf := x_pos c hf
            refine lv_iconst (v := (1 : Int32)) hx hb dX6_read_44 (by decide) ?_
            refine lv_goto (tgt := 49) hx hb dX6_read_45 (by decide) ?_
            exact K49 _ hrec20 q0 x1 x3 q0 (1 : Int32) d hf _ _ ls (lv_sub hl [0, 1, 2] rfl) G
        · have hf := x_pos c hf
          exact K37 x3 d hf _ _ ls (lv_sub hl [2] rfl) G
  unfold f_X6_read at hf
  refine lv_aload_n hx hb dX6_read_0 rfl (lv_at hl 0 rfl) ?_
  refine lv_aload_n hx hb dX6_read_1 rfl (lv_at hl 2 rfl) ?_
  obtain ⟨d10, hd10, hf⟩ := x_ob hf
  refine xr_putR (ci := 6) (k := 2) S G hd10 rfl kw_296 dX6_read_2 (fun H locs G => ?_)
  refine lv_aload_n hx hb dX6_read_5 rfl (lv_at hl 0 rfl) ?_
  refine lv_iconst (v := (0 : Int32)) hx hb dX6_read_6 (by decide) ?_
  obtain ⟨d11, hd11, hf⟩ := x_ob hf
  refine xr_putI (ci := 6) (k := 3) S G hd11 rfl kw_297 dX6_read_7 (fun H locs G => ?_)
  refine lv_aload_n hx hb dX6_read_10 rfl (lv_at hl 0 rfl) ?_
  obtain ⟨v12, hv12, hf⟩ := x_ob hf
  refine xr_getR (ci := 6) (k := 0) S G hv12 rfl kw_294 dX6_read_11 ?_
  refine lv_iload_n hx hb dX6_read_14 rfl (lv_at hl 1 rfl) ?_
  obtain ⟨d13, hd13, hf⟩ := x_ob hf
  obtain ⟨hqd13, hd13⟩ := xon_of hd13
  refine xr_callV (ci := 7) (As := [.int x1]) (rest := []) (st1 := []) S G hl.1 (fun _ => rfl) (mt_X7_start l D cid b ex sa sv B0 sh v12 x1 d11 _ hd13) hqd13 (by decide) kw_551 kw_552 kw_553 kw_5 kw_554 hd_X7_start ⟨Nat.le_of_ble_eq_true rfl, Nat.le_of_ble_eq_true rfl⟩ rfl rfl rfl (Nat.le_of_ble_eq_true rfl) ⟨Nat.le_of_ble_eq_true rfl, Nat.le_of_ble_eq_true rfl⟩ dX6_read_15 (fun H locs G => ?_)
  refine lv_iconst (v := (0 : Int32)) hx hb dX6_read_18 (by decide) ?_
  refine lv_istore_n (lv' := [(3, .int (0 : Int32)), (0, .ref (b + q0)), (1, .int x1), (2, .ref (b + q2))]) hx hb dX6_read_19 rfl hl (by decide) rfl (fun ls hl => ?_)
  exact K20 xF q0 x1 (0 : Int32) d13 hf _ _ ls (lv_sub hl [1, 2, 0] rfl) G
-- HalfLandings$Undone.clear()V
theorem dX8_clear_0 : decode cX8_clear 0 = .ok (.aload_n 0, 1) := by decide +kernel
theorem dX8_clear_1 : decode cX8_clear 1 = .ok (.iconst 0, 1) := by decide +kernel
theorem dX8_clear_2 : decode cX8_clear 2 = .ok (.putfield 9, 3) := by decide +kernel
theorem dX8_clear_5 : decode cX8_clear 5 = .ok (.return_, 1) := by decide +kernel
theorem hd_X8_clear : yX8_clear.cls = xCn 8 ∧ yX8_clear.cls ≠ "java/lang/invoke/MethodHandle" ∧ yX8_clear.cls ≠ "java/lang/invoke/VarHandle" ∧ (parseMethodDescriptor yX8_clear.desc).map (fun d => d.parameters.length) = some 0 := by decide +kernel
def f_X8_clear (sh : List xSh) (q0 : Nat) (d : xD) : Option xD :=
  (xpI 8 sh d q0 0 (0 : Int32)).bind fun d1 => some d1
set_option maxHeartbeats 4000000 in
set_option maxRecDepth 100000 in
theorem mt_X8_clear (l : Launch) (D : va_G) (cid : FieldType → ClassId) (b : Nat) (ex : Bool) (sa sv B0 : Nat) (sh : List xSh) (q0 : Nat) (d : xD) (dz : xD) (hf : f_X8_clear sh q0 d = some dz) : xMet l yX8_clear cX8_clear 1 none 0 0 0 D cid b ex sa sv B0 [.ref (b + q0)] sh d none sh dz := by
  refine xMet.of (by decide) (Nat.le_of_ble_eq_true rfl) ?_
  intro p e s m below meth c ls A S hr hin G hl
  have hl : lv_has ls 1 [(0, .ref (b + q0))] := hl
  generalize ([.ref (b + q0)] : List Value).toArray = av at S ⊢
  have hx := S.1
  have hb := S.2.1
  have hml := S.2.2.1
  have hown := S.2.2.2.1
  have hts := S.2.2.2.2.1
  unfold f_X8_clear at hf
  refine lv_aload_n hx hb dX8_clear_0 rfl (lv_at hl 0 rfl) ?_
  refine lv_iconst (v := (0 : Int32)) hx hb dX8_clear_1 (by decide) ?_
  obtain ⟨d1, hd1, hf⟩ := x_ob hf
  refine xr_putI (ci := 8) (k := 0) S G hd1 rfl kw_424 dX8_clear_2 (fun H locs G => ?_)
  cases hf
  exact xr_vret S G (fun _ => rfl) hr dX8_clear_5
-- HalfLandings$Undone.add(II)V
theorem dX8_add_0 : decode cX8_add 0 = .ok (.aload_n 0, 1) := by decide +kernel
theorem dX8_add_1 : decode cX8_add 1 = .ok (.getfield 9, 3) := by decide +kernel
theorem dX8_add_4 : decode cX8_add 4 = .ok (.bipush 20, 2) := by decide +kernel
theorem dX8_add_6 : decode cX8_add 6 = .ok (.if_icmp .lt 39, 3) := by decide +kernel
theorem dX8_add_9 : decode cX8_add 9 = .ok (.aload_n 0, 1) := by decide +kernel
theorem dX8_add_10 : decode cX8_add 10 = .ok (.getfield 15, 3) := by decide +kernel
theorem dX8_add_13 : decode cX8_add 13 = .ok (.iconst 1, 1) := by decide +kernel
theorem dX8_add_14 : decode cX8_add 14 = .ok (.aload_n 0, 1) := by decide +kernel
theorem dX8_add_15 : decode cX8_add 15 = .ok (.getfield 15, 3) := by decide +kernel
theorem dX8_add_18 : decode cX8_add 18 = .ok (.iconst 0, 1) := by decide +kernel
theorem dX8_add_19 : decode cX8_add 19 = .ok (.bipush 19, 2) := by decide +kernel
theorem dX8_add_21 : decode cX8_add 21 = .ok (.invokestatic 22, 3) := by decide +kernel
theorem dX8_add_24 : decode cX8_add 24 = .ok (.aload_n 0, 1) := by decide +kernel
theorem dX8_add_25 : decode cX8_add 25 = .ok (.getfield 19, 3) := by decide +kernel
theorem dX8_add_28 : decode cX8_add 28 = .ok (.iconst 1, 1) := by decide +kernel
theorem dX8_add_29 : decode cX8_add 29 = .ok (.aload_n 0, 1) := by decide +kernel
theorem dX8_add_30 : decode cX8_add 30 = .ok (.getfield 19, 3) := by decide +kernel
theorem dX8_add_33 : decode cX8_add 33 = .ok (.iconst 0, 1) := by decide +kernel
theorem dX8_add_34 : decode cX8_add 34 = .ok (.bipush 19, 2) := by decide +kernel
theorem dX8_add_36 : decode cX8_add 36 = .ok (.invokestatic 22, 3) := by decide +kernel
theorem dX8_add_39 : decode cX8_add 39 = .ok (.aload_n 0, 1) := by decide +kernel
theorem dX8_add_40 : decode cX8_add 40 = .ok (.bipush 19, 2) := by decide +kernel
theorem dX8_add_42 : decode cX8_add 42 = .ok (.putfield 9, 3) := by decide +kernel
theorem dX8_add_45 : decode cX8_add 45 = .ok (.aload_n 0, 1) := by decide +kernel
theorem dX8_add_46 : decode cX8_add 46 = .ok (.getfield 15, 3) := by decide +kernel
theorem dX8_add_49 : decode cX8_add 49 = .ok (.aload_n 0, 1) := by decide +kernel
theorem dX8_add_50 : decode cX8_add 50 = .ok (.getfield 9, 3) := by decide +kernel
theorem dX8_add_53 : decode cX8_add 53 = .ok (.iload_n 1, 1) := by decide +kernel
theorem dX8_add_54 : decode cX8_add 54 = .ok (.iastore, 1) := by decide +kernel
theorem dX8_add_55 : decode cX8_add 55 = .ok (.aload_n 0, 1) := by decide +kernel
theorem dX8_add_56 : decode cX8_add 56 = .ok (.getfield 19, 3) := by decide +kernel
theorem dX8_add_59 : decode cX8_add 59 = .ok (.aload_n 0, 1) := by decide +kernel
theorem dX8_add_60 : decode cX8_add 60 = .ok (.getfield 9, 3) := by decide +kernel
theorem dX8_add_63 : decode cX8_add 63 = .ok (.iload_n 2, 1) := by decide +kernel
theorem dX8_add_64 : decode cX8_add 64 = .ok (.iastore, 1) := by decide +kernel
theorem dX8_add_65 : decode cX8_add 65 = .ok (.aload_n 0, 1) := by decide +kernel
theorem dX8_add_66 : decode cX8_add 66 = .ok (.dup, 1) := by decide +kernel
theorem dX8_add_67 : decode cX8_add 67 = .ok (.getfield 9, 3) := by decide +kernel
theorem dX8_add_70 : decode cX8_add 70 = .ok (.iconst 1, 1) := by decide +kernel
theorem dX8_add_71 : decode cX8_add 71 = .ok (.iadd, 1) := by decide +kernel
theorem dX8_add_72 : decode cX8_add 72 = .ok (.putfield 9, 3) := by decide +kernel
theorem dX8_add_75 : decode cX8_add 75 = .ok (.return_, 1) := by decide +kernel
theorem hd_X8_add : yX8_add.cls = xCn 8 ∧ yX8_add.cls ≠ "java/lang/invoke/MethodHandle" ∧ yX8_add.cls ≠ "java/lang/invoke/VarHandle" ∧ (parseMethodDescriptor yX8_add.desc).map (fun d => d.parameters.length) = some 2 := by decide +kernel
def k_X8_add_45 (sh : List xSh) (q0 : Nat) (x1 : Int32) (x2 : Int32) (d : xD) : Option xD :=
  (xgR 8 sh d q0 1).bind fun v1 => (xgI 8 sh d q0 0).bind fun v2 => (xsI .int sh d v1 v2 x1).bind fun d3 => (xgR 8 sh d3 q0 2).bind fun v4 => (xgI 8 sh d3 q0 0).bind fun v5 => (xsI .int sh d3 v4 v5 x2).bind fun d6 => (xgI 8 sh d6 q0 0).bind fun v7 => (xpI 8 sh d6 q0 0 (v7 + (1 : Int32))).bind fun d8 => some d8
def f_X8_add (sh : List xSh) (q0 : Nat) (x1 : Int32) (x2 : Int32) (d : xD) : Option xD :=
  (xgI 8 sh d q0 0).bind fun v9 => if v9 < (20 : Int32) then (k_X8_add_45 sh q0 x1 x2 d) else ((xgR 8 sh d q0 1).bind fun v10 => (xgR 8 sh d q0 1).bind fun v11 => (xcp sh d v10 (1 : Int32) v11 (0 : Int32) (19 : Int32)).bind fun d12 => (xgR 8 sh d12 q0 2).bind fun v13 => (xgR 8 sh d12 q0 2).bind fun v14 => (xcp sh d12 v13 (1 : Int32) v14 (0 : Int32) (19 : Int32)).bind fun d15 => (xpI 8 sh d15 q0 0 (19 : Int32)).bind fun d16 => k_X8_add_45 sh q0 x1 x2 d16)
set_option maxHeartbeats 4000000 in
set_option maxRecDepth 100000 in
theorem mt_X8_add (l : Launch) (D : va_G) (cid : FieldType → ClassId) (b : Nat) (ex : Bool) (sa sv B0 : Nat) (sh : List xSh) (q0 : Nat) (x1 : Int32) (x2 : Int32) (d : xD) (dz : xD) (hf : f_X8_add sh q0 x1 x2 d = some dz) : xMet l yX8_add cX8_add 3 none 1 0 0 D cid b ex sa sv B0 [.ref (b + q0), .int x1, .int x2] sh d none sh dz := by
  refine xMet.of (by decide) (Nat.le_of_ble_eq_true rfl) ?_
  intro p e s m below meth c ls A S hr hin G hl
  have hl : lv_has ls 3 [(0, .ref (b + q0)), (1, .int x1), (2, .int x2)] := hl
  generalize ([.ref (b + q0), .int x1, .int x2] : List Value).toArray = av at S ⊢
  have hx := S.1
  have hb := S.2.1
  have hml := S.2.2.1
  have hown := S.2.2.2.1
  have hts := S.2.2.2.2.1
  have K45 : ∀ (q0 : Nat) (x1 : Int32) (x2 : Int32) (d : xD), k_X8_add_45 sh q0 x1 x2 d = some dz → ∀ (H : Heap) (locs : List Loc) (ls : Array Slot), lv_has ls 3 [(0, .ref (b + q0)), (1, .int x1), (2, .int x2)] → xG D cid b A sh d s H locs → W p l e (xRm 1 0 0) s m av below meth c H locs 0 0 (MQ below (xQ D cid b ex A none sh dz) av s 0 0 A) (F0 m 45 ls []) := by
    intro q0 x1 x2 d hf H locs ls hl G
    unfold k_X8_add_45 at hf
    refine lv_aload_n hx hb dX8_add_45 rfl (lv_at hl 0 rfl) ?_
    obtain ⟨v1, hv1, hf⟩ := x_ob hf
    refine xr_getR (ci := 8) (k := 1) S G hv1 rfl kw_426 dX8_add_46 ?_
    refine lv_aload_n hx hb dX8_add_49 rfl (lv_at hl 0 rfl) ?_
    obtain ⟨v2, hv2, hf⟩ := x_ob hf
    refine xr_getI (ci := 8) (k := 0) S G hv2 rfl kw_424 dX8_add_50 ?_
    refine lv_iload_n hx hb dX8_add_53 rfl (lv_at hl 1 rfl) ?_
    obtain ⟨d3, hd3, hf⟩ := x_ob hf
    refine xr_iast S G hd3 dX8_add_54 (fun H locs G => ?_)
    refine lv_aload_n hx hb dX8_add_55 rfl (lv_at hl 0 rfl) ?_
    obtain ⟨v4, hv4, hf⟩ := x_ob hf
    refine xr_getR (ci := 8) (k := 2) S G hv4 rfl kw_427 dX8_add_56 ?_
    refine lv_aload_n hx hb dX8_add_59 rfl (lv_at hl 0 rfl) ?_
    obtain ⟨v5, hv5, hf⟩ := x_ob hf
    refine xr_getI (ci := 8) (k := 0) S G hv5 rfl kw_424 dX8_add_60 ?_
    refine lv_iload_n hx hb dX8_add_63 rfl (lv_at hl 2 rfl) ?_
    obtain ⟨d6, hd6, hf⟩ := x_ob hf
    refine xr_iast S G hd6 dX8_add_64 (fun H locs G => ?_)
    refine lv_aload_n hx hb dX8_add_65 rfl (lv_at hl 0 rfl) ?_
    refine lv_dup hx hb dX8_add_66 rfl ?_
    obtain ⟨v7, hv7, hf⟩ := x_ob hf
    refine xr_getI (ci := 8) (k := 0) S G hv7 rfl kw_424 dX8_add_67 ?_
    refine lv_iconst (v := (1 : Int32)) hx hb dX8_add_70 (by decide) ?_
    refine lv_iadd hx hb dX8_add_71 ?_
    obtain ⟨d8, hd8, hf⟩ := x_ob hf
    refine xr_putI (ci := 8) (k := 0) S G hd8 rfl kw_424 dX8_add_72 (fun H locs G => ?_)
    cases hf
    exact xr_vret S G (fun _ => rfl) hr dX8_add_75
  unfold f_X8_add at hf
  refine lv_aload_n hx hb dX8_add_0 rfl (lv_at hl 0 rfl) ?_
  obtain ⟨v9, hv9, hf⟩ := x_ob hf
  refine xr_getI (ci := 8) (k := 0) S G hv9 rfl kw_424 dX8_add_1 ?_
  refine lv_bipush (v := (20 : Int32)) hx hb dX8_add_4 (by decide) ?_
  refine lv_icmp_lt (tgt := 45) hx hb dX8_add_6 (by decide) (fun c => ?_) (fun c => ?_)
  · have hf := x_pos c hf
    exact K45 q0 x1 x2 d hf _ _ ls (lv_sub hl [0, 1, 2] rfl) G
  · have hf := x_neg c hf
    refine lv_aload_n hx hb dX8_add_9 rfl (lv_at hl 0 rfl) ?_
    obtain ⟨v10, hv10, hf⟩ := x_ob hf
    refine xr_getR (ci := 8) (k := 1) S G hv10 rfl kw_426 dX8_add_10 ?_
    refine lv_iconst (v := (1 : Int32)) hx hb dX8_add_13 (by decide) ?_
    refine lv_aload_n hx hb dX8_add_14 rfl (lv_at hl 0 rfl) ?_
    obtain ⟨v11, hv11, hf⟩ := x_ob hf
    refine xr_getR (ci := 8) (k := 1) S G hv11 rfl kw_426 dX8_add_15 ?_
    refine lv_iconst (v := (0 : Int32)) hx hb dX8_add_18 (by decide) ?_
    refine lv_bipush (v := (19 : Int32)) hx hb dX8_add_19 (by decide) ?_
    obtain ⟨d12, hd12, hf⟩ := x_ob hf
    refine xr_copy S G hl.1 hd12 kw_802 (Nat.le_of_ble_eq_true rfl) (Nat.le_of_ble_eq_true rfl) dX8_add_21 (fun H locs G => ?_)
    refine lv_aload_n hx hb dX8_add_24 rfl (lv_at hl 0 rfl) ?_
    obtain ⟨v13, hv13, hf⟩ := x_ob hf
    refine xr_getR (ci := 8) (k := 2) S G hv13 rfl kw_427 dX8_add_25 ?_
    refine lv_iconst (v := (1 : Int32)) hx hb dX8_add_28 (by decide) ?_
    refine lv_aload_n hx hb dX8_add_29 rfl (lv_at hl 0 rfl) ?_
    obtain ⟨v14, hv14, hf⟩ := x_ob hf
    refine xr_getR (ci := 8) (k := 2) S G hv14 rfl kw_427 dX8_add_30 ?_
    refine lv_iconst (v := (0 : Int32)) hx hb dX8_add_33 (by decide) ?_
    refine lv_bipush (v := (19 : Int32)) hx hb dX8_add_34 (by decide) ?_
    obtain ⟨d15, hd15, hf⟩ := x_ob hf
    refine xr_copy S G hl.1 hd15 kw_802 (Nat.le_of_ble_eq_true rfl) (Nat.le_of_ble_eq_true rfl) dX8_add_36 (fun H locs G => ?_)
    refine lv_aload_n hx hb dX8_add_39 rfl (lv_at hl 0 rfl) ?_
    refine lv_bipush (v := (19 : Int32)) hx hb dX8_add_40 (by decide) ?_
    obtain ⟨d16, hd16, hf⟩ := x_ob hf
    refine xr_putI (ci := 8) (k := 0) S G hd16 rfl kw_424 dX8_add_42 (fun H locs G => ?_)
    exact K45 q0 x1 x2 d16 hf _ _ ls (lv_sub hl [0, 1, 2] rfl) G

-- HalfLandingsModel.back()I
theorem dX10_back_0 : decode cX10_back 0 = .ok (.aload_n 0, 1) := by decide +kernel
theorem dX10_back_1 : decode cX10_back 1 = .ok (.iconst 0, 1) := by decide +kernel
theorem dX10_back_2 : decode cX10_back 2 = .ok (.putfield 145, 3) := by decide +kernel
theorem dX10_back_5 : decode cX10_back 5 = .ok (.aload_n 0, 1) := by decide +kernel
theorem dX10_back_6 : decode cX10_back 6 = .ok (.getfield 298, 3) := by decide +kernel
theorem dX10_back_9 : decode cX10_back 9 = .ok (.ifCond .ne 5, 3) := by decide +kernel
theorem dX10_back_12 : decode cX10_back 12 = .ok (.iconst (-1), 1) := by decide +kernel
theorem dX10_back_13 : decode cX10_back 13 = .ok (.ireturn, 1) := by decide +kernel
theorem dX10_back_14 : decode cX10_back 14 = .ok (.aload_n 0, 1) := by decide +kernel
theorem dX10_back_15 : decode cX10_back 15 = .ok (.iconst 0, 1) := by decide +kernel
theorem dX10_back_16 : decode cX10_back 16 = .ok (.iconst 2, 1) := by decide +kernel
theorem dX10_back_17 : decode cX10_back 17 = .ok (.invokevirtual 413, 3) := by decide +kernel
theorem dX10_back_20 : decode cX10_back 20 = .ok (.aload_n 0, 1) := by decide +kernel
theorem dX10_back_21 : decode cX10_back 21 = .ok (.iconst 0, 1) := by decide +kernel
theorem dX10_back_22 : decode cX10_back 22 = .ok (.putfield 302, 3) := by decide +kernel
theorem dX10_back_25 : decode cX10_back 25 = .ok (.aload_n 0, 1) := by decide +kernel
theorem dX10_back_26 : decode cX10_back 26 = .ok (.getfield 72, 3) := by decide +kernel
theorem dX10_back_29 : decode cX10_back 29 = .ok (.iconst 0, 1) := by decide +kernel
theorem dX10_back_30 : decode cX10_back 30 = .ok (.iaload, 1) := by decide +kernel
theorem dX10_back_31 : decode cX10_back 31 = .ok (.ireturn, 1) := by decide +kernel
theorem hd_X10_back : yX10_back.cls = xCn 10 ∧ yX10_back.cls ≠ "java/lang/invoke/MethodHandle" ∧ yX10_back.cls ≠ "java/lang/invoke/VarHandle" ∧ (parseMethodDescriptor yX10_back.desc).map (fun d => d.parameters.length) = some 0 := by decide +kernel
def f_X10_back (sh : List xSh) (q0 : Nat) (d : xD) : Option (Int32 × xD) :=
  (xpI 10 sh d q0 0 (0 : Int32)).bind fun d1 => (xgI 10 sh d1 q0 48).bind fun v2 => if v2 = 0 then (some ((-1 : Int32), d1)) else ((xon 10 sh q0 (f_X10_copies sh q0 (0 : Int32) (2 : Int32) d1)).bind fun d3 => (xpI 10 sh d3 q0 49 (0 : Int32)).bind fun d4 => (xgR 10 sh d4 q0 35).bind fun v5 => (xaI .int sh d4 v5 (0 : Int32)).bind fun v6 => some (v6, d4))
set_option maxHeartbeats 4000000 in
set_option maxRecDepth 100000 in
theorem mt_X10_back (l : Launch) (D : va_G) (cid : FieldType → ClassId) (b : Nat) (ex : Bool) (sa sv B0 : Nat) (sh : List xSh) (q0 : Nat) (d : xD) (r : Int32) (dz : xD) (hf : f_X10_back sh q0 d = some (r, dz)) : xMet l yX10_back cX10_back 1 (some .int) 1 0 0 D cid b ex sa sv B0 [.ref (b + q0)] sh d (some (.int r)) sh dz := by
  refine xMet.of (by decide) (Nat.le_of_ble_eq_true rfl) ?_
  intro p e s m below meth c ls A S hr hin G hl
  have hl : lv_has ls 1 [(0, .ref (b + q0))] := hl
  generalize ([.ref (b + q0)] : List Value).toArray = av at S ⊢
  have hx := S.1
  have hb := S.2.1
  have hml := S.2.2.1
  have hown := S.2.2.2.1
  have hts := S.2.2.2.2.1
  unfold f_X10_back at hf
  refine lv_aload_n hx hb dX10_back_0 rfl (lv_at hl 0 rfl) ?_
  refine lv_iconst (v := (0 : Int32)) hx hb dX10_back_1 (by decide) ?_
  obtain ⟨d1, hd1, hf⟩ := x_ob hf
  refine xr_putI (ci := 10) (k := 0) S G hd1 rfl kw_1168 dX10_back_2 (fun H locs G => ?_)
  refine lv_aload_n hx hb dX10_back_5 rfl (lv_at hl 0 rfl) ?_
  obtain ⟨v2, hv2, hf⟩ := x_ob hf
  refine xr_getI (ci := 10) (k := 48) S G hv2 rfl kw_1216 dX10_back_6 ?_
  refine lv_if_ne (tgt := 14) hx hb dX10_back_9 (by decide) (fun c => ?_) (fun c => ?_)
  · have hf := x_neg c hf
    refine lv_aload_n hx hb dX10_back_14 rfl (lv_at hl 0 rfl) ?_
    refine lv_iconst (v := (0 : Int32)) hx hb dX10_back_15 (by decide) ?_
    refine lv_iconst (v := (2 : Int32)) hx hb dX10_back_16 (by decide) ?_
    obtain ⟨d3, hd3, hf⟩ := x_ob hf
    obtain ⟨hqd3, hd3⟩ := xon_of hd3
    refine xr_callV (ci := 10) (As := [.int (0 : Int32), .int (2 : Int32)]) (rest := []) (st1 := []) S G hl.1 (fun _ => rfl) (mt_X10_copies l D cid b ex sa sv B0 sh q0 (0 : Int32) (2 : Int32) d1 _ hd3) hqd3 (by decide) kw_1580 kw_1582 ks_73 kw_17 kw_1583 hd_X10_copies ⟨Nat.le_of_ble_eq_true rfl, Nat.le_of_ble_eq_true rfl⟩ rfl rfl rfl (Nat.le_of_ble_eq_true rfl) ⟨Nat.le_of_ble_eq_true rfl, Nat.le_of_ble_eq_true rfl⟩ dX10_back_17 (fun H locs G => ?_)
    refine lv_aload_n hx hb dX10_back_20 rfl (lv_at hl 0 rfl) ?_
    refine lv_iconst (v := (0 : Int32)) hx hb dX10_back_21 (by decide) ?_
    obtain ⟨d4, hd4, hf⟩ := x_ob hf
    refine xr_putI (ci := 10) (k := 49) S G hd4 rfl kw_1217 dX10_back_22 (fun H locs G => ?_)
    refine lv_aload_n hx hb dX10_back_25 rfl (lv_at hl 0 rfl) ?_
    obtain ⟨v5, hv5, hf⟩ := x_ob hf
    refine xr_getR (ci := 10) (k := 35) S G hv5 rfl kw_1203 dX10_back_26 ?_
    refine lv_iconst (v := (0 : Int32)) hx hb dX10_back_29 (by decide) ?_
    obtain ⟨v6, hv6, hf⟩ := x_ob hf
    refine xr_iald S G hv6 dX10_back_30 ?_
    cases hf
    exact xr_iret S G (fun _ => rfl) hr dX10_back_31
  · have hf := x_pos c hf
    refine lv_iconst (v := (-1 : Int32)) hx hb dX10_back_12 (by decide) ?_
    cases hf
    exact xr_iret S G (fun _ => rfl) hr dX10_back_13
-- HalfLandingsModel.count(I)I
theorem dX10_count_0 : decode cX10_count 0 = .ok (.aload_n 0, 1) := by decide +kernel
theorem dX10_count_1 : decode cX10_count 1 = .ok (.iconst 0, 1) := by decide +kernel
theorem dX10_count_2 : decode cX10_count 2 = .ok (.putfield 145, 3) := by decide +kernel
theorem dX10_count_5 : decode cX10_count 5 = .ok (.iload_n 1, 1) := by decide +kernel
theorem dX10_count_6 : decode cX10_count 6 = .ok (.tableswitch 165 0 13 #[70, 77, 84, 91, 98, 106, 113, 120, 127, 134, 140, 150, 155, 160], 70) := by decide +kernel
theorem dX10_count_76 : decode cX10_count 76 = .ok (.aload_n 0, 1) := by decide +kernel
theorem dX10_count_77 : decode cX10_count 77 = .ok (.getfield 13, 3) := by decide +kernel
theorem dX10_count_80 : decode cX10_count 80 = .ok (.iconst 1, 1) := by decide +kernel
theorem dX10_count_81 : decode cX10_count 81 = .ok (.iaload, 1) := by decide +kernel
theorem dX10_count_82 : decode cX10_count 82 = .ok (.ireturn, 1) := by decide +kernel
theorem dX10_count_83 : decode cX10_count 83 = .ok (.aload_n 0, 1) := by decide +kernel
theorem dX10_count_84 : decode cX10_count 84 = .ok (.getfield 13, 3) := by decide +kernel
theorem dX10_count_87 : decode cX10_count 87 = .ok (.iconst 2, 1) := by decide +kernel
theorem dX10_count_88 : decode cX10_count 88 = .ok (.iaload, 1) := by decide +kernel
theorem dX10_count_89 : decode cX10_count 89 = .ok (.ireturn, 1) := by decide +kernel
theorem dX10_count_90 : decode cX10_count 90 = .ok (.aload_n 0, 1) := by decide +kernel
theorem dX10_count_91 : decode cX10_count 91 = .ok (.getfield 13, 3) := by decide +kernel
theorem dX10_count_94 : decode cX10_count 94 = .ok (.iconst 3, 1) := by decide +kernel
theorem dX10_count_95 : decode cX10_count 95 = .ok (.iaload, 1) := by decide +kernel
theorem dX10_count_96 : decode cX10_count 96 = .ok (.ireturn, 1) := by decide +kernel
theorem dX10_count_97 : decode cX10_count 97 = .ok (.aload_n 0, 1) := by decide +kernel
theorem dX10_count_98 : decode cX10_count 98 = .ok (.getfield 13, 3) := by decide +kernel
theorem dX10_count_101 : decode cX10_count 101 = .ok (.iconst 0, 1) := by decide +kernel
theorem dX10_count_102 : decode cX10_count 102 = .ok (.iaload, 1) := by decide +kernel
theorem dX10_count_103 : decode cX10_count 103 = .ok (.ireturn, 1) := by decide +kernel
theorem dX10_count_104 : decode cX10_count 104 = .ok (.aload_n 0, 1) := by decide +kernel
theorem dX10_count_105 : decode cX10_count 105 = .ok (.getfield 13, 3) := by decide +kernel
theorem dX10_count_108 : decode cX10_count 108 = .ok (.bipush 7, 2) := by decide +kernel
theorem dX10_count_110 : decode cX10_count 110 = .ok (.iaload, 1) := by decide +kernel
theorem dX10_count_111 : decode cX10_count 111 = .ok (.ireturn, 1) := by decide +kernel
theorem dX10_count_112 : decode cX10_count 112 = .ok (.aload_n 0, 1) := by decide +kernel
theorem dX10_count_113 : decode cX10_count 113 = .ok (.getfield 72, 3) := by decide +kernel
theorem dX10_count_116 : decode cX10_count 116 = .ok (.iconst 0, 1) := by decide +kernel
theorem dX10_count_117 : decode cX10_count 117 = .ok (.iaload, 1) := by decide +kernel
theorem dX10_count_118 : decode cX10_count 118 = .ok (.ireturn, 1) := by decide +kernel
theorem dX10_count_119 : decode cX10_count 119 = .ok (.aload_n 0, 1) := by decide +kernel
theorem dX10_count_120 : decode cX10_count 120 = .ok (.getfield 78, 3) := by decide +kernel
theorem dX10_count_123 : decode cX10_count 123 = .ok (.iconst 0, 1) := by decide +kernel
theorem dX10_count_124 : decode cX10_count 124 = .ok (.iaload, 1) := by decide +kernel
theorem dX10_count_125 : decode cX10_count 125 = .ok (.ireturn, 1) := by decide +kernel
theorem dX10_count_126 : decode cX10_count 126 = .ok (.aload_n 0, 1) := by decide +kernel
theorem dX10_count_127 : decode cX10_count 127 = .ok (.iconst 0, 1) := by decide +kernel
theorem dX10_count_128 : decode cX10_count 128 = .ok (.iconst 3, 1) := by decide +kernel
theorem dX10_count_129 : decode cX10_count 129 = .ok (.invokevirtual 445, 3) := by decide +kernel
theorem dX10_count_132 : decode cX10_count 132 = .ok (.ireturn, 1) := by decide +kernel
theorem dX10_count_133 : decode cX10_count 133 = .ok (.aload_n 0, 1) := by decide +kernel
theorem dX10_count_134 : decode cX10_count 134 = .ok (.iconst 0, 1) := by decide +kernel
theorem dX10_count_135 : decode cX10_count 135 = .ok (.iconst 2, 1) := by decide +kernel
theorem dX10_count_136 : decode cX10_count 136 = .ok (.invokevirtual 445, 3) := by decide +kernel
theorem dX10_count_139 : decode cX10_count 139 = .ok (.ireturn, 1) := by decide +kernel
theorem dX10_count_140 : decode cX10_count 140 = .ok (.aload_n 0, 1) := by decide +kernel
theorem dX10_count_141 : decode cX10_count 141 = .ok (.iconst 0, 1) := by decide +kernel
theorem dX10_count_142 : decode cX10_count 142 = .ok (.invokevirtual 485, 3) := by decide +kernel
theorem dX10_count_145 : decode cX10_count 145 = .ok (.ireturn, 1) := by decide +kernel
theorem dX10_count_146 : decode cX10_count 146 = .ok (.aload_n 0, 1) := by decide +kernel
theorem dX10_count_147 : decode cX10_count 147 = .ok (.getfield 84, 3) := by decide +kernel
theorem dX10_count_150 : decode cX10_count 150 = .ok (.iconst 0, 1) := by decide +kernel
theorem dX10_count_151 : decode cX10_count 151 = .ok (.iaload, 1) := by decide +kernel
theorem dX10_count_152 : decode cX10_count 152 = .ok (.invokestatic 337, 3) := by decide +kernel
theorem dX10_count_155 : decode cX10_count 155 = .ok (.ireturn, 1) := by decide +kernel
theorem dX10_count_156 : decode cX10_count 156 = .ok (.aload_n 0, 1) := by decide +kernel
theorem dX10_count_157 : decode cX10_count 157 = .ok (.getfield 295, 3) := by decide +kernel
theorem dX10_count_160 : decode cX10_count 160 = .ok (.ireturn, 1) := by decide +kernel
theorem dX10_count_161 : decode cX10_count 161 = .ok (.aload_n 0, 1) := by decide +kernel
theorem dX10_count_162 : decode cX10_count 162 = .ok (.invokevirtual 474, 3) := by decide +kernel
theorem dX10_count_165 : decode cX10_count 165 = .ok (.ireturn, 1) := by decide +kernel
theorem dX10_count_166 : decode cX10_count 166 = .ok (.aload_n 0, 1) := by decide +kernel
theorem dX10_count_167 : decode cX10_count 167 = .ok (.getfield 302, 3) := by decide +kernel
theorem dX10_count_170 : decode cX10_count 170 = .ok (.ireturn, 1) := by decide +kernel
theorem dX10_count_171 : decode cX10_count 171 = .ok (.iconst (-1), 1) := by decide +kernel
theorem dX10_count_172 : decode cX10_count 172 = .ok (.ireturn, 1) := by decide +kernel
theorem hd_X10_count : yX10_count.cls = xCn 10 ∧ yX10_count.cls ≠ "java/lang/invoke/MethodHandle" ∧ yX10_count.cls ≠ "java/lang/invoke/VarHandle" ∧ (parseMethodDescriptor yX10_count.desc).map (fun d => d.parameters.length) = some 1 := by decide +kernel
def f_X10_count (sh : List xSh) (q0 : Nat) (x1 : Int32) (d : xD) : Option (Int32 × xD) :=
  (xpI 10 sh d q0 0 (0 : Int32)).bind fun d1 => if x1 = (0 : Int32) then ((xgR 10 sh d1 q0 3).bind fun v3 => (xaI .int sh d1 v3 (1 : Int32)).bind fun v4 => some (v4, d1)) else (if x1 = (1 : Int32) then ((xgR 10 sh d1 q0 3).bind fun v6 => (xaI .int sh d1 v6 (2 : Int32)).bind fun v7 => some (v7, d1)) else (if x1 = (2 : Int32) then ((xgR 10 sh d1 q0 3).bind fun v9 => (xaI .int sh d1 v9 (3 : Int32)).bind fun v10 => some (v10, d1)) else (if x1 = (3 : Int32) then ((xgR 10 sh d1 q0 3).bind fun v12 => (xaI .int sh d1 v12 (0 : Int32)).bind fun v13 => some (v13, d1)) else (if x1 = (4 : Int32) then ((xgR 10 sh d1 q0 3).bind fun v15 => (xaI .int sh d1 v15 (7 : Int32)).bind fun v16 => some (v16, d1)) else (if x1 = (5 : Int32) then ((xgR 10 sh d1 q0 35).bind fun v18 => (xaI .int sh d1 v18 (0 : Int32)).bind fun v19 => some (v19, d1)) else (if x1 = (6 : Int32) then ((xgR 10 sh d1 q0 37).bind fun v21 => (xaI .int sh d1 v21 (0 : Int32)).bind fun v22 => some (v22, d1)) else (if x1 = (7 : Int32) then ((xon 10 sh q0 (f_X10_walkersOf sh q0 (0 : Int32) (3 : Int32) d1)).bind fun z24 => some (z24.1, z24.2)) else (if x1 = (8 : Int32) then ((xon 10 sh q0 (f_X10_walkersOf sh q0 (0 : Int32) (2 : Int32) d1)).bind fun z26 => some (z26.1, z26.2)) else (if x1 = (9 : Int32) then ((xon 10 sh q0 (f_X10_wornAll sh q0 (0 : Int32) d1)).bind fun z28 => some (z28.1, z28.2)) else (if x1 = (10 : Int32) then ((xgR 10 sh d1 q0 39).bind fun v30 => (xaI .int sh d1 v30 (0 : Int32)).bind fun v31 => (f_X10_bitsOf sh v31 d1).bind fun z32 => some (z32.1, z32.2)) else (if x1 = (11 : Int32) then ((xgI 10 sh d1 q0 57).bind fun v34 => some (v34, d1)) else (if x1 = (12 : Int32) then ((xon 10 sh q0 (f_X10_knownMany sh q0 d1)).bind fun z36 => some (z36.1, z36.2)) else (if x1 = (13 : Int32) then ((xgI 10 sh d1 q0 49).bind fun v38 => some (v38, d1)) else (some ((-1 : Int32), d1)))))))))))))))
set_option maxHeartbeats 4000000 in
set_option maxRecDepth 100000 in
theorem mt_X10_count (l : Launch) (D : va_G) (cid : FieldType → ClassId) (b : Nat) (ex : Bool) (sa sv B0 : Nat) (sh : List xSh) (q0 : Nat) (x1 : Int32) (d : xD) (r : Int32) (dz : xD) (hf : f_X10_count sh q0 x1 d = some (r, dz)) : xMet l yX10_count cX10_count 2 (some .int) 1 0 0 D cid b ex sa sv B0 [.ref (b + q0), .int x1] sh d (some (.int r)) sh dz := by
  refine xMet.of (by decide) (Nat.le_of_ble_eq_true rfl) ?_
  intro p e s m below meth c ls A S hr hin G hl
  have hl : lv_has ls 2 [(0, .ref (b + q0)), (1, .int x1)] := hl
  generalize ([.ref (b + q0), .int x1] : List Value).toArray = av at S ⊢
  have hx := S.1
  have hb := S.2.1
  have hml := S.2.2.1
  have hown := S.2.2.2.1
  have hts := S.2.2.2.2.1
  unfold f_X10_count at hf
  refine lv_aload_n hx hb dX10_count_0 rfl (lv_at hl 0 rfl) ?_
  refine lv_iconst (v := (0 : Int32)) hx hb dX10_count_1 (by decide) ?_
  obtain ⟨d1, hd1, hf⟩ := x_ob hf
  refine xr_putI (ci := 10) (k := 0) S G hd1 rfl kw_1168 dX10_count_2 (fun H locs G => ?_)
  refine lv_iload_n hx hb dX10_count_5 rfl (lv_at hl 1 rfl) ?_
  by_cases c2 : x1 = (0 : Int32)
  · have hf := x_pos c2 hf
    refine xr_tab (k := (0 : Int32)) (tgt := 76) hx hb c2 dX10_count_6 (by decide) (by decide) rfl (by decide) ?_
    refine lv_aload_n hx hb dX10_count_76 rfl (lv_at hl 0 rfl) ?_
    obtain ⟨v3, hv3, hf⟩ := x_ob hf
    refine xr_getR (ci := 10) (k := 3) S G hv3 rfl kw_1171 dX10_count_77 ?_
    refine lv_iconst (v := (1 : Int32)) hx hb dX10_count_80 (by decide) ?_
    obtain ⟨v4, hv4, hf⟩ := x_ob hf
    refine xr_iald S G hv4 dX10_count_81 ?_
    cases hf
    exact xr_iret S G (fun _ => rfl) hr dX10_count_82
  · have hf := x_neg c2 hf
    by_cases c5 : x1 = (1 : Int32)
    · have hf := x_pos c5 hf
      refine xr_tab (k := (1 : Int32)) (tgt := 83) hx hb c5 dX10_count_6 (by decide) (by decide) rfl (by decide) ?_
      refine lv_aload_n hx hb dX10_count_83 rfl (lv_at hl 0 rfl) ?_
      obtain ⟨v6, hv6, hf⟩ := x_ob hf
      refine xr_getR (ci := 10) (k := 3) S G hv6 rfl kw_1171 dX10_count_84 ?_
      refine lv_iconst (v := (2 : Int32)) hx hb dX10_count_87 (by decide) ?_
      obtain ⟨v7, hv7, hf⟩ := x_ob hf
      refine xr_iald S G hv7 dX10_count_88 ?_
      cases hf
      exact xr_iret S G (fun _ => rfl) hr dX10_count_89
    · have hf := x_neg c5 hf
      by_cases c8 : x1 = (2 : Int32)
      · have hf := x_pos c8 hf
        refine xr_tab (k := (2 : Int32)) (tgt := 90) hx hb c8 dX10_count_6 (by decide) (by decide) rfl (by decide) ?_
        refine lv_aload_n hx hb dX10_count_90 rfl (lv_at hl 0 rfl) ?_
        obtain ⟨v9, hv9, hf⟩ := x_ob hf
        refine xr_getR (ci := 10) (k := 3) S G hv9 rfl kw_1171 dX10_count_91 ?_
        refine lv_iconst (v := (3 : Int32)) hx hb dX10_count_94 (by decide) ?_
        obtain ⟨v10, hv10, hf⟩ := x_ob hf
        refine xr_iald S G hv10 dX10_count_95 ?_
        cases hf
        exact xr_iret S G (fun _ => rfl) hr dX10_count_96
      · have hf := x_neg c8 hf
        by_cases c11 : x1 = (3 : Int32)
        · have hf := x_pos c11 hf
          refine xr_tab (k := (3 : Int32)) (tgt := 97) hx hb c11 dX10_count_6 (by decide) (by decide) rfl (by decide) ?_
          refine lv_aload_n hx hb dX10_count_97 rfl (lv_at hl 0 rfl) ?_
          obtain ⟨v12, hv12, hf⟩ := x_ob hf
          refine xr_getR (ci := 10) (k := 3) S G hv12 rfl kw_1171 dX10_count_98 ?_
          refine lv_iconst (v := (0 : Int32)) hx hb dX10_count_101 (by decide) ?_
          obtain ⟨v13, hv13, hf⟩ := x_ob hf
          refine xr_iald S G hv13 dX10_count_102 ?_
          cases hf
          exact xr_iret S G (fun _ => rfl) hr dX10_count_103
        · have hf := x_neg c11 hf
          by_cases c14 : x1 = (4 : Int32)
          · have hf := x_pos c14 hf
            refine xr_tab (k := (4 : Int32)) (tgt := 104) hx hb c14 dX10_count_6 (by decide) (by decide) rfl (by decide) ?_
            refine lv_aload_n hx hb dX10_count_104 rfl (lv_at hl 0 rfl) ?_
            obtain ⟨v15, hv15, hf⟩ := x_ob hf
            refine xr_getR (ci := 10) (k := 3) S G hv15 rfl kw_1171 dX10_count_105 ?_
            refine lv_bipush (v := (7 : Int32)) hx hb dX10_count_108 (by decide) ?_
            obtain ⟨v16, hv16, hf⟩ := x_ob hf
            refine xr_iald S G hv16 dX10_count_110 ?_
            cases hf
            exact xr_iret S G (fun _ => rfl) hr dX10_count_111
          · have hf := x_neg c14 hf
            by_cases c17 : x1 = (5 : Int32)
            · have hf := x_pos c17 hf
              refine xr_tab (k := (5 : Int32)) (tgt := 112) hx hb c17 dX10_count_6 (by decide) (by decide) rfl (by decide) ?_
              refine lv_aload_n hx hb dX10_count_112 rfl (lv_at hl 0 rfl) ?_
              obtain ⟨v18, hv18, hf⟩ := x_ob hf
              refine xr_getR (ci := 10) (k := 35) S G hv18 rfl kw_1203 dX10_count_113 ?_
              refine lv_iconst (v := (0 : Int32)) hx hb dX10_count_116 (by decide) ?_
              obtain ⟨v19, hv19, hf⟩ := x_ob hf
              refine xr_iald S G hv19 dX10_count_117 ?_
              cases hf
              exact xr_iret S G (fun _ => rfl) hr dX10_count_118
            · have hf := x_neg c17 hf
              by_cases c20 : x1 = (6 : Int32)
              · have hf := x_pos c20 hf
                refine xr_tab (k := (6 : Int32)) (tgt := 119) hx hb c20 dX10_count_6 (by decide) (by decide) rfl (by decide) ?_
                refine lv_aload_n hx hb dX10_count_119 rfl (lv_at hl 0 rfl) ?_
                obtain ⟨v21, hv21, hf⟩ := x_ob hf
                refine xr_getR (ci := 10) (k := 37) S G hv21 rfl kw_1205 dX10_count_120 ?_
                refine lv_iconst (v := (0 : Int32)) hx hb dX10_count_123 (by decide) ?_
                obtain ⟨v22, hv22, hf⟩ := x_ob hf
                refine xr_iald S G hv22 dX10_count_124 ?_
                cases hf
                exact xr_iret S G (fun _ => rfl) hr dX10_count_125
              · have hf := x_neg c20 hf
                by_cases c23 : x1 = (7 : Int32)
                · have hf := x_pos c23 hf
                  refine xr_tab (k := (7 : Int32)) (tgt := 126) hx hb c23 dX10_count_6 (by decide) (by decide) rfl (by decide) ?_
                  refine lv_aload_n hx hb dX10_count_126 rfl (lv_at hl 0 rfl) ?_
                  refine lv_iconst (v := (0 : Int32)) hx hb dX10_count_127 (by decide) ?_
                  refine lv_iconst (v := (3 : Int32)) hx hb dX10_count_128 (by decide) ?_
                  obtain ⟨z24, hz24, hf⟩ := x_ob hf
                  obtain ⟨hqz24, hz24⟩ := xon_of hz24
                  refine xr_callV (ci := 10) (As := [.int (0 : Int32), .int (3 : Int32)]) (rest := []) (st1 := [.int z24.1]) S G hl.1 (fun _ => rfl) (mt_X10_walkersOf l D cid b ex sa sv B0 sh q0 (0 : Int32) (3 : Int32) d1 _ _ hz24) hqz24 (by decide) kw_1665 kw_1667 ks_89 kw_17 kw_1668 hd_X10_walkersOf ⟨Nat.le_of_ble_eq_true rfl, Nat.le_of_ble_eq_true rfl⟩ rfl rfl rfl (Nat.le_of_ble_eq_true rfl) ⟨Nat.le_of_ble_eq_true rfl, Nat.le_of_ble_eq_true rfl⟩ dX10_count_129 (fun H locs G => ?_)
                  cases hf
                  exact xr_iret S G (fun _ => rfl) hr dX10_count_132
                · have hf := x_neg c23 hf
                  by_cases c25 : x1 = (8 : Int32)
                  · have hf := x_pos c25 hf
                    refine xr_tab (k := (8 : Int32)) (tgt := 133) hx hb c25 dX10_count_6 (by decide) (by decide) rfl (by decide) ?_
                    refine lv_aload_n hx hb dX10_count_133 rfl (lv_at hl 0 rfl) ?_
                    refine lv_iconst (v := (0 : Int32)) hx hb dX10_count_134 (by decide) ?_
                    refine lv_iconst (v := (2 : Int32)) hx hb dX10_count_135 (by decide) ?_
                    obtain ⟨z26, hz26, hf⟩ := x_ob hf
                    obtain ⟨hqz26, hz26⟩ := xon_of hz26
                    refine xr_callV (ci := 10) (As := [.int (0 : Int32), .int (2 : Int32)]) (rest := []) (st1 := [.int z26.1]) S G hl.1 (fun _ => rfl) (mt_X10_walkersOf l D cid b ex sa sv B0 sh q0 (0 : Int32) (2 : Int32) d1 _ _ hz26) hqz26 (by decide) kw_1665 kw_1667 ks_89 kw_17 kw_1668 hd_X10_walkersOf ⟨Nat.le_of_ble_eq_true rfl, Nat.le_of_ble_eq_true rfl⟩ rfl rfl rfl (Nat.le_of_ble_eq_true rfl) ⟨Nat.le_of_ble_eq_true rfl, Nat.le_of_ble_eq_true rfl⟩ dX10_count_136 (fun H locs G => ?_)
                    cases hf
                    exact xr_iret S G (fun _ => rfl) hr dX10_count_139
                  · have hf := x_neg c25 hf
                    by_cases c27 : x1 = (9 : Int32)
                    · have hf := x_pos c27 hf
                      refine xr_tab (k := (9 : Int32)) (tgt := 140) hx hb c27 dX10_count_6 (by decide) (by decide) rfl (by decide) ?_
                      refine lv_aload_n hx hb dX10_count_140 rfl (lv_at hl 0 rfl) ?_
                      refine lv_iconst (v := (0 : Int32)) hx hb dX10_count_141 (by decide) ?_
                      obtain ⟨z28, hz28, hf⟩ := x_ob hf
                      obtain ⟨hqz28, hz28⟩ := xon_of hz28
                      refine xr_callV (ci := 10) (As := [.int (0 : Int32)]) (rest := []) (st1 := [.int z28.1]) S G hl.1 (fun _ => rfl) (mt_X10_wornAll l D cid b ex sa sv B0 sh q0 (0 : Int32) d1 _ _ hz28) hqz28 (by decide) kw_1787 kw_1789 ks_99 kw_17 kw_1790 hd_X10_wornAll ⟨Nat.le_of_ble_eq_true rfl, Nat.le_of_ble_eq_true rfl⟩ rfl rfl rfl (Nat.le_of_ble_eq_true rfl) ⟨Nat.le_of_ble_eq_true rfl, Nat.le_of_ble_eq_true rfl⟩ dX10_count_142 (fun H locs G => ?_)
                      cases hf
                      exact xr_iret S G (fun _ => rfl) hr dX10_count_145
                    · have hf := x_neg c27 hf
                      by_cases c29 : x1 = (10 : Int32)
                      · have hf := x_pos c29 hf
                        refine xr_tab (k := (10 : Int32)) (tgt := 146) hx hb c29 dX10_count_6 (by decide) (by decide) rfl (by decide) ?_
                        refine lv_aload_n hx hb dX10_count_146 rfl (lv_at hl 0 rfl) ?_
                        obtain ⟨v30, hv30, hf⟩ := x_ob hf
                        refine xr_getR (ci := 10) (k := 39) S G hv30 rfl kw_1207 dX10_count_147 ?_
                        refine lv_iconst (v := (0 : Int32)) hx hb dX10_count_150 (by decide) ?_
                        obtain ⟨v31, hv31, hf⟩ := x_ob hf
                        refine xr_iald S G hv31 dX10_count_151 ?_
                        obtain ⟨z32, hz32, hf⟩ := x_ob hf
                        refine xr_callS (As := [.int v31]) (rest := []) (st1 := [.int z32.1]) S G hl.1 (fun _ => rfl) (mt_X10_bitsOf l D cid b ex sa sv B0 sh v31 d1 _ _ hz32) kw_1524 kw_1525 kw_17 kw_1526 hd_X10_bitsOf ⟨Nat.le_of_ble_eq_true rfl, Nat.le_of_ble_eq_true rfl⟩ rfl rfl rfl (Nat.le_of_ble_eq_true rfl) ⟨Nat.le_of_ble_eq_true rfl, Nat.le_of_ble_eq_true rfl⟩ dX10_count_152 (fun H locs G => ?_)
                        cases hf
                        exact xr_iret S G (fun _ => rfl) hr dX10_count_155
                      · have hf := x_neg c29 hf
                        by_cases c33 : x1 = (11 : Int32)
                        · have hf := x_pos c33 hf
                          refine xr_tab (k := (11 : Int32)) (tgt := 156) hx hb c33 dX10_count_6 (by decide) (by decide) rfl (by decide) ?_
                          refine lv_aload_n hx hb dX10_count_156 rfl (lv_at hl 0 rfl) ?_
                          obtain ⟨v34, hv34, hf⟩ := x_ob hf
                          refine xr_getI (ci := 10) (k := 57) S G hv34 rfl kw_1225 dX10_count_157 ?_
                          cases hf
                          exact xr_iret S G (fun _ => rfl) hr dX10_count_160
                        · have hf := x_neg c33 hf
                          by_cases c35 : x1 = (12 : Int32)
                          · have hf := x_pos c35 hf
                            refine xr_tab (k := (12 : Int32)) (tgt := 161) hx hb c35 dX10_count_6 (by decide) (by decide) rfl (by decide) ?_
                            refine lv_aload_n hx hb dX10_count_161 rfl (lv_at hl 0 rfl) ?_
                            obtain ⟨z36, hz36, hf⟩ := x_ob hf
                            obtain ⟨hqz36, hz36⟩ := xon_of hz36
                            refine xr_callV (ci := 10) (As := []) (rest := []) (st1 := [.int z36.1]) S G hl.1 (fun _ => rfl) (mt_X10_knownMany l D cid b ex sa sv B0 sh q0 d1 _ _ hz36) hqz36 (by decide) kw_1750 kw_1752 ks_96 kw_17 kw_1753 hd_X10_knownMany ⟨Nat.le_of_ble_eq_true rfl, Nat.le_of_ble_eq_true rfl⟩ rfl rfl rfl (Nat.le_of_ble_eq_true rfl) ⟨Nat.le_of_ble_eq_true rfl, Nat.le_of_ble_eq_true rfl⟩ dX10_count_162 (fun H locs G => ?_)
                            cases hf
                            exact xr_iret S G (fun _ => rfl) hr dX10_count_165
                          · have hf := x_neg c35 hf
                            by_cases c37 : x1 = (13 : Int32)
                            · have hf := x_pos c37 hf
                              refine xr_tab (k := (13 : Int32)) (tgt := 166) hx hb c37 dX10_count_6 (by decide) (by decide) rfl (by decide) ?_
                              refine lv_aload_n hx hb dX10_count_166 rfl (lv_at hl 0 rfl) ?_
                              obtain ⟨v38, hv38, hf⟩ := x_ob hf
                              refine xr_getI (ci := 10) (k := 49) S G hv38 rfl kw_1217 dX10_count_167 ?_
                              cases hf
                              exact xr_iret S G (fun _ => rfl) hr dX10_count_170
                            · have hf := x_neg c37 hf
                              have hks : ∀ z ∈ ([0, 1, 2, 3, 4, 5, 6, 7, 8, 9, 10, 11, 12, 13] : List Int), (x1).toInt ≠ z := by
                                intro z hz
                                simp only [List.mem_cons, List.not_mem_nil, or_false] at hz
                                rcases hz with rfl | rfl | rfl | rfl | rfl | rfl | rfl | rfl | rfl | rfl | rfl | rfl | rfl | rfl
                                · exact x_toInt_ne 0 c2 (by decide)
                                · exact x_toInt_ne 1 c5 (by decide)
                                · exact x_toInt_ne 2 c8 (by decide)
                                · exact x_toInt_ne 3 c11 (by decide)
                                · exact x_toInt_ne 4 c14 (by decide)
                                · exact x_toInt_ne 5 c17 (by decide)
                                · exact x_toInt_ne 6 c20 (by decide)
                                · exact x_toInt_ne 7 c23 (by decide)
                                · exact x_toInt_ne 8 c25 (by decide)
                                · exact x_toInt_ne 9 c27 (by decide)
                                · exact x_toInt_ne 10 c29 (by decide)
                                · exact x_toInt_ne 11 c33 (by decide)
                                · exact x_toInt_ne 12 c35 (by decide)
                                · exact x_toInt_ne 13 c37 (by decide)
                              refine xr_tabD (tgt := 171) [0, 1, 2, 3, 4, 5, 6, 7, 8, 9, 10, 11, 12, 13] hx hb dX10_count_6 hks (by decide) (by decide) (by decide) ?_
                              refine lv_iconst (v := (-1 : Int32)) hx hb dX10_count_171 (by decide) ?_
                              cases hf
                              exact xr_iret S G (fun _ => rfl) hr dX10_count_172

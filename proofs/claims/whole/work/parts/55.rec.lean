theorem hd_X10_primary : yX10_primary.cls = xCn 10 ∧ yX10_primary.cls ≠ "java/lang/invoke/MethodHandle" ∧ yX10_primary.cls ≠ "java/lang/invoke/VarHandle" ∧ (parseMethodDescriptor yX10_primary.desc).map (fun d => d.parameters.length) = some 0 := by decide +kernel
theorem hd_X10_product : yX10_product.cls = xCn 10 ∧ yX10_product.cls ≠ "java/lang/invoke/MethodHandle" ∧ yX10_product.cls ≠ "java/lang/invoke/VarHandle" ∧ (parseMethodDescriptor yX10_product.desc).map (fun d => d.parameters.length) = some 0 := by decide +kernel
theorem hd_X10_sum : yX10_sum.cls = xCn 10 ∧ yX10_sum.cls ≠ "java/lang/invoke/MethodHandle" ∧ yX10_sum.cls ≠ "java/lang/invoke/VarHandle" ∧ (parseMethodDescriptor yX10_sum.desc).map (fun d => d.parameters.length) = some 0 := by decide +kernel
theorem hd_X10_negation : yX10_negation.cls = xCn 10 ∧ yX10_negation.cls ≠ "java/lang/invoke/MethodHandle" ∧ yX10_negation.cls ≠ "java/lang/invoke/VarHandle" ∧ (parseMethodDescriptor yX10_negation.desc).map (fun d => d.parameters.length) = some 0 := by decide +kernel
theorem hd_X10_conjunction : yX10_conjunction.cls = xCn 10 ∧ yX10_conjunction.cls ≠ "java/lang/invoke/MethodHandle" ∧ yX10_conjunction.cls ≠ "java/lang/invoke/VarHandle" ∧ (parseMethodDescriptor yX10_conjunction.desc).map (fun d => d.parameters.length) = some 0 := by decide +kernel
theorem hd_X10_expression : yX10_expression.cls = xCn 10 ∧ yX10_expression.cls ≠ "java/lang/invoke/MethodHandle" ∧ yX10_expression.cls ≠ "java/lang/invoke/VarHandle" ∧ (parseMethodDescriptor yX10_expression.desc).map (fun d => d.parameters.length) = some 0 := by decide +kernel
-- HalfLandingsModel.primary()V
theorem dX10_primary_0 : decode cX10_primary 0 = .ok (.aload_n 0, 1) := by decide +kernel
theorem dX10_primary_1 : decode cX10_primary 1 = .ok (.getfield 199, 3) := by decide +kernel
theorem dX10_primary_4 : decode cX10_primary 4 = .ok (.ifCond .eq 4, 3) := by decide +kernel
theorem dX10_primary_7 : decode cX10_primary 7 = .ok (.return_, 1) := by decide +kernel
theorem dX10_primary_8 : decode cX10_primary 8 = .ok (.aload_n 0, 1) := by decide +kernel
theorem dX10_primary_9 : decode cX10_primary 9 = .ok (.bipush 40, 2) := by decide +kernel
theorem dX10_primary_11 : decode cX10_primary 11 = .ok (.invokevirtual 249, 3) := by decide +kernel
theorem dX10_primary_14 : decode cX10_primary 14 = .ok (.ifCond .eq 87, 3) := by decide +kernel
theorem dX10_primary_17 : decode cX10_primary 17 = .ok (.aload_n 0, 1) := by decide +kernel
theorem dX10_primary_18 : decode cX10_primary 18 = .ok (.getfield 282, 3) := by decide +kernel
theorem dX10_primary_21 : decode cX10_primary 21 = .ok (.bipush 8, 2) := by decide +kernel
theorem dX10_primary_23 : decode cX10_primary 23 = .ok (.if_icmp .ne 8, 3) := by decide +kernel
theorem dX10_primary_26 : decode cX10_primary 26 = .ok (.aload_n 0, 1) := by decide +kernel
theorem dX10_primary_27 : decode cX10_primary 27 = .ok (.iconst 2, 1) := by decide +kernel
theorem dX10_primary_28 : decode cX10_primary 28 = .ok (.invokevirtual 208, 3) := by decide +kernel
theorem dX10_primary_31 : decode cX10_primary 31 = .ok (.aload_n 0, 1) := by decide +kernel
theorem dX10_primary_32 : decode cX10_primary 32 = .ok (.getfield 199, 3) := by decide +kernel
theorem dX10_primary_35 : decode cX10_primary 35 = .ok (.ifCond .eq 4, 3) := by decide +kernel
theorem dX10_primary_38 : decode cX10_primary 38 = .ok (.return_, 1) := by decide +kernel
theorem dX10_primary_39 : decode cX10_primary 39 = .ok (.aload_n 0, 1) := by decide +kernel
theorem dX10_primary_40 : decode cX10_primary 40 = .ok (.dup, 1) := by decide +kernel
theorem dX10_primary_41 : decode cX10_primary 41 = .ok (.getfield 282, 3) := by decide +kernel
theorem dX10_primary_44 : decode cX10_primary 44 = .ok (.iconst 1, 1) := by decide +kernel
theorem dX10_primary_45 : decode cX10_primary 45 = .ok (.iadd, 1) := by decide +kernel
theorem dX10_primary_46 : decode cX10_primary 46 = .ok (.putfield 282, 3) := by decide +kernel
theorem dX10_primary_49 : decode cX10_primary 49 = .ok (.aload_n 0, 1) := by decide +kernel
theorem dX10_primary_50 : decode cX10_primary 50 = .ok (.invokevirtual 205, 3) := by decide +kernel
theorem dX10_primary_53 : decode cX10_primary 53 = .ok (.aload_n 0, 1) := by decide +kernel
theorem dX10_primary_54 : decode cX10_primary 54 = .ok (.invokevirtual 252, 3) := by decide +kernel
theorem dX10_primary_57 : decode cX10_primary 57 = .ok (.aload_n 0, 1) := by decide +kernel
theorem dX10_primary_58 : decode cX10_primary 58 = .ok (.getfield 199, 3) := by decide +kernel
theorem dX10_primary_61 : decode cX10_primary 61 = .ok (.ifCond .ne 17, 3) := by decide +kernel
theorem dX10_primary_64 : decode cX10_primary 64 = .ok (.aload_n 0, 1) := by decide +kernel
theorem dX10_primary_65 : decode cX10_primary 65 = .ok (.bipush 41, 2) := by decide +kernel
theorem dX10_primary_67 : decode cX10_primary 67 = .ok (.invokevirtual 249, 3) := by decide +kernel
theorem dX10_primary_70 : decode cX10_primary 70 = .ok (.ifCond .ne 8, 3) := by decide +kernel
theorem dX10_primary_73 : decode cX10_primary 73 = .ok (.aload_n 0, 1) := by decide +kernel
theorem dX10_primary_74 : decode cX10_primary 74 = .ok (.iconst 1, 1) := by decide +kernel
theorem dX10_primary_75 : decode cX10_primary 75 = .ok (.invokevirtual 208, 3) := by decide +kernel
theorem dX10_primary_78 : decode cX10_primary 78 = .ok (.aload_n 0, 1) := by decide +kernel
theorem dX10_primary_79 : decode cX10_primary 79 = .ok (.getfield 199, 3) := by decide +kernel
theorem dX10_primary_82 : decode cX10_primary 82 = .ok (.ifCond .eq 4, 3) := by decide +kernel
theorem dX10_primary_85 : decode cX10_primary 85 = .ok (.return_, 1) := by decide +kernel
theorem dX10_primary_86 : decode cX10_primary 86 = .ok (.aload_n 0, 1) := by decide +kernel
theorem dX10_primary_87 : decode cX10_primary 87 = .ok (.dup, 1) := by decide +kernel
theorem dX10_primary_88 : decode cX10_primary 88 = .ok (.getfield 282, 3) := by decide +kernel
theorem dX10_primary_91 : decode cX10_primary 91 = .ok (.iconst 1, 1) := by decide +kernel
theorem dX10_primary_92 : decode cX10_primary 92 = .ok (.isub, 1) := by decide +kernel
theorem dX10_primary_93 : decode cX10_primary 93 = .ok (.putfield 282, 3) := by decide +kernel
theorem dX10_primary_96 : decode cX10_primary 96 = .ok (.aload_n 0, 1) := by decide +kernel
theorem dX10_primary_97 : decode cX10_primary 97 = .ok (.invokevirtual 205, 3) := by decide +kernel
theorem dX10_primary_100 : decode cX10_primary 100 = .ok (.return_, 1) := by decide +kernel
theorem dX10_primary_101 : decode cX10_primary 101 = .ok (.aload_n 0, 1) := by decide +kernel
theorem dX10_primary_102 : decode cX10_primary 102 = .ok (.getfield 164, 3) := by decide +kernel
theorem dX10_primary_105 : decode cX10_primary 105 = .ok (.iconst 2, 1) := by decide +kernel
theorem dX10_primary_106 : decode cX10_primary 106 = .ok (.if_icmp .ne 7, 3) := by decide +kernel
theorem dX10_primary_109 : decode cX10_primary 109 = .ok (.iconst 1, 1) := by decide +kernel
theorem dX10_primary_110 : decode cX10_primary 110 = .ok (.goto 4, 3) := by decide +kernel
theorem dX10_primary_113 : decode cX10_primary 113 = .ok (.iconst 0, 1) := by decide +kernel
theorem dX10_primary_114 : decode cX10_primary 114 = .ok (.istore_n 1, 1) := by decide +kernel
theorem dX10_primary_115 : decode cX10_primary 115 = .ok (.iload_n 1, 1) := by decide +kernel
theorem dX10_primary_116 : decode cX10_primary 116 = .ok (.ifCond .eq 21, 3) := by decide +kernel
theorem dX10_primary_119 : decode cX10_primary 119 = .ok (.aload_n 0, 1) := by decide +kernel
theorem dX10_primary_120 : decode cX10_primary 120 = .ok (.getfield 174, 3) := by decide +kernel
theorem dX10_primary_123 : decode cX10_primary 123 = .ok (.sipush 9999, 3) := by decide +kernel
theorem dX10_primary_126 : decode cX10_primary 126 = .ok (.if_icmp .le 11, 3) := by decide +kernel
theorem dX10_primary_129 : decode cX10_primary 129 = .ok (.aload_n 0, 1) := by decide +kernel
theorem dX10_primary_130 : decode cX10_primary 130 = .ok (.iconst 2, 1) := by decide +kernel
theorem dX10_primary_131 : decode cX10_primary 131 = .ok (.invokevirtual 208, 3) := by decide +kernel
theorem dX10_primary_134 : decode cX10_primary 134 = .ok (.goto 28, 3) := by decide +kernel
theorem dX10_primary_137 : decode cX10_primary 137 = .ok (.iload_n 1, 1) := by decide +kernel
theorem dX10_primary_138 : decode cX10_primary 138 = .ok (.ifCond .ne 24, 3) := by decide +kernel
theorem dX10_primary_141 : decode cX10_primary 141 = .ok (.aload_n 0, 1) := by decide +kernel
theorem dX10_primary_142 : decode cX10_primary 142 = .ok (.getfield 164, 3) := by decide +kernel
theorem dX10_primary_145 : decode cX10_primary 145 = .ok (.ifCond .ne 12, 3) := by decide +kernel
theorem dX10_primary_148 : decode cX10_primary 148 = .ok (.aload_n 0, 1) := by decide +kernel
theorem dX10_primary_149 : decode cX10_primary 149 = .ok (.getfield 174, 3) := by decide +kernel
theorem dX10_primary_152 : decode cX10_primary 152 = .ok (.bipush 14, 2) := by decide +kernel
theorem dX10_primary_154 : decode cX10_primary 154 = .ok (.if_icmp .ge 8, 3) := by decide +kernel
theorem dX10_primary_157 : decode cX10_primary 157 = .ok (.aload_n 0, 1) := by decide +kernel
theorem dX10_primary_158 : decode cX10_primary 158 = .ok (.iconst 1, 1) := by decide +kernel
theorem dX10_primary_159 : decode cX10_primary 159 = .ok (.invokevirtual 208, 3) := by decide +kernel
theorem dX10_primary_162 : decode cX10_primary 162 = .ok (.aload_n 0, 1) := by decide +kernel
theorem dX10_primary_163 : decode cX10_primary 163 = .ok (.invokevirtual 264, 3) := by decide +kernel
theorem dX10_primary_166 : decode cX10_primary 166 = .ok (.aload_n 0, 1) := by decide +kernel
theorem dX10_primary_167 : decode cX10_primary 167 = .ok (.iload_n 1, 1) := by decide +kernel
theorem dX10_primary_168 : decode cX10_primary 168 = .ok (.ifCond .eq 7, 3) := by decide +kernel
theorem dX10_primary_171 : decode cX10_primary 171 = .ok (.iconst 0, 1) := by decide +kernel
theorem dX10_primary_172 : decode cX10_primary 172 = .ok (.goto 4, 3) := by decide +kernel
theorem dX10_primary_175 : decode cX10_primary 175 = .ok (.iconst 1, 1) := by decide +kernel
theorem dX10_primary_176 : decode cX10_primary 176 = .ok (.iload_n 1, 1) := by decide +kernel
theorem dX10_primary_177 : decode cX10_primary 177 = .ok (.ifCond .eq 10, 3) := by decide +kernel
theorem dX10_primary_180 : decode cX10_primary 180 = .ok (.aload_n 0, 1) := by decide +kernel
theorem dX10_primary_181 : decode cX10_primary 181 = .ok (.getfield 174, 3) := by decide +kernel
theorem dX10_primary_184 : decode cX10_primary 184 = .ok (.goto 10, 3) := by decide +kernel
theorem dX10_primary_187 : decode cX10_primary 187 = .ok (.aload_n 0, 1) := by decide +kernel
theorem dX10_primary_188 : decode cX10_primary 188 = .ok (.getfield 174, 3) := by decide +kernel
theorem dX10_primary_191 : decode cX10_primary 191 = .ok (.bipush 14, 2) := by decide +kernel
theorem dX10_primary_193 : decode cX10_primary 193 = .ok (.isub, 1) := by decide +kernel
theorem dX10_primary_194 : decode cX10_primary 194 = .ok (.invokevirtual 267, 3) := by decide +kernel
theorem dX10_primary_197 : decode cX10_primary 197 = .ok (.aload_n 0, 1) := by decide +kernel
theorem dX10_primary_198 : decode cX10_primary 198 = .ok (.invokevirtual 215, 3) := by decide +kernel
theorem dX10_primary_201 : decode cX10_primary 201 = .ok (.return_, 1) := by decide +kernel
def k_X10_primary_194 (sh : List xSh) (F_X10_expression : Nat → xD → Option xD) (q0 : Nat) (p0 : Nat) (y1 : Int32) (y2 : Int32) (d : xD) : Option xD :=
  (xon 10 sh p0 (f_X10_puts sh p0 y1 y2 d)).bind fun d1 => (xon 10 sh q0 (f_X10_goOn sh q0 d1)).bind fun d2 => some d2
def k_X10_primary_176 (sh : List xSh) (F_X10_expression : Nat → xD → Option xD) (q0 : Nat) (x1 : Int32) (p0 : Nat) (y1 : Int32) (d : xD) : Option xD :=
  if x1 = 0 then ((xgI 10 sh d q0 25).bind fun v3 => k_X10_primary_194 sh F_X10_expression q0 p0 y1 (v3 - (14 : Int32)) d) else ((xgI 10 sh d q0 25).bind fun v4 => k_X10_primary_194 sh F_X10_expression q0 p0 y1 v4 d)
def k_X10_primary_162 (sh : List xSh) (F_X10_expression : Nat → xD → Option xD) (q0 : Nat) (x1 : Int32) (d : xD) : Option xD :=
  (xon 10 sh q0 (f_X10_knot sh q0 d)).bind fun d5 => if x1 = 0 then (k_X10_primary_176 sh F_X10_expression q0 x1 q0 (1 : Int32) d5) else (k_X10_primary_176 sh F_X10_expression q0 x1 q0 (0 : Int32) d5)
def k_X10_primary_157 (sh : List xSh) (F_X10_expression : Nat → xD → Option xD) (q0 : Nat) (x1 : Int32) (d : xD) : Option xD :=
  (xon 10 sh q0 (f_X10_wrong sh q0 (1 : Int32) d)).bind fun d6 => k_X10_primary_162 sh F_X10_expression q0 x1 d6
def k_X10_primary_137 (sh : List xSh) (F_X10_expression : Nat → xD → Option xD) (q0 : Nat) (x1 : Int32) (d : xD) : Option xD :=
  if x1 = 0 then ((xgI 10 sh d q0 24).bind fun v7 => if v7 = 0 then ((xgI 10 sh d q0 25).bind fun v8 => if (14 : Int32) ≤ v8 then (k_X10_primary_162 sh F_X10_expression q0 x1 d) else (k_X10_primary_157 sh F_X10_expression q0 x1 d)) else (k_X10_primary_157 sh F_X10_expression q0 x1 d)) else (k_X10_primary_162 sh F_X10_expression q0 x1 d)
def k_X10_primary_114 (sh : List xSh) (F_X10_expression : Nat → xD → Option xD) (q0 : Nat) (y0 : Int32) (d : xD) : Option xD :=
  if y0 = 0 then (k_X10_primary_137 sh F_X10_expression q0 y0 d) else ((xgI 10 sh d q0 25).bind fun v9 => if v9 ≤ (9999 : Int32) then (k_X10_primary_137 sh F_X10_expression q0 y0 d) else ((xon 10 sh q0 (f_X10_wrong sh q0 (2 : Int32) d)).bind fun d10 => k_X10_primary_162 sh F_X10_expression q0 y0 d10))
def k_X10_primary_78 (sh : List xSh) (F_X10_expression : Nat → xD → Option xD) (q0 : Nat) (d : xD) : Option xD :=
  (xgI 10 sh d q0 26).bind fun v11 => if v11 = 0 then ((xgI 10 sh d q0 30).bind fun v12 => (xpI 10 sh d q0 30 (v12 - (1 : Int32))).bind fun d13 => (xon 10 sh q0 (f_X10_token sh q0 d13)).bind fun d14 => some d14) else (some d)
def k_X10_primary_31 (sh : List xSh) (F_X10_expression : Nat → xD → Option xD) (q0 : Nat) (d : xD) : Option xD :=
  (xgI 10 sh d q0 26).bind fun v15 => if v15 = 0 then ((xgI 10 sh d q0 30).bind fun v16 => (xpI 10 sh d q0 30 (v16 + (1 : Int32))).bind fun d17 => (xon 10 sh q0 (f_X10_token sh q0 d17)).bind fun d18 => (xon 10 sh q0 (F_X10_expression q0 d18)).bind fun d19 => (xgI 10 sh d19 q0 26).bind fun v20 => if v20 = 0 then ((xon 10 sh q0 (f_X10_isSign sh q0 (41 : Int32) d19)).bind fun z21 => if z21.1 = 0 then ((xon 10 sh q0 (f_X10_wrong sh q0 (1 : Int32) z21.2)).bind fun d22 => k_X10_primary_78 sh F_X10_expression q0 d22) else (k_X10_primary_78 sh F_X10_expression q0 z21.2)) else (k_X10_primary_78 sh F_X10_expression q0 d19)) else (some d)
def e_X10_primary (sh : List xSh) (F_X10_expression : Nat → xD → Option xD) (q0 : Nat) (d : xD) : Option xD :=
  (xgI 10 sh d q0 26).bind fun v23 => if v23 = 0 then ((xon 10 sh q0 (f_X10_isSign sh q0 (40 : Int32) d)).bind fun z24 => if z24.1 = 0 then ((xgI 10 sh z24.2 q0 24).bind fun v25 => if v25 = (2 : Int32) then (k_X10_primary_114 sh F_X10_expression q0 (1 : Int32) z24.2) else (k_X10_primary_114 sh F_X10_expression q0 (0 : Int32) z24.2)) else ((xgI 10 sh z24.2 q0 30).bind fun v26 => if v26 = (8 : Int32) then ((xon 10 sh q0 (f_X10_wrong sh q0 (2 : Int32) z24.2)).bind fun d27 => k_X10_primary_31 sh F_X10_expression q0 d27) else (k_X10_primary_31 sh F_X10_expression q0 z24.2))) else (some d)
set_option maxHeartbeats 4000000 in
set_option maxRecDepth 100000 in
theorem me_X10_primary (l : Launch) (D : va_G) (cid : FieldType → ClassId) (b : Nat) (ex : Bool) (sa sv B0 : Nat) (sh : List xSh) (kk : Nat) (hkk : 8 ≤ kk) (k_X10_expression : Nat) (hk_X10_expression : k_X10_expression ≤ kk) (F_X10_expression : Nat → xD → Option xD) (hF_X10_expression : ∀ (q : Nat) (d dz : xD), F_X10_expression q d = some dz → xMet l yX10_expression cX10_expression 1 none k_X10_expression 0 0 D cid b ex sa sv B0 [.ref (b + q)] sh d none sh dz) (q0 : Nat) (d : xD) (dz : xD) (hf : e_X10_primary sh F_X10_expression q0 d = some dz) : xMet l yX10_primary cX10_primary 2 none (kk + 1) 0 0 D cid b ex sa sv B0 [.ref (b + q0)] sh d none sh dz := by
  refine xMet.of (by decide) (Nat.le_of_ble_eq_true rfl) ?_
  intro p e s m below meth c ls A S hr hin G hl
  have hl : lv_has ls 2 [(0, .ref (b + q0))] := hl
  generalize ([.ref (b + q0)] : List Value).toArray = av at S ⊢
  have hx := S.1
  have hb := S.2.1
  have hml := S.2.2.1
  have hown := S.2.2.2.1
  have hts := S.2.2.2.2.1
  have K194 : ∀ (q0 : Nat) (p0 : Nat) (y1 : Int32) (y2 : Int32) (d : xD), k_X10_primary_194 sh F_X10_expression q0 p0 y1 y2 d = some dz → ∀ (H : Heap) (locs : List Loc) (ls : Array Slot), lv_has ls 2 [(0, .ref (b + q0))] → xG D cid b A sh d s H locs → W p l e (xRm (kk + 1) 0 0) s m av below meth c H locs 0 0 (MQ below (xQ D cid b ex A none sh dz) av s 0 0 A) (F0 m 194 ls [.int y2, .int y1, .ref (b + p0)]) := by
    intro q0 p0 y1 y2 d hf H locs ls hl G
    unfold k_X10_primary_194 at hf
    obtain ⟨d1, hd1, hf⟩ := x_ob hf
    obtain ⟨hqd1, hd1⟩ := xon_of hd1
    refine xr_callV (ci := 10) (As := [.int y1, .int y2]) (rest := []) (st1 := []) S G hl.1 (fun _ => rfl) (mt_X10_puts l D cid b ex sa sv B0 sh p0 y1 y2 d _ hd1) hqd1 (by decide) kw_1469 kw_1471 ks_57 kw_17 kw_1472 hd_X10_puts ⟨by show _ ≤ kk + 1; omega, by show _ ≤ 40 * (kk + 1); omega⟩ rfl rfl rfl (Nat.le_of_ble_eq_true rfl) ⟨Nat.le_of_ble_eq_true rfl, Nat.le_of_ble_eq_true rfl⟩ dX10_primary_194 (fun H locs G => ?_)
    refine lv_aload_n hx hb dX10_primary_197 rfl (lv_at hl 0 rfl) ?_
    obtain ⟨d2, hd2, hf⟩ := x_ob hf
    obtain ⟨hqd2, hd2⟩ := xon_of hd2
    refine xr_callV (ci := 10) (As := []) (rest := []) (st1 := []) S G hl.1 (fun _ => rfl) (mt_X10_goOn l D cid b ex sa sv B0 sh q0 d1 _ hd2) hqd2 (by decide) kw_1441 kw_1443 ks_50 kw_17 kw_1444 hd_X10_goOn ⟨by show _ ≤ kk + 1; omega, by show _ ≤ 40 * (kk + 1); omega⟩ rfl rfl rfl (Nat.le_of_ble_eq_true rfl) ⟨Nat.le_of_ble_eq_true rfl, Nat.le_of_ble_eq_true rfl⟩ dX10_primary_198 (fun H locs G => ?_)
    cases hf
    exact xr_vret S G (fun _ => rfl) hr dX10_primary_201
  have K176 : ∀ (q0 : Nat) (x1 : Int32) (p0 : Nat) (y1 : Int32) (d : xD), k_X10_primary_176 sh F_X10_expression q0 x1 p0 y1 d = some dz → ∀ (H : Heap) (locs : List Loc) (ls : Array Slot), lv_has ls 2 [(0, .ref (b + q0)), (1, .int x1)] → xG D cid b A sh d s H locs → W p l e (xRm (kk + 1) 0 0) s m av below meth c H locs 0 0 (MQ below (xQ D cid b ex A none sh dz) av s 0 0 A) (F0 m 176 ls [.int y1, .ref (b + p0)]) := by
    intro q0 x1 p0 y1 d hf H locs ls hl G
    unfold k_X10_primary_176 at hf
    refine lv_iload_n hx hb dX10_primary_176 rfl (lv_at hl 1 rfl) ?_
    refine lv_if_eq (tgt := 187) hx hb dX10_primary_177 (by decide) (fun c => ?_) (fun c => ?_)
    · have hf := x_pos c hf
      refine lv_aload_n hx hb dX10_primary_187 rfl (lv_at hl 0 rfl) ?_
      obtain ⟨v3, hv3, hf⟩ := x_ob hf
      refine xr_getI (ci := 10) (k := 25) S G hv3 rfl kw_1193 dX10_primary_188 ?_
      refine lv_bipush (v := (14 : Int32)) hx hb dX10_primary_191 (by decide) ?_
      refine lv_isub hx hb dX10_primary_193 ?_
      exact K194 q0 p0 y1 (v3 - (14 : Int32)) d hf _ _ ls (lv_sub hl [0] rfl) G
    · have hf := x_neg c hf
      refine lv_aload_n hx hb dX10_primary_180 rfl (lv_at hl 0 rfl) ?_
      obtain ⟨v4, hv4, hf⟩ := x_ob hf
      refine xr_getI (ci := 10) (k := 25) S G hv4 rfl kw_1193 dX10_primary_181 ?_
      refine lv_goto (tgt := 194) hx hb dX10_primary_184 (by decide) ?_
      exact K194 q0 p0 y1 v4 d hf _ _ ls (lv_sub hl [0] rfl) G
  have K162 : ∀ (q0 : Nat) (x1 : Int32) (d : xD), k_X10_primary_162 sh F_X10_expression q0 x1 d = some dz → ∀ (H : Heap) (locs : List Loc) (ls : Array Slot), lv_has ls 2 [(0, .ref (b + q0)), (1, .int x1)] → xG D cid b A sh d s H locs → W p l e (xRm (kk + 1) 0 0) s m av below meth c H locs 0 0 (MQ below (xQ D cid b ex A none sh dz) av s 0 0 A) (F0 m 162 ls []) := by
    intro q0 x1 d hf H locs ls hl G
    unfold k_X10_primary_162 at hf
    refine lv_aload_n hx hb dX10_primary_162 rfl (lv_at hl 0 rfl) ?_
    obtain ⟨d5, hd5, hf⟩ := x_ob hf
    obtain ⟨hqd5, hd5⟩ := xon_of hd5
    refine xr_callV (ci := 10) (As := []) (rest := []) (st1 := []) S G hl.1 (fun _ => rfl) (mt_X10_knot l D cid b ex sa sv B0 sh q0 d _ hd5) hqd5 (by decide) kw_1465 kw_1467 ks_56 kw_17 kw_1468 hd_X10_knot ⟨by show _ ≤ kk + 1; omega, by show _ ≤ 40 * (kk + 1); omega⟩ rfl rfl rfl (Nat.le_of_ble_eq_true rfl) ⟨Nat.le_of_ble_eq_true rfl, Nat.le_of_ble_eq_true rfl⟩ dX10_primary_163 (fun H locs G => ?_)
    refine lv_aload_n hx hb dX10_primary_166 rfl (lv_at hl 0 rfl) ?_
    refine lv_iload_n hx hb dX10_primary_167 rfl (lv_at hl 1 rfl) ?_
    refine lv_if_eq (tgt := 175) hx hb dX10_primary_168 (by decide) (fun c => ?_) (fun c => ?_)
    · have hf := x_pos c hf
      refine lv_iconst (v := (1 : Int32)) hx hb dX10_primary_175 (by decide) ?_
      exact K176 q0 x1 q0 (1 : Int32) d5 hf _ _ ls (lv_sub hl [0, 1] rfl) G
    · have hf := x_neg c hf
      refine lv_iconst (v := (0 : Int32)) hx hb dX10_primary_171 (by decide) ?_
      refine lv_goto (tgt := 176) hx hb dX10_primary_172 (by decide) ?_
      exact K176 q0 x1 q0 (0 : Int32) d5 hf _ _ ls (lv_sub hl [0, 1] rfl) G
  have K157 : ∀ (q0 : Nat) (x1 : Int32) (d : xD), k_X10_primary_157 sh F_X10_expression q0 x1 d = some dz → ∀ (H : Heap) (locs : List Loc) (ls : Array Slot), lv_has ls 2 [(0, .ref (b + q0)), (1, .int x1)] → xG D cid b A sh d s H locs → W p l e (xRm (kk + 1) 0 0) s m av below meth c H locs 0 0 (MQ below (xQ D cid b ex A none sh dz) av s 0 0 A) (F0 m 157 ls []) := by
    intro q0 x1 d hf H locs ls hl G
    unfold k_X10_primary_157 at hf
    refine lv_aload_n hx hb dX10_primary_157 rfl (lv_at hl 0 rfl) ?_
    refine lv_iconst (v := (1 : Int32)) hx hb dX10_primary_158 (by decide) ?_
    obtain ⟨d6, hd6, hf⟩ := x_ob hf
    obtain ⟨hqd6, hd6⟩ := xon_of hd6
    refine xr_callV (ci := 10) (As := [.int (1 : Int32)]) (rest := []) (st1 := []) S G hl.1 (fun _ => rfl) (mt_X10_wrong l D cid b ex sa sv B0 sh q0 (1 : Int32) d _ hd6) hqd6 (by decide) kw_1414 kw_1416 ks_44 kw_17 kw_1417 hd_X10_wrong ⟨by show _ ≤ kk + 1; omega, by show _ ≤ 40 * (kk + 1); omega⟩ rfl rfl rfl (Nat.le_of_ble_eq_true rfl) ⟨Nat.le_of_ble_eq_true rfl, Nat.le_of_ble_eq_true rfl⟩ dX10_primary_159 (fun H locs G => ?_)
    exact K162 q0 x1 d6 hf _ _ ls (lv_sub hl [0, 1] rfl) G
  have K137 : ∀ (q0 : Nat) (x1 : Int32) (d : xD), k_X10_primary_137 sh F_X10_expression q0 x1 d = some dz → ∀ (H : Heap) (locs : List Loc) (ls : Array Slot), lv_has ls 2 [(0, .ref (b + q0)), (1, .int x1)] → xG D cid b A sh d s H locs → W p l e (xRm (kk + 1) 0 0) s m av below meth c H locs 0 0 (MQ below (xQ D cid b ex A none sh dz) av s 0 0 A) (F0 m 137 ls []) := by
    intro q0 x1 d hf H locs ls hl G
    unfold k_X10_primary_137 at hf
    refine lv_iload_n hx hb dX10_primary_137 rfl (lv_at hl 1 rfl) ?_
    refine lv_if_ne (tgt := 162) hx hb dX10_primary_138 (by decide) (fun c => ?_) (fun c => ?_)
    · have hf := x_neg c hf
      exact K162 q0 x1 d hf _ _ ls (lv_sub hl [0, 1] rfl) G
    · have hf := x_pos c hf
      refine lv_aload_n hx hb dX10_primary_141 rfl (lv_at hl 0 rfl) ?_
      obtain ⟨v7, hv7, hf⟩ := x_ob hf
      refine xr_getI (ci := 10) (k := 24) S G hv7 rfl kw_1192 dX10_primary_142 ?_
      refine lv_if_ne (tgt := 157) hx hb dX10_primary_145 (by decide) (fun c => ?_) (fun c => ?_)
      · have hf := x_neg c hf
        exact K157 q0 x1 d hf _ _ ls (lv_sub hl [0, 1] rfl) G
      · have hf := x_pos c hf
        refine lv_aload_n hx hb dX10_primary_148 rfl (lv_at hl 0 rfl) ?_
        obtain ⟨v8, hv8, hf⟩ := x_ob hf
        refine xr_getI (ci := 10) (k := 25) S G hv8 rfl kw_1193 dX10_primary_149 ?_
        refine lv_bipush (v := (14 : Int32)) hx hb dX10_primary_152 (by decide) ?_
        refine lv_icmp_ge (tgt := 162) hx hb dX10_primary_154 (by decide) (fun c => ?_) (fun c => ?_)
        · have hf := x_pos c hf
          exact K162 q0 x1 d hf _ _ ls (lv_sub hl [0, 1] rfl) G
        · have hf := x_neg c hf
          exact K157 q0 x1 d hf _ _ ls (lv_sub hl [0, 1] rfl) G
  have K114 : ∀ (q0 : Nat) (y0 : Int32) (d : xD), k_X10_primary_114 sh F_X10_expression q0 y0 d = some dz → ∀ (H : Heap) (locs : List Loc) (ls : Array Slot), lv_has ls 2 [(0, .ref (b + q0))] → xG D cid b A sh d s H locs → W p l e (xRm (kk + 1) 0 0) s m av below meth c H locs 0 0 (MQ below (xQ D cid b ex A none sh dz) av s 0 0 A) (F0 m 114 ls [.int y0]) := by
    intro q0 y0 d hf H locs ls hl G
    unfold k_X10_primary_114 at hf
    refine lv_istore_n (lv' := [(1, .int y0), (0, .ref (b + q0))]) hx hb dX10_primary_114 rfl hl (by decide) rfl (fun ls hl => ?_)
    refine lv_iload_n hx hb dX10_primary_115 rfl (lv_at hl 0 rfl) ?_
    refine lv_if_eq (tgt := 137) hx hb dX10_primary_116 (by decide) (fun c => ?_) (fun c => ?_)
    · have hf := x_pos c hf
      exact K137 q0 y0 d hf _ _ ls (lv_sub hl [1, 0] rfl) G
    · have hf := x_neg c hf
      refine lv_aload_n hx hb dX10_primary_119 rfl (lv_at hl 1 rfl) ?_
      obtain ⟨v9, hv9, hf⟩ := x_ob hf
      refine xr_getI (ci := 10) (k := 25) S G hv9 rfl kw_1193 dX10_primary_120 ?_
      refine lv_sipush (v := (9999 : Int32)) hx hb dX10_primary_123 (by decide) ?_
      refine lv_icmp_le (tgt := 137) hx hb dX10_primary_126 (by decide) (fun c => ?_) (fun c => ?_)
      · have hf := x_pos c hf
        exact K137 q0 y0 d hf _ _ ls (lv_sub hl [1, 0] rfl) G
      · have hf := x_neg c hf
        refine lv_aload_n hx hb dX10_primary_129 rfl (lv_at hl 1 rfl) ?_
        refine lv_iconst (v := (2 : Int32)) hx hb dX10_primary_130 (by decide) ?_
        obtain ⟨d10, hd10, hf⟩ := x_ob hf
        obtain ⟨hqd10, hd10⟩ := xon_of hd10
        refine xr_callV (ci := 10) (As := [.int (2 : Int32)]) (rest := []) (st1 := []) S G hl.1 (fun _ => rfl) (mt_X10_wrong l D cid b ex sa sv B0 sh q0 (2 : Int32) d _ hd10) hqd10 (by decide) kw_1414 kw_1416 ks_44 kw_17 kw_1417 hd_X10_wrong ⟨by show _ ≤ kk + 1; omega, by show _ ≤ 40 * (kk + 1); omega⟩ rfl rfl rfl (Nat.le_of_ble_eq_true rfl) ⟨Nat.le_of_ble_eq_true rfl, Nat.le_of_ble_eq_true rfl⟩ dX10_primary_131 (fun H locs G => ?_)
        refine lv_goto (tgt := 162) hx hb dX10_primary_134 (by decide) ?_
        exact K162 q0 y0 d10 hf _ _ ls (lv_sub hl [1, 0] rfl) G
  have K78 : ∀ (q0 : Nat) (d : xD), k_X10_primary_78 sh F_X10_expression q0 d = some dz → ∀ (H : Heap) (locs : List Loc) (ls : Array Slot), lv_has ls 2 [(0, .ref (b + q0))] → xG D cid b A sh d s H locs → W p l e (xRm (kk + 1) 0 0) s m av below meth c H locs 0 0 (MQ below (xQ D cid b ex A none sh dz) av s 0 0 A) (F0 m 78 ls []) := by
    intro q0 d hf H locs ls hl G
    unfold k_X10_primary_78 at hf
    refine lv_aload_n hx hb dX10_primary_78 rfl (lv_at hl 0 rfl) ?_
    obtain ⟨v11, hv11, hf⟩ := x_ob hf
    refine xr_getI (ci := 10) (k := 26) S G hv11 rfl kw_1194 dX10_primary_79 ?_
    refine lv_if_eq (tgt := 86) hx hb dX10_primary_82 (by decide) (fun c => ?_) (fun c => ?_)
    · have hf := x_pos c hf
      refine lv_aload_n hx hb dX10_primary_86 rfl (lv_at hl 0 rfl) ?_
      refine lv_dup hx hb dX10_primary_87 rfl ?_
      obtain ⟨v12, hv12, hf⟩ := x_ob hf
      refine xr_getI (ci := 10) (k := 30) S G hv12 rfl kw_1198 dX10_primary_88 ?_
      refine lv_iconst (v := (1 : Int32)) hx hb dX10_primary_91 (by decide) ?_
      refine lv_isub hx hb dX10_primary_92 ?_
      obtain ⟨d13, hd13, hf⟩ := x_ob hf
      refine xr_putI (ci := 10) (k := 30) S G hd13 rfl kw_1198 dX10_primary_93 (fun H locs G => ?_)
      refine lv_aload_n hx hb dX10_primary_96 rfl (lv_at hl 0 rfl) ?_
      obtain ⟨d14, hd14, hf⟩ := x_ob hf
      obtain ⟨hqd14, hd14⟩ := xon_of hd14
      refine xr_callV (ci := 10) (As := []) (rest := []) (st1 := []) S G hl.1 (fun _ => rfl) (mt_X10_token l D cid b ex sa sv B0 sh q0 d13 _ hd14) hqd14 (by decide) kw_1380 kw_1382 ks_38 kw_17 kw_1383 hd_X10_token ⟨by show _ ≤ kk + 1; omega, by show _ ≤ 40 * (kk + 1); omega⟩ rfl rfl rfl (Nat.le_of_ble_eq_true rfl) ⟨Nat.le_of_ble_eq_true rfl, Nat.le_of_ble_eq_true rfl⟩ dX10_primary_97 (fun H locs G => ?_)
      cases hf
      exact xr_vret S G (fun _ => rfl) hr dX10_primary_100
    · have hf := x_neg c hf
      cases hf
      exact xr_vret S G (fun _ => rfl) hr dX10_primary_85
  have K31 : ∀ (q0 : Nat) (d : xD), k_X10_primary_31 sh F_X10_expression q0 d = some dz → ∀ (H : Heap) (locs : List Loc) (ls : Array Slot), lv_has ls 2 [(0, .ref (b + q0))] → xG D cid b A sh d s H locs → W p l e (xRm (kk + 1) 0 0) s m av below meth c H locs 0 0 (MQ below (xQ D cid b ex A none sh dz) av s 0 0 A) (F0 m 31 ls []) := by
    intro q0 d hf H locs ls hl G
    unfold k_X10_primary_31 at hf
    refine lv_aload_n hx hb dX10_primary_31 rfl (lv_at hl 0 rfl) ?_
    obtain ⟨v15, hv15, hf⟩ := x_ob hf
    refine xr_getI (ci := 10) (k := 26) S G hv15 rfl kw_1194 dX10_primary_32 ?_
    refine lv_if_eq (tgt := 39) hx hb dX10_primary_35 (by decide) (fun c => ?_) (fun c => ?_)
    · have hf := x_pos c hf
      refine lv_aload_n hx hb dX10_primary_39 rfl (lv_at hl 0 rfl) ?_
      refine lv_dup hx hb dX10_primary_40 rfl ?_
      obtain ⟨v16, hv16, hf⟩ := x_ob hf
      refine xr_getI (ci := 10) (k := 30) S G hv16 rfl kw_1198 dX10_primary_41 ?_
      refine lv_iconst (v := (1 : Int32)) hx hb dX10_primary_44 (by decide) ?_
      refine lv_iadd hx hb dX10_primary_45 ?_
      obtain ⟨d17, hd17, hf⟩ := x_ob hf
      refine xr_putI (ci := 10) (k := 30) S G hd17 rfl kw_1198 dX10_primary_46 (fun H locs G => ?_)
      refine lv_aload_n hx hb dX10_primary_49 rfl (lv_at hl 0 rfl) ?_
      obtain ⟨d18, hd18, hf⟩ := x_ob hf
      obtain ⟨hqd18, hd18⟩ := xon_of hd18
      refine xr_callV (ci := 10) (As := []) (rest := []) (st1 := []) S G hl.1 (fun _ => rfl) (mt_X10_token l D cid b ex sa sv B0 sh q0 d17 _ hd18) hqd18 (by decide) kw_1380 kw_1382 ks_38 kw_17 kw_1383 hd_X10_token ⟨by show _ ≤ kk + 1; omega, by show _ ≤ 40 * (kk + 1); omega⟩ rfl rfl rfl (Nat.le_of_ble_eq_true rfl) ⟨Nat.le_of_ble_eq_true rfl, Nat.le_of_ble_eq_true rfl⟩ dX10_primary_50 (fun H locs G => ?_)
      refine lv_aload_n hx hb dX10_primary_53 rfl (lv_at hl 0 rfl) ?_
      obtain ⟨d19, hd19, hf⟩ := x_ob hf
      obtain ⟨hqd19, hd19⟩ := xon_of hd19
      refine xr_callV (ci := 10) (As := []) (rest := []) (st1 := []) S G hl.1 (fun _ => rfl) (hF_X10_expression q0 d18 _ hd19) hqd19 (by decide) kw_1449 kw_1451 ks_52 kw_17 kw_1452 hd_X10_expression ⟨by show _ ≤ kk + 1; omega, by show _ ≤ 40 * (kk + 1); omega⟩ rfl rfl rfl (Nat.le_of_ble_eq_true rfl) ⟨Nat.le_of_ble_eq_true rfl, Nat.le_of_ble_eq_true rfl⟩ dX10_primary_54 (fun H locs G => ?_)
      refine lv_aload_n hx hb dX10_primary_57 rfl (lv_at hl 0 rfl) ?_
      obtain ⟨v20, hv20, hf⟩ := x_ob hf
      refine xr_getI (ci := 10) (k := 26) S G hv20 rfl kw_1194 dX10_primary_58 ?_
      refine lv_if_ne (tgt := 78) hx hb dX10_primary_61 (by decide) (fun c => ?_) (fun c => ?_)
      · have hf := x_neg c hf
        exact K78 q0 d19 hf _ _ ls (lv_sub hl [0] rfl) G
      · have hf := x_pos c hf
        refine lv_aload_n hx hb dX10_primary_64 rfl (lv_at hl 0 rfl) ?_
        refine lv_bipush (v := (41 : Int32)) hx hb dX10_primary_65 (by decide) ?_
        obtain ⟨z21, hz21, hf⟩ := x_ob hf
        obtain ⟨hqz21, hz21⟩ := xon_of hz21
        refine xr_callV (ci := 10) (As := [.int (41 : Int32)]) (rest := []) (st1 := [.int z21.1]) S G hl.1 (fun _ => rfl) (mt_X10_isSign l D cid b ex sa sv B0 sh q0 (41 : Int32) d19 _ _ hz21) hqz21 (by decide) kw_1485 kw_1487 ks_61 kw_17 kw_1488 hd_X10_isSign ⟨by show _ ≤ kk + 1; omega, by show _ ≤ 40 * (kk + 1); omega⟩ rfl rfl rfl (Nat.le_of_ble_eq_true rfl) ⟨Nat.le_of_ble_eq_true rfl, Nat.le_of_ble_eq_true rfl⟩ dX10_primary_67 (fun H locs G => ?_)
        refine lv_if_ne (tgt := 78) hx hb dX10_primary_70 (by decide) (fun c => ?_) (fun c => ?_)
        · have hf := x_neg c hf
          exact K78 q0 z21.2 hf _ _ ls (lv_sub hl [0] rfl) G
        · have hf := x_pos c hf
          refine lv_aload_n hx hb dX10_primary_73 rfl (lv_at hl 0 rfl) ?_
          refine lv_iconst (v := (1 : Int32)) hx hb dX10_primary_74 (by decide) ?_
          obtain ⟨d22, hd22, hf⟩ := x_ob hf
          obtain ⟨hqd22, hd22⟩ := xon_of hd22
          refine xr_callV (ci := 10) (As := [.int (1 : Int32)]) (rest := []) (st1 := []) S G hl.1 (fun _ => rfl) (mt_X10_wrong l D cid b ex sa sv B0 sh q0 (1 : Int32) z21.2 _ hd22) hqd22 (by decide) kw_1414 kw_1416 ks_44 kw_17 kw_1417 hd_X10_wrong ⟨by show _ ≤ kk + 1; omega, by show _ ≤ 40 * (kk + 1); omega⟩ rfl rfl rfl (Nat.le_of_ble_eq_true rfl) ⟨Nat.le_of_ble_eq_true rfl, Nat.le_of_ble_eq_true rfl⟩ dX10_primary_75 (fun H locs G => ?_)
          exact K78 q0 d22 hf _ _ ls (lv_sub hl [0] rfl) G
    · have hf := x_neg c hf
      cases hf
      exact xr_vret S G (fun _ => rfl) hr dX10_primary_38
  unfold e_X10_primary at hf
  refine lv_aload_n hx hb dX10_primary_0 rfl (lv_at hl 0 rfl) ?_
  obtain ⟨v23, hv23, hf⟩ := x_ob hf
  refine xr_getI (ci := 10) (k := 26) S G hv23 rfl kw_1194 dX10_primary_1 ?_
  refine lv_if_eq (tgt := 8) hx hb dX10_primary_4 (by decide) (fun c => ?_) (fun c => ?_)
  · have hf := x_pos c hf
    refine lv_aload_n hx hb dX10_primary_8 rfl (lv_at hl 0 rfl) ?_
    refine lv_bipush (v := (40 : Int32)) hx hb dX10_primary_9 (by decide) ?_
    obtain ⟨z24, hz24, hf⟩ := x_ob hf
    obtain ⟨hqz24, hz24⟩ := xon_of hz24
    refine xr_callV (ci := 10) (As := [.int (40 : Int32)]) (rest := []) (st1 := [.int z24.1]) S G hl.1 (fun _ => rfl) (mt_X10_isSign l D cid b ex sa sv B0 sh q0 (40 : Int32) d _ _ hz24) hqz24 (by decide) kw_1485 kw_1487 ks_61 kw_17 kw_1488 hd_X10_isSign ⟨by show _ ≤ kk + 1; omega, by show _ ≤ 40 * (kk + 1); omega⟩ rfl rfl rfl (Nat.le_of_ble_eq_true rfl) ⟨Nat.le_of_ble_eq_true rfl, Nat.le_of_ble_eq_true rfl⟩ dX10_primary_11 (fun H locs G => ?_)
    refine lv_if_eq (tgt := 101) hx hb dX10_primary_14 (by decide) (fun c => ?_) (fun c => ?_)
    · have hf := x_pos c hf
      refine lv_aload_n hx hb dX10_primary_101 rfl (lv_at hl 0 rfl) ?_
      obtain ⟨v25, hv25, hf⟩ := x_ob hf
      refine xr_getI (ci := 10) (k := 24) S G hv25 rfl kw_1192 dX10_primary_102 ?_
      refine lv_iconst (v := (2 : Int32)) hx hb dX10_primary_105 (by decide) ?_
      refine lv_icmp_ne (tgt := 113) hx hb dX10_primary_106 (by decide) (fun c => ?_) (fun c => ?_)
      · have hf := x_neg c hf
        refine lv_iconst (v := (0 : Int32)) hx hb dX10_primary_113 (by decide) ?_
        exact K114 q0 (0 : Int32) z24.2 hf _ _ ls (lv_sub hl [0] rfl) G
      · have hf := x_pos c hf
        refine lv_iconst (v := (1 : Int32)) hx hb dX10_primary_109 (by decide) ?_
        refine lv_goto (tgt := 114) hx hb dX10_primary_110 (by decide) ?_
        exact K114 q0 (1 : Int32) z24.2 hf _ _ ls (lv_sub hl [0] rfl) G
    · have hf := x_neg c hf
      refine lv_aload_n hx hb dX10_primary_17 rfl (lv_at hl 0 rfl) ?_
      obtain ⟨v26, hv26, hf⟩ := x_ob hf
      refine xr_getI (ci := 10) (k := 30) S G hv26 rfl kw_1198 dX10_primary_18 ?_
      refine lv_bipush (v := (8 : Int32)) hx hb dX10_primary_21 (by decide) ?_
      refine lv_icmp_ne (tgt := 31) hx hb dX10_primary_23 (by decide) (fun c => ?_) (fun c => ?_)
      · have hf := x_neg c hf
        exact K31 q0 z24.2 hf _ _ ls (lv_sub hl [0] rfl) G
      · have hf := x_pos c hf
        refine lv_aload_n hx hb dX10_primary_26 rfl (lv_at hl 0 rfl) ?_
        refine lv_iconst (v := (2 : Int32)) hx hb dX10_primary_27 (by decide) ?_
        obtain ⟨d27, hd27, hf⟩ := x_ob hf
        obtain ⟨hqd27, hd27⟩ := xon_of hd27
        refine xr_callV (ci := 10) (As := [.int (2 : Int32)]) (rest := []) (st1 := []) S G hl.1 (fun _ => rfl) (mt_X10_wrong l D cid b ex sa sv B0 sh q0 (2 : Int32) z24.2 _ hd27) hqd27 (by decide) kw_1414 kw_1416 ks_44 kw_17 kw_1417 hd_X10_wrong ⟨by show _ ≤ kk + 1; omega, by show _ ≤ 40 * (kk + 1); omega⟩ rfl rfl rfl (Nat.le_of_ble_eq_true rfl) ⟨Nat.le_of_ble_eq_true rfl, Nat.le_of_ble_eq_true rfl⟩ dX10_primary_28 (fun H locs G => ?_)
        exact K31 q0 d27 hf _ _ ls (lv_sub hl [0] rfl) G
  · have hf := x_neg c hf
    cases hf
    exact xr_vret S G (fun _ => rfl) hr dX10_primary_7
-- HalfLandingsModel.product()V
theorem dX10_product_0 : decode cX10_product 0 = .ok (.aload_n 0, 1) := by decide +kernel
theorem dX10_product_1 : decode cX10_product 1 = .ok (.invokevirtual 279, 3) := by decide +kernel
theorem dX10_product_4 : decode cX10_product 4 = .ok (.aload_n 0, 1) := by decide +kernel
theorem dX10_product_5 : decode cX10_product 5 = .ok (.bipush 42, 2) := by decide +kernel
theorem dX10_product_7 : decode cX10_product 7 = .ok (.invokevirtual 249, 3) := by decide +kernel
theorem dX10_product_10 : decode cX10_product 10 = .ok (.ifCond .ne 12, 3) := by decide +kernel
theorem dX10_product_13 : decode cX10_product 13 = .ok (.aload_n 0, 1) := by decide +kernel
theorem dX10_product_14 : decode cX10_product 14 = .ok (.bipush 47, 2) := by decide +kernel
theorem dX10_product_16 : decode cX10_product 16 = .ok (.invokevirtual 249, 3) := by decide +kernel
theorem dX10_product_19 : decode cX10_product 19 = .ok (.ifCond .eq 29, 3) := by decide +kernel
theorem dX10_product_22 : decode cX10_product 22 = .ok (.aload_n 0, 1) := by decide +kernel
theorem dX10_product_23 : decode cX10_product 23 = .ok (.getfield 174, 3) := by decide +kernel
theorem dX10_product_26 : decode cX10_product 26 = .ok (.istore_n 1, 1) := by decide +kernel
theorem dX10_product_27 : decode cX10_product 27 = .ok (.aload_n 0, 1) := by decide +kernel
theorem dX10_product_28 : decode cX10_product 28 = .ok (.invokevirtual 264, 3) := by decide +kernel
theorem dX10_product_31 : decode cX10_product 31 = .ok (.aload_n 0, 1) := by decide +kernel
theorem dX10_product_32 : decode cX10_product 32 = .ok (.invokevirtual 215, 3) := by decide +kernel
theorem dX10_product_35 : decode cX10_product 35 = .ok (.aload_n 0, 1) := by decide +kernel
theorem dX10_product_36 : decode cX10_product 36 = .ok (.invokevirtual 279, 3) := by decide +kernel
theorem dX10_product_39 : decode cX10_product 39 = .ok (.aload_n 0, 1) := by decide +kernel
theorem dX10_product_40 : decode cX10_product 40 = .ok (.iconst 2, 1) := by decide +kernel
theorem dX10_product_41 : decode cX10_product 41 = .ok (.iload_n 1, 1) := by decide +kernel
theorem dX10_product_42 : decode cX10_product 42 = .ok (.invokevirtual 267, 3) := by decide +kernel
theorem dX10_product_45 : decode cX10_product 45 = .ok (.goto (-41), 3) := by decide +kernel
theorem dX10_product_48 : decode cX10_product 48 = .ok (.return_, 1) := by decide +kernel
def k_X10_product_22 (sh : List xSh) (F_X10_primary : Nat → xD → Option xD) (rec4 : Nat → xD → Option xD) (q0 : Nat) (d : xD) : Option xD :=
  (xgI 10 sh d q0 25).bind fun v1 => (xon 10 sh q0 (f_X10_knot sh q0 d)).bind fun d2 => (xon 10 sh q0 (f_X10_goOn sh q0 d2)).bind fun d3 => (xon 10 sh q0 (F_X10_primary q0 d3)).bind fun d4 => (xon 10 sh q0 (f_X10_puts sh q0 (2 : Int32) v1 d4)).bind fun d5 => rec4 q0 d5
def k_X10_product_48 (sh : List xSh) (F_X10_primary : Nat → xD → Option xD) (d : xD) : Option xD :=
  some d
def b_X10_product_4 (sh : List xSh) (F_X10_primary : Nat → xD → Option xD) (rec4 : Nat → xD → Option xD) (q0 : Nat) (d : xD) : Option xD :=
  (xon 10 sh q0 (f_X10_isSign sh q0 (42 : Int32) d)).bind fun z6 => if z6.1 = 0 then ((xon 10 sh q0 (f_X10_isSign sh q0 (47 : Int32) z6.2)).bind fun z7 => if z7.1 = 0 then (k_X10_product_48 sh F_X10_primary z7.2) else (k_X10_product_22 sh F_X10_primary rec4 q0 z7.2)) else (k_X10_product_22 sh F_X10_primary rec4 q0 z6.2)
def e_X10_product (sh : List xSh) (F_X10_primary : Nat → xD → Option xD) (q0 : Nat) (d : xD) : Option xD :=
  (xon 10 sh q0 (F_X10_primary q0 d)).bind fun d8 => xloop (fun _ _ => none) (b_X10_product_4 sh F_X10_primary) xF q0 d8
set_option maxHeartbeats 4000000 in
set_option maxRecDepth 100000 in
theorem me_X10_product (l : Launch) (D : va_G) (cid : FieldType → ClassId) (b : Nat) (ex : Bool) (sa sv B0 : Nat) (sh : List xSh) (kk : Nat) (hkk : 8 ≤ kk) (k_X10_primary : Nat) (hk_X10_primary : k_X10_primary ≤ kk) (F_X10_primary : Nat → xD → Option xD) (hF_X10_primary : ∀ (q : Nat) (d dz : xD), F_X10_primary q d = some dz → xMet l yX10_primary cX10_primary 2 none k_X10_primary 0 0 D cid b ex sa sv B0 [.ref (b + q)] sh d none sh dz) (q0 : Nat) (d : xD) (dz : xD) (hf : e_X10_product sh F_X10_primary q0 d = some dz) : xMet l yX10_product cX10_product 2 none (kk + 1) 0 0 D cid b ex sa sv B0 [.ref (b + q0)] sh d none sh dz := by
  refine xMet.of (by decide) (Nat.le_of_ble_eq_true rfl) ?_
  intro p e s m below meth c ls A S hr hin G hl
  have hl : lv_has ls 2 [(0, .ref (b + q0))] := hl
  generalize ([.ref (b + q0)] : List Value).toArray = av at S ⊢
  have hx := S.1
  have hb := S.2.1
  have hml := S.2.2.1
  have hown := S.2.2.2.1
  have hts := S.2.2.2.2.1
  have K22 : ∀ (rec4 : Nat → xD → Option xD) (hrec4 : ∀ (q0 : Nat) (d : xD), rec4 q0 d = some dz → ∀ (H : Heap) (locs : List Loc) (ls : Array Slot), lv_has ls 2 [(0, .ref (b + q0))] → xG D cid b A sh d s H locs → W p l e (xRm (kk + 1) 0 0) s m av below meth c H locs 0 0 (MQ below (xQ D cid b ex A none sh dz) av s 0 0 A) (F0 m 4 ls [])) (q0 : Nat) (d : xD), k_X10_product_22 sh F_X10_primary rec4 q0 d = some dz → ∀ (H : Heap) (locs : List Loc) (ls : Array Slot), lv_has ls 2 [(0, .ref (b + q0))] → xG D cid b A sh d s H locs → W p l e (xRm (kk + 1) 0 0) s m av below meth c H locs 0 0 (MQ below (xQ D cid b ex A none sh dz) av s 0 0 A) (F0 m 22 ls []) := by
    intro rec4 hrec4 q0 d hf H locs ls hl G
    unfold k_X10_product_22 at hf
    refine lv_aload_n hx hb dX10_product_22 rfl (lv_at hl 0 rfl) ?_
    obtain ⟨v1, hv1, hf⟩ := x_ob hf
    refine xr_getI (ci := 10) (k := 25) S G hv1 rfl kw_1193 dX10_product_23 ?_
    refine lv_istore_n (lv' := [(1, .int v1), (0, .ref (b + q0))]) hx hb dX10_product_26 rfl hl (by decide) rfl (fun ls hl => ?_)
    refine lv_aload_n hx hb dX10_product_27 rfl (lv_at hl 1 rfl) ?_
    obtain ⟨d2, hd2, hf⟩ := x_ob hf
    obtain ⟨hqd2, hd2⟩ := xon_of hd2
    refine xr_callV (ci := 10) (As := []) (rest := []) (st1 := []) S G hl.1 (fun _ => rfl) (mt_X10_knot l D cid b ex sa sv B0 sh q0 d _ hd2) hqd2 (by decide) kw_1465 kw_1467 ks_56 kw_17 kw_1468 hd_X10_knot ⟨by show _ ≤ kk + 1; omega, by show _ ≤ 40 * (kk + 1); omega⟩ rfl rfl rfl (Nat.le_of_ble_eq_true rfl) ⟨Nat.le_of_ble_eq_true rfl, Nat.le_of_ble_eq_true rfl⟩ dX10_product_28 (fun H locs G => ?_)
    refine lv_aload_n hx hb dX10_product_31 rfl (lv_at hl 1 rfl) ?_
    obtain ⟨d3, hd3, hf⟩ := x_ob hf
    obtain ⟨hqd3, hd3⟩ := xon_of hd3
    refine xr_callV (ci := 10) (As := []) (rest := []) (st1 := []) S G hl.1 (fun _ => rfl) (mt_X10_goOn l D cid b ex sa sv B0 sh q0 d2 _ hd3) hqd3 (by decide) kw_1441 kw_1443 ks_50 kw_17 kw_1444 hd_X10_goOn ⟨by show _ ≤ kk + 1; omega, by show _ ≤ 40 * (kk + 1); omega⟩ rfl rfl rfl (Nat.le_of_ble_eq_true rfl) ⟨Nat.le_of_ble_eq_true rfl, Nat.le_of_ble_eq_true rfl⟩ dX10_product_32 (fun H locs G => ?_)
    refine lv_aload_n hx hb dX10_product_35 rfl (lv_at hl 1 rfl) ?_
    obtain ⟨d4, hd4, hf⟩ := x_ob hf
    obtain ⟨hqd4, hd4⟩ := xon_of hd4
    refine xr_callV (ci := 10) (As := []) (rest := []) (st1 := []) S G hl.1 (fun _ => rfl) (hF_X10_primary q0 d3 _ hd4) hqd4 (by decide) kw_1481 kw_1483 ks_60 kw_17 kw_1484 hd_X10_primary ⟨by show _ ≤ kk + 1; omega, by show _ ≤ 40 * (kk + 1); omega⟩ rfl rfl rfl (Nat.le_of_ble_eq_true rfl) ⟨Nat.le_of_ble_eq_true rfl, Nat.le_of_ble_eq_true rfl⟩ dX10_product_36 (fun H locs G => ?_)
    refine lv_aload_n hx hb dX10_product_39 rfl (lv_at hl 1 rfl) ?_
    refine lv_iconst (v := (2 : Int32)) hx hb dX10_product_40 (by decide) ?_
    refine lv_iload_n hx hb dX10_product_41 rfl (lv_at hl 0 rfl) ?_
    obtain ⟨d5, hd5, hf⟩ := x_ob hf
    obtain ⟨hqd5, hd5⟩ := xon_of hd5
    refine xr_callV (ci := 10) (As := [.int (2 : Int32), .int v1]) (rest := []) (st1 := []) S G hl.1 (fun _ => rfl) (mt_X10_puts l D cid b ex sa sv B0 sh q0 (2 : Int32) v1 d4 _ hd5) hqd5 (by decide) kw_1469 kw_1471 ks_57 kw_17 kw_1472 hd_X10_puts ⟨by show _ ≤ kk + 1; omega, by show _ ≤ 40 * (kk + 1); omega⟩ rfl rfl rfl (Nat.le_of_ble_eq_true rfl) ⟨Nat.le_of_ble_eq_true rfl, Nat.le_of_ble_eq_true rfl⟩ dX10_product_42 (fun H locs G => ?_)
    refine lv_goto (tgt := 4) hx hb dX10_product_45 (by decide) ?_
    exact hrec4 q0 d5 hf _ _ ls (lv_sub hl [1] rfl) G
  have K48 : ∀ (d : xD), k_X10_product_48 sh F_X10_primary d = some dz → ∀ (H : Heap) (locs : List Loc) (ls : Array Slot), lv_has ls 2 [] → xG D cid b A sh d s H locs → W p l e (xRm (kk + 1) 0 0) s m av below meth c H locs 0 0 (MQ below (xQ D cid b ex A none sh dz) av s 0 0 A) (F0 m 48 ls []) := by
    intro d hf H locs ls hl G
    unfold k_X10_product_48 at hf
    cases hf
    exact xr_vret S G (fun _ => rfl) hr dX10_product_48
  have K4 : ∀ (n : Nat) (q0 : Nat) (d : xD), xloop (fun _ _ => none) (b_X10_product_4 sh F_X10_primary) n q0 d = some dz → ∀ (H : Heap) (locs : List Loc) (ls : Array Slot), lv_has ls 2 [(0, .ref (b + q0))] → xG D cid b A sh d s H locs → W p l e (xRm (kk + 1) 0 0) s m av below meth c H locs 0 0 (MQ below (xQ D cid b ex A none sh dz) av s 0 0 A) (F0 m 4 ls []) := by
    intro n
    induction n with
    | zero =>
      intro q0 d hf
      have hf : (none : Option xD) = some dz := hf
      cases hf
    | succ n hrec4 =>
      intro q0 d hf H locs ls hl G
      have hf : b_X10_product_4 sh F_X10_primary (xloop (fun _ _ => none) (b_X10_product_4 sh F_X10_primary) n) q0 d = some dz := hf
      unfold b_X10_product_4 at hf
      refine lv_aload_n hx hb dX10_product_4 rfl (lv_at hl 0 rfl) ?_
      refine lv_bipush (v := (42 : Int32)) hx hb dX10_product_5 (by decide) ?_
      obtain ⟨z6, hz6, hf⟩ := x_ob hf
      obtain ⟨hqz6, hz6⟩ := xon_of hz6
      refine xr_callV (ci := 10) (As := [.int (42 : Int32)]) (rest := []) (st1 := [.int z6.1]) S G hl.1 (fun _ => rfl) (mt_X10_isSign l D cid b ex sa sv B0 sh q0 (42 : Int32) d _ _ hz6) hqz6 (by decide) kw_1485 kw_1487 ks_61 kw_17 kw_1488 hd_X10_isSign ⟨by show _ ≤ kk + 1; omega, by show _ ≤ 40 * (kk + 1); omega⟩ rfl rfl rfl (Nat.le_of_ble_eq_true rfl) ⟨Nat.le_of_ble_eq_true rfl, Nat.le_of_ble_eq_true rfl⟩ dX10_product_7 (fun H locs G => ?_)
      refine lv_if_ne (tgt := 22) hx hb dX10_product_10 (by decide) (fun c => ?_) (fun c => ?_)
      · have hf := x_neg c hf
        exact K22 _ hrec4 q0 z6.2 hf _ _ ls (lv_sub hl [0] rfl) G
      · have hf := x_pos c hf
        refine lv_aload_n hx hb dX10_product_13 rfl (lv_at hl 0 rfl) ?_
        refine lv_bipush (v := (47 : Int32)) hx hb dX10_product_14 (by decide) ?_
        obtain ⟨z7, hz7, hf⟩ := x_ob hf
        obtain ⟨hqz7, hz7⟩ := xon_of hz7
        refine xr_callV (ci := 10) (As := [.int (47 : Int32)]) (rest := []) (st1 := [.int z7.1]) S G hl.1 (fun _ => rfl) (mt_X10_isSign l D cid b ex sa sv B0 sh q0 (47 : Int32) z6.2 _ _ hz7) hqz7 (by decide) kw_1485 kw_1487 ks_61 kw_17 kw_1488 hd_X10_isSign ⟨by show _ ≤ kk + 1; omega, by show _ ≤ 40 * (kk + 1); omega⟩ rfl rfl rfl (Nat.le_of_ble_eq_true rfl) ⟨Nat.le_of_ble_eq_true rfl, Nat.le_of_ble_eq_true rfl⟩ dX10_product_16 (fun H locs G => ?_)
        refine lv_if_eq (tgt := 48) hx hb dX10_product_19 (by decide) (fun c => ?_) (fun c => ?_)
        · have hf := x_pos c hf
          exact K48 z7.2 hf _ _ ls (lv_sub hl [] rfl) G
        · have hf := x_neg c hf
          exact K22 _ hrec4 q0 z7.2 hf _ _ ls (lv_sub hl [0] rfl) G
  unfold e_X10_product at hf
  refine lv_aload_n hx hb dX10_product_0 rfl (lv_at hl 0 rfl) ?_
  obtain ⟨d8, hd8, hf⟩ := x_ob hf
  obtain ⟨hqd8, hd8⟩ := xon_of hd8
  refine xr_callV (ci := 10) (As := []) (rest := []) (st1 := []) S G hl.1 (fun _ => rfl) (hF_X10_primary q0 d _ hd8) hqd8 (by decide) kw_1481 kw_1483 ks_60 kw_17 kw_1484 hd_X10_primary ⟨by show _ ≤ kk + 1; omega, by show _ ≤ 40 * (kk + 1); omega⟩ rfl rfl rfl (Nat.le_of_ble_eq_true rfl) ⟨Nat.le_of_ble_eq_true rfl, Nat.le_of_ble_eq_true rfl⟩ dX10_product_1 (fun H locs G => ?_)
  exact K4 xF q0 d8 hf _ _ ls (lv_sub hl [0] rfl) G
-- HalfLandingsModel.sum()V
theorem dX10_sum_0 : decode cX10_sum 0 = .ok (.aload_n 0, 1) := by decide +kernel
theorem dX10_sum_1 : decode cX10_sum 1 = .ok (.invokevirtual 276, 3) := by decide +kernel
theorem dX10_sum_4 : decode cX10_sum 4 = .ok (.aload_n 0, 1) := by decide +kernel
theorem dX10_sum_5 : decode cX10_sum 5 = .ok (.bipush 43, 2) := by decide +kernel
theorem dX10_sum_7 : decode cX10_sum 7 = .ok (.invokevirtual 249, 3) := by decide +kernel
theorem dX10_sum_10 : decode cX10_sum 10 = .ok (.ifCond .ne 12, 3) := by decide +kernel
theorem dX10_sum_13 : decode cX10_sum 13 = .ok (.aload_n 0, 1) := by decide +kernel
theorem dX10_sum_14 : decode cX10_sum 14 = .ok (.bipush 45, 2) := by decide +kernel
theorem dX10_sum_16 : decode cX10_sum 16 = .ok (.invokevirtual 249, 3) := by decide +kernel
theorem dX10_sum_19 : decode cX10_sum 19 = .ok (.ifCond .eq 29, 3) := by decide +kernel
theorem dX10_sum_22 : decode cX10_sum 22 = .ok (.aload_n 0, 1) := by decide +kernel
theorem dX10_sum_23 : decode cX10_sum 23 = .ok (.getfield 174, 3) := by decide +kernel
theorem dX10_sum_26 : decode cX10_sum 26 = .ok (.istore_n 1, 1) := by decide +kernel
theorem dX10_sum_27 : decode cX10_sum 27 = .ok (.aload_n 0, 1) := by decide +kernel
theorem dX10_sum_28 : decode cX10_sum 28 = .ok (.invokevirtual 264, 3) := by decide +kernel
theorem dX10_sum_31 : decode cX10_sum 31 = .ok (.aload_n 0, 1) := by decide +kernel
theorem dX10_sum_32 : decode cX10_sum 32 = .ok (.invokevirtual 215, 3) := by decide +kernel
theorem dX10_sum_35 : decode cX10_sum 35 = .ok (.aload_n 0, 1) := by decide +kernel
theorem dX10_sum_36 : decode cX10_sum 36 = .ok (.invokevirtual 276, 3) := by decide +kernel
theorem dX10_sum_39 : decode cX10_sum 39 = .ok (.aload_n 0, 1) := by decide +kernel
theorem dX10_sum_40 : decode cX10_sum 40 = .ok (.iconst 2, 1) := by decide +kernel
theorem dX10_sum_41 : decode cX10_sum 41 = .ok (.iload_n 1, 1) := by decide +kernel
theorem dX10_sum_42 : decode cX10_sum 42 = .ok (.invokevirtual 267, 3) := by decide +kernel
theorem dX10_sum_45 : decode cX10_sum 45 = .ok (.goto (-41), 3) := by decide +kernel
theorem dX10_sum_48 : decode cX10_sum 48 = .ok (.return_, 1) := by decide +kernel
def k_X10_sum_22 (sh : List xSh) (F_X10_product : Nat → xD → Option xD) (rec4 : Nat → xD → Option xD) (q0 : Nat) (d : xD) : Option xD :=
  (xgI 10 sh d q0 25).bind fun v1 => (xon 10 sh q0 (f_X10_knot sh q0 d)).bind fun d2 => (xon 10 sh q0 (f_X10_goOn sh q0 d2)).bind fun d3 => (xon 10 sh q0 (F_X10_product q0 d3)).bind fun d4 => (xon 10 sh q0 (f_X10_puts sh q0 (2 : Int32) v1 d4)).bind fun d5 => rec4 q0 d5
def k_X10_sum_48 (sh : List xSh) (F_X10_product : Nat → xD → Option xD) (d : xD) : Option xD :=
  some d
def b_X10_sum_4 (sh : List xSh) (F_X10_product : Nat → xD → Option xD) (rec4 : Nat → xD → Option xD) (q0 : Nat) (d : xD) : Option xD :=
  (xon 10 sh q0 (f_X10_isSign sh q0 (43 : Int32) d)).bind fun z6 => if z6.1 = 0 then ((xon 10 sh q0 (f_X10_isSign sh q0 (45 : Int32) z6.2)).bind fun z7 => if z7.1 = 0 then (k_X10_sum_48 sh F_X10_product z7.2) else (k_X10_sum_22 sh F_X10_product rec4 q0 z7.2)) else (k_X10_sum_22 sh F_X10_product rec4 q0 z6.2)
def e_X10_sum (sh : List xSh) (F_X10_product : Nat → xD → Option xD) (q0 : Nat) (d : xD) : Option xD :=
  (xon 10 sh q0 (F_X10_product q0 d)).bind fun d8 => xloop (fun _ _ => none) (b_X10_sum_4 sh F_X10_product) xF q0 d8
set_option maxHeartbeats 4000000 in
set_option maxRecDepth 100000 in
theorem me_X10_sum (l : Launch) (D : va_G) (cid : FieldType → ClassId) (b : Nat) (ex : Bool) (sa sv B0 : Nat) (sh : List xSh) (kk : Nat) (hkk : 8 ≤ kk) (k_X10_product : Nat) (hk_X10_product : k_X10_product ≤ kk) (F_X10_product : Nat → xD → Option xD) (hF_X10_product : ∀ (q : Nat) (d dz : xD), F_X10_product q d = some dz → xMet l yX10_product cX10_product 2 none k_X10_product 0 0 D cid b ex sa sv B0 [.ref (b + q)] sh d none sh dz) (q0 : Nat) (d : xD) (dz : xD) (hf : e_X10_sum sh F_X10_product q0 d = some dz) : xMet l yX10_sum cX10_sum 2 none (kk + 1) 0 0 D cid b ex sa sv B0 [.ref (b + q0)] sh d none sh dz := by
  refine xMet.of (by decide) (Nat.le_of_ble_eq_true rfl) ?_
  intro p e s m below meth c ls A S hr hin G hl
  have hl : lv_has ls 2 [(0, .ref (b + q0))] := hl
  generalize ([.ref (b + q0)] : List Value).toArray = av at S ⊢
  have hx := S.1
  have hb := S.2.1
  have hml := S.2.2.1
  have hown := S.2.2.2.1
  have hts := S.2.2.2.2.1
  have K22 : ∀ (rec4 : Nat → xD → Option xD) (hrec4 : ∀ (q0 : Nat) (d : xD), rec4 q0 d = some dz → ∀ (H : Heap) (locs : List Loc) (ls : Array Slot), lv_has ls 2 [(0, .ref (b + q0))] → xG D cid b A sh d s H locs → W p l e (xRm (kk + 1) 0 0) s m av below meth c H locs 0 0 (MQ below (xQ D cid b ex A none sh dz) av s 0 0 A) (F0 m 4 ls [])) (q0 : Nat) (d : xD), k_X10_sum_22 sh F_X10_product rec4 q0 d = some dz → ∀ (H : Heap) (locs : List Loc) (ls : Array Slot), lv_has ls 2 [(0, .ref (b + q0))] → xG D cid b A sh d s H locs → W p l e (xRm (kk + 1) 0 0) s m av below meth c H locs 0 0 (MQ below (xQ D cid b ex A none sh dz) av s 0 0 A) (F0 m 22 ls []) := by
    intro rec4 hrec4 q0 d hf H locs ls hl G
    unfold k_X10_sum_22 at hf
    refine lv_aload_n hx hb dX10_sum_22 rfl (lv_at hl 0 rfl) ?_
    obtain ⟨v1, hv1, hf⟩ := x_ob hf
    refine xr_getI (ci := 10) (k := 25) S G hv1 rfl kw_1193 dX10_sum_23 ?_
    refine lv_istore_n (lv' := [(1, .int v1), (0, .ref (b + q0))]) hx hb dX10_sum_26 rfl hl (by decide) rfl (fun ls hl => ?_)
    refine lv_aload_n hx hb dX10_sum_27 rfl (lv_at hl 1 rfl) ?_
    obtain ⟨d2, hd2, hf⟩ := x_ob hf
    obtain ⟨hqd2, hd2⟩ := xon_of hd2
    refine xr_callV (ci := 10) (As := []) (rest := []) (st1 := []) S G hl.1 (fun _ => rfl) (mt_X10_knot l D cid b ex sa sv B0 sh q0 d _ hd2) hqd2 (by decide) kw_1465 kw_1467 ks_56 kw_17 kw_1468 hd_X10_knot ⟨by show _ ≤ kk + 1; omega, by show _ ≤ 40 * (kk + 1); omega⟩ rfl rfl rfl (Nat.le_of_ble_eq_true rfl) ⟨Nat.le_of_ble_eq_true rfl, Nat.le_of_ble_eq_true rfl⟩ dX10_sum_28 (fun H locs G => ?_)
    refine lv_aload_n hx hb dX10_sum_31 rfl (lv_at hl 1 rfl) ?_
    obtain ⟨d3, hd3, hf⟩ := x_ob hf
    obtain ⟨hqd3, hd3⟩ := xon_of hd3
    refine xr_callV (ci := 10) (As := []) (rest := []) (st1 := []) S G hl.1 (fun _ => rfl) (mt_X10_goOn l D cid b ex sa sv B0 sh q0 d2 _ hd3) hqd3 (by decide) kw_1441 kw_1443 ks_50 kw_17 kw_1444 hd_X10_goOn ⟨by show _ ≤ kk + 1; omega, by show _ ≤ 40 * (kk + 1); omega⟩ rfl rfl rfl (Nat.le_of_ble_eq_true rfl) ⟨Nat.le_of_ble_eq_true rfl, Nat.le_of_ble_eq_true rfl⟩ dX10_sum_32 (fun H locs G => ?_)
    refine lv_aload_n hx hb dX10_sum_35 rfl (lv_at hl 1 rfl) ?_
    obtain ⟨d4, hd4, hf⟩ := x_ob hf
    obtain ⟨hqd4, hd4⟩ := xon_of hd4
    refine xr_callV (ci := 10) (As := []) (rest := []) (st1 := []) S G hl.1 (fun _ => rfl) (hF_X10_product q0 d3 _ hd4) hqd4 (by decide) kw_1477 kw_1479 ks_59 kw_17 kw_1480 hd_X10_product ⟨by show _ ≤ kk + 1; omega, by show _ ≤ 40 * (kk + 1); omega⟩ rfl rfl rfl (Nat.le_of_ble_eq_true rfl) ⟨Nat.le_of_ble_eq_true rfl, Nat.le_of_ble_eq_true rfl⟩ dX10_sum_36 (fun H locs G => ?_)
    refine lv_aload_n hx hb dX10_sum_39 rfl (lv_at hl 1 rfl) ?_
    refine lv_iconst (v := (2 : Int32)) hx hb dX10_sum_40 (by decide) ?_
    refine lv_iload_n hx hb dX10_sum_41 rfl (lv_at hl 0 rfl) ?_
    obtain ⟨d5, hd5, hf⟩ := x_ob hf
    obtain ⟨hqd5, hd5⟩ := xon_of hd5
    refine xr_callV (ci := 10) (As := [.int (2 : Int32), .int v1]) (rest := []) (st1 := []) S G hl.1 (fun _ => rfl) (mt_X10_puts l D cid b ex sa sv B0 sh q0 (2 : Int32) v1 d4 _ hd5) hqd5 (by decide) kw_1469 kw_1471 ks_57 kw_17 kw_1472 hd_X10_puts ⟨by show _ ≤ kk + 1; omega, by show _ ≤ 40 * (kk + 1); omega⟩ rfl rfl rfl (Nat.le_of_ble_eq_true rfl) ⟨Nat.le_of_ble_eq_true rfl, Nat.le_of_ble_eq_true rfl⟩ dX10_sum_42 (fun H locs G => ?_)
    refine lv_goto (tgt := 4) hx hb dX10_sum_45 (by decide) ?_
    exact hrec4 q0 d5 hf _ _ ls (lv_sub hl [1] rfl) G
  have K48 : ∀ (d : xD), k_X10_sum_48 sh F_X10_product d = some dz → ∀ (H : Heap) (locs : List Loc) (ls : Array Slot), lv_has ls 2 [] → xG D cid b A sh d s H locs → W p l e (xRm (kk + 1) 0 0) s m av below meth c H locs 0 0 (MQ below (xQ D cid b ex A none sh dz) av s 0 0 A) (F0 m 48 ls []) := by
    intro d hf H locs ls hl G
    unfold k_X10_sum_48 at hf
    cases hf
    exact xr_vret S G (fun _ => rfl) hr dX10_sum_48
  have K4 : ∀ (n : Nat) (q0 : Nat) (d : xD), xloop (fun _ _ => none) (b_X10_sum_4 sh F_X10_product) n q0 d = some dz → ∀ (H : Heap) (locs : List Loc) (ls : Array Slot), lv_has ls 2 [(0, .ref (b + q0))] → xG D cid b A sh d s H locs → W p l e (xRm (kk + 1) 0 0) s m av below meth c H locs 0 0 (MQ below (xQ D cid b ex A none sh dz) av s 0 0 A) (F0 m 4 ls []) := by
    intro n
    induction n with
    | zero =>
      intro q0 d hf
      have hf : (none : Option xD) = some dz := hf
      cases hf
    | succ n hrec4 =>
      intro q0 d hf H locs ls hl G
      have hf : b_X10_sum_4 sh F_X10_product (xloop (fun _ _ => none) (b_X10_sum_4 sh F_X10_product) n) q0 d = some dz := hf
      unfold b_X10_sum_4 at hf
      refine lv_aload_n hx hb dX10_sum_4 rfl (lv_at hl 0 rfl) ?_
      refine lv_bipush (v := (43 : Int32)) hx hb dX10_sum_5 (by decide) ?_
      obtain ⟨z6, hz6, hf⟩ := x_ob hf
      obtain ⟨hqz6, hz6⟩ := xon_of hz6
      refine xr_callV (ci := 10) (As := [.int (43 : Int32)]) (rest := []) (st1 := [.int z6.1]) S G hl.1 (fun _ => rfl) (mt_X10_isSign l D cid b ex sa sv B0 sh q0 (43 : Int32) d _ _ hz6) hqz6 (by decide) kw_1485 kw_1487 ks_61 kw_17 kw_1488 hd_X10_isSign ⟨by show _ ≤ kk + 1; omega, by show _ ≤ 40 * (kk + 1); omega⟩ rfl rfl rfl (Nat.le_of_ble_eq_true rfl) ⟨Nat.le_of_ble_eq_true rfl, Nat.le_of_ble_eq_true rfl⟩ dX10_sum_7 (fun H locs G => ?_)
      refine lv_if_ne (tgt := 22) hx hb dX10_sum_10 (by decide) (fun c => ?_) (fun c => ?_)
      · have hf := x_neg c hf
        exact K22 _ hrec4 q0 z6.2 hf _ _ ls (lv_sub hl [0] rfl) G
      · have hf := x_pos c hf
        refine lv_aload_n hx hb dX10_sum_13 rfl (lv_at hl 0 rfl) ?_
        refine lv_bipush (v := (45 : Int32)) hx hb dX10_sum_14 (by decide) ?_
        obtain ⟨z7, hz7, hf⟩ := x_ob hf
        obtain ⟨hqz7, hz7⟩ := xon_of hz7
        refine xr_callV (ci := 10) (As := [.int (45 : Int32)]) (rest := []) (st1 := [.int z7.1]) S G hl.1 (fun _ => rfl) (mt_X10_isSign l D cid b ex sa sv B0 sh q0 (45 : Int32) z6.2 _ _ hz7) hqz7 (by decide) kw_1485 kw_1487 ks_61 kw_17 kw_1488 hd_X10_isSign ⟨by show _ ≤ kk + 1; omega, by show _ ≤ 40 * (kk + 1); omega⟩ rfl rfl rfl (Nat.le_of_ble_eq_true rfl) ⟨Nat.le_of_ble_eq_true rfl, Nat.le_of_ble_eq_true rfl⟩ dX10_sum_16 (fun H locs G => ?_)
        refine lv_if_eq (tgt := 48) hx hb dX10_sum_19 (by decide) (fun c => ?_) (fun c => ?_)
        · have hf := x_pos c hf
          exact K48 z7.2 hf _ _ ls (lv_sub hl [] rfl) G
        · have hf := x_neg c hf
          exact K22 _ hrec4 q0 z7.2 hf _ _ ls (lv_sub hl [0] rfl) G
  unfold e_X10_sum at hf
  refine lv_aload_n hx hb dX10_sum_0 rfl (lv_at hl 0 rfl) ?_
  obtain ⟨d8, hd8, hf⟩ := x_ob hf
  obtain ⟨hqd8, hd8⟩ := xon_of hd8
  refine xr_callV (ci := 10) (As := []) (rest := []) (st1 := []) S G hl.1 (fun _ => rfl) (hF_X10_product q0 d _ hd8) hqd8 (by decide) kw_1477 kw_1479 ks_59 kw_17 kw_1480 hd_X10_product ⟨by show _ ≤ kk + 1; omega, by show _ ≤ 40 * (kk + 1); omega⟩ rfl rfl rfl (Nat.le_of_ble_eq_true rfl) ⟨Nat.le_of_ble_eq_true rfl, Nat.le_of_ble_eq_true rfl⟩ dX10_sum_1 (fun H locs G => ?_)
  exact K4 xF q0 d8 hf _ _ ls (lv_sub hl [0] rfl) G
-- HalfLandingsModel.negation()V
theorem dX10_negation_0 : decode cX10_negation 0 = .ok (.aload_n 0, 1) := by decide +kernel
theorem dX10_negation_1 : decode cX10_negation 1 = .ok (.bipush 13, 2) := by decide +kernel
theorem dX10_negation_3 : decode cX10_negation 3 = .ok (.invokevirtual 261, 3) := by decide +kernel
theorem dX10_negation_6 : decode cX10_negation 6 = .ok (.ifCond .eq 24, 3) := by decide +kernel
theorem dX10_negation_9 : decode cX10_negation 9 = .ok (.aload_n 0, 1) := by decide +kernel
theorem dX10_negation_10 : decode cX10_negation 10 = .ok (.invokevirtual 264, 3) := by decide +kernel
theorem dX10_negation_13 : decode cX10_negation 13 = .ok (.aload_n 0, 1) := by decide +kernel
theorem dX10_negation_14 : decode cX10_negation 14 = .ok (.invokevirtual 215, 3) := by decide +kernel
theorem dX10_negation_17 : decode cX10_negation 17 = .ok (.aload_n 0, 1) := by decide +kernel
theorem dX10_negation_18 : decode cX10_negation 18 = .ok (.invokevirtual 270, 3) := by decide +kernel
theorem dX10_negation_21 : decode cX10_negation 21 = .ok (.aload_n 0, 1) := by decide +kernel
theorem dX10_negation_22 : decode cX10_negation 22 = .ok (.iconst 2, 1) := by decide +kernel
theorem dX10_negation_23 : decode cX10_negation 23 = .ok (.sipush 260, 3) := by decide +kernel
theorem dX10_negation_26 : decode cX10_negation 26 = .ok (.invokevirtual 267, 3) := by decide +kernel
theorem dX10_negation_29 : decode cX10_negation 29 = .ok (.return_, 1) := by decide +kernel
theorem dX10_negation_30 : decode cX10_negation 30 = .ok (.aload_n 0, 1) := by decide +kernel
theorem dX10_negation_31 : decode cX10_negation 31 = .ok (.invokevirtual 273, 3) := by decide +kernel
theorem dX10_negation_34 : decode cX10_negation 34 = .ok (.aload_n 0, 1) := by decide +kernel
theorem dX10_negation_35 : decode cX10_negation 35 = .ok (.getfield 199, 3) := by decide +kernel
theorem dX10_negation_38 : decode cX10_negation 38 = .ok (.ifCond .ne 48, 3) := by decide +kernel
theorem dX10_negation_41 : decode cX10_negation 41 = .ok (.aload_n 0, 1) := by decide +kernel
theorem dX10_negation_42 : decode cX10_negation 42 = .ok (.getfield 164, 3) := by decide +kernel
theorem dX10_negation_45 : decode cX10_negation 45 = .ok (.iconst 3, 1) := by decide +kernel
theorem dX10_negation_46 : decode cX10_negation 46 = .ok (.if_icmp .ne 40, 3) := by decide +kernel
theorem dX10_negation_49 : decode cX10_negation 49 = .ok (.aload_n 0, 1) := by decide +kernel
theorem dX10_negation_50 : decode cX10_negation 50 = .ok (.getfield 174, 3) := by decide +kernel
theorem dX10_negation_53 : decode cX10_negation 53 = .ok (.bipush 60, 2) := by decide +kernel
theorem dX10_negation_55 : decode cX10_negation 55 = .ok (.if_icmp .eq 32, 3) := by decide +kernel
theorem dX10_negation_58 : decode cX10_negation 58 = .ok (.aload_n 0, 1) := by decide +kernel
theorem dX10_negation_59 : decode cX10_negation 59 = .ok (.getfield 174, 3) := by decide +kernel
theorem dX10_negation_62 : decode cX10_negation 62 = .ok (.bipush 62, 2) := by decide +kernel
theorem dX10_negation_64 : decode cX10_negation 64 = .ok (.if_icmp .eq 23, 3) := by decide +kernel
theorem dX10_negation_67 : decode cX10_negation 67 = .ok (.aload_n 0, 1) := by decide +kernel
theorem dX10_negation_68 : decode cX10_negation 68 = .ok (.getfield 174, 3) := by decide +kernel
theorem dX10_negation_71 : decode cX10_negation 71 = .ok (.bipush 61, 2) := by decide +kernel
theorem dX10_negation_73 : decode cX10_negation 73 = .ok (.if_icmp .eq 14, 3) := by decide +kernel
theorem dX10_negation_76 : decode cX10_negation 76 = .ok (.aload_n 0, 1) := by decide +kernel
theorem dX10_negation_77 : decode cX10_negation 77 = .ok (.getfield 174, 3) := by decide +kernel
theorem dX10_negation_80 : decode cX10_negation 80 = .ok (.sipush 256, 3) := by decide +kernel
theorem dX10_negation_83 : decode cX10_negation 83 = .ok (.if_icmp .ge 4, 3) := by decide +kernel
theorem dX10_negation_86 : decode cX10_negation 86 = .ok (.return_, 1) := by decide +kernel
theorem dX10_negation_87 : decode cX10_negation 87 = .ok (.aload_n 0, 1) := by decide +kernel
theorem dX10_negation_88 : decode cX10_negation 88 = .ok (.getfield 174, 3) := by decide +kernel
theorem dX10_negation_91 : decode cX10_negation 91 = .ok (.istore_n 1, 1) := by decide +kernel
theorem dX10_negation_92 : decode cX10_negation 92 = .ok (.aload_n 0, 1) := by decide +kernel
theorem dX10_negation_93 : decode cX10_negation 93 = .ok (.invokevirtual 264, 3) := by decide +kernel
theorem dX10_negation_96 : decode cX10_negation 96 = .ok (.aload_n 0, 1) := by decide +kernel
theorem dX10_negation_97 : decode cX10_negation 97 = .ok (.invokevirtual 215, 3) := by decide +kernel
theorem dX10_negation_100 : decode cX10_negation 100 = .ok (.aload_n 0, 1) := by decide +kernel
theorem dX10_negation_101 : decode cX10_negation 101 = .ok (.invokevirtual 273, 3) := by decide +kernel
theorem dX10_negation_104 : decode cX10_negation 104 = .ok (.aload_n 0, 1) := by decide +kernel
theorem dX10_negation_105 : decode cX10_negation 105 = .ok (.iconst 2, 1) := by decide +kernel
theorem dX10_negation_106 : decode cX10_negation 106 = .ok (.iload_n 1, 1) := by decide +kernel
theorem dX10_negation_107 : decode cX10_negation 107 = .ok (.invokevirtual 267, 3) := by decide +kernel
theorem dX10_negation_110 : decode cX10_negation 110 = .ok (.return_, 1) := by decide +kernel
def k_X10_negation_86 (sh : List xSh) (F_X10_negation : Nat → xD → Option xD) (F_X10_sum : Nat → xD → Option xD) (d : xD) : Option xD :=
  some d
def k_X10_negation_87 (sh : List xSh) (F_X10_negation : Nat → xD → Option xD) (F_X10_sum : Nat → xD → Option xD) (q0 : Nat) (d : xD) : Option xD :=
  (xgI 10 sh d q0 25).bind fun v1 => (xon 10 sh q0 (f_X10_knot sh q0 d)).bind fun d2 => (xon 10 sh q0 (f_X10_goOn sh q0 d2)).bind fun d3 => (xon 10 sh q0 (F_X10_sum q0 d3)).bind fun d4 => (xon 10 sh q0 (f_X10_puts sh q0 (2 : Int32) v1 d4)).bind fun d5 => some d5
def e_X10_negation (sh : List xSh) (F_X10_negation : Nat → xD → Option xD) (F_X10_sum : Nat → xD → Option xD) (q0 : Nat) (d : xD) : Option xD :=
  (xon 10 sh q0 (f_X10_isWord sh q0 (13 : Int32) d)).bind fun z6 => if z6.1 = 0 then ((xon 10 sh q0 (F_X10_sum q0 z6.2)).bind fun d7 => (xgI 10 sh d7 q0 26).bind fun v8 => if v8 = 0 then ((xgI 10 sh d7 q0 24).bind fun v9 => if v9 = (3 : Int32) then ((xgI 10 sh d7 q0 25).bind fun v10 => if v10 = (60 : Int32) then (k_X10_negation_87 sh F_X10_negation F_X10_sum q0 d7) else ((xgI 10 sh d7 q0 25).bind fun v11 => if v11 = (62 : Int32) then (k_X10_negation_87 sh F_X10_negation F_X10_sum q0 d7) else ((xgI 10 sh d7 q0 25).bind fun v12 => if v12 = (61 : Int32) then (k_X10_negation_87 sh F_X10_negation F_X10_sum q0 d7) else ((xgI 10 sh d7 q0 25).bind fun v13 => if (256 : Int32) ≤ v13 then (k_X10_negation_87 sh F_X10_negation F_X10_sum q0 d7) else (k_X10_negation_86 sh F_X10_negation F_X10_sum d7))))) else (k_X10_negation_86 sh F_X10_negation F_X10_sum d7)) else (k_X10_negation_86 sh F_X10_negation F_X10_sum d7)) else ((xon 10 sh q0 (f_X10_knot sh q0 z6.2)).bind fun d14 => (xon 10 sh q0 (f_X10_goOn sh q0 d14)).bind fun d15 => (xon 10 sh q0 (F_X10_negation q0 d15)).bind fun d16 => (xon 10 sh q0 (f_X10_puts sh q0 (2 : Int32) (260 : Int32) d16)).bind fun d17 => some d17)
set_option maxHeartbeats 4000000 in
set_option maxRecDepth 100000 in
theorem me_X10_negation (l : Launch) (D : va_G) (cid : FieldType → ClassId) (b : Nat) (ex : Bool) (sa sv B0 : Nat) (sh : List xSh) (kk : Nat) (hkk : 8 ≤ kk) (k_X10_negation : Nat) (hk_X10_negation : k_X10_negation ≤ kk) (F_X10_negation : Nat → xD → Option xD) (hF_X10_negation : ∀ (q : Nat) (d dz : xD), F_X10_negation q d = some dz → xMet l yX10_negation cX10_negation 2 none k_X10_negation 0 0 D cid b ex sa sv B0 [.ref (b + q)] sh d none sh dz) (k_X10_sum : Nat) (hk_X10_sum : k_X10_sum ≤ kk) (F_X10_sum : Nat → xD → Option xD) (hF_X10_sum : ∀ (q : Nat) (d dz : xD), F_X10_sum q d = some dz → xMet l yX10_sum cX10_sum 2 none k_X10_sum 0 0 D cid b ex sa sv B0 [.ref (b + q)] sh d none sh dz) (q0 : Nat) (d : xD) (dz : xD) (hf : e_X10_negation sh F_X10_negation F_X10_sum q0 d = some dz) : xMet l yX10_negation cX10_negation 2 none (kk + 1) 0 0 D cid b ex sa sv B0 [.ref (b + q0)] sh d none sh dz := by
  refine xMet.of (by decide) (Nat.le_of_ble_eq_true rfl) ?_
  intro p e s m below meth c ls A S hr hin G hl
  have hl : lv_has ls 2 [(0, .ref (b + q0))] := hl
  generalize ([.ref (b + q0)] : List Value).toArray = av at S ⊢
  have hx := S.1
  have hb := S.2.1
  have hml := S.2.2.1
  have hown := S.2.2.2.1
  have hts := S.2.2.2.2.1
  have K86 : ∀ (d : xD), k_X10_negation_86 sh F_X10_negation F_X10_sum d = some dz → ∀ (H : Heap) (locs : List Loc) (ls : Array Slot), lv_has ls 2 [] → xG D cid b A sh d s H locs → W p l e (xRm (kk + 1) 0 0) s m av below meth c H locs 0 0 (MQ below (xQ D cid b ex A none sh dz) av s 0 0 A) (F0 m 86 ls []) := by
    intro d hf H locs ls hl G
    unfold k_X10_negation_86 at hf
    cases hf
    exact xr_vret S G (fun _ => rfl) hr dX10_negation_86
  have K87 : ∀ (q0 : Nat) (d : xD), k_X10_negation_87 sh F_X10_negation F_X10_sum q0 d = some dz → ∀ (H : Heap) (locs : List Loc) (ls : Array Slot), lv_has ls 2 [(0, .ref (b + q0))] → xG D cid b A sh d s H locs → W p l e (xRm (kk + 1) 0 0) s m av below meth c H locs 0 0 (MQ below (xQ D cid b ex A none sh dz) av s 0 0 A) (F0 m 87 ls []) := by
    intro q0 d hf H locs ls hl G
    unfold k_X10_negation_87 at hf
    refine lv_aload_n hx hb dX10_negation_87 rfl (lv_at hl 0 rfl) ?_
    obtain ⟨v1, hv1, hf⟩ := x_ob hf
    refine xr_getI (ci := 10) (k := 25) S G hv1 rfl kw_1193 dX10_negation_88 ?_
    refine lv_istore_n (lv' := [(1, .int v1), (0, .ref (b + q0))]) hx hb dX10_negation_91 rfl hl (by decide) rfl (fun ls hl => ?_)
    refine lv_aload_n hx hb dX10_negation_92 rfl (lv_at hl 1 rfl) ?_
    obtain ⟨d2, hd2, hf⟩ := x_ob hf
    obtain ⟨hqd2, hd2⟩ := xon_of hd2
    refine xr_callV (ci := 10) (As := []) (rest := []) (st1 := []) S G hl.1 (fun _ => rfl) (mt_X10_knot l D cid b ex sa sv B0 sh q0 d _ hd2) hqd2 (by decide) kw_1465 kw_1467 ks_56 kw_17 kw_1468 hd_X10_knot ⟨by show _ ≤ kk + 1; omega, by show _ ≤ 40 * (kk + 1); omega⟩ rfl rfl rfl (Nat.le_of_ble_eq_true rfl) ⟨Nat.le_of_ble_eq_true rfl, Nat.le_of_ble_eq_true rfl⟩ dX10_negation_93 (fun H locs G => ?_)
    refine lv_aload_n hx hb dX10_negation_96 rfl (lv_at hl 1 rfl) ?_
    obtain ⟨d3, hd3, hf⟩ := x_ob hf
    obtain ⟨hqd3, hd3⟩ := xon_of hd3
    refine xr_callV (ci := 10) (As := []) (rest := []) (st1 := []) S G hl.1 (fun _ => rfl) (mt_X10_goOn l D cid b ex sa sv B0 sh q0 d2 _ hd3) hqd3 (by decide) kw_1441 kw_1443 ks_50 kw_17 kw_1444 hd_X10_goOn ⟨by show _ ≤ kk + 1; omega, by show _ ≤ 40 * (kk + 1); omega⟩ rfl rfl rfl (Nat.le_of_ble_eq_true rfl) ⟨Nat.le_of_ble_eq_true rfl, Nat.le_of_ble_eq_true rfl⟩ dX10_negation_97 (fun H locs G => ?_)
    refine lv_aload_n hx hb dX10_negation_100 rfl (lv_at hl 1 rfl) ?_
    obtain ⟨d4, hd4, hf⟩ := x_ob hf
    obtain ⟨hqd4, hd4⟩ := xon_of hd4
    refine xr_callV (ci := 10) (As := []) (rest := []) (st1 := []) S G hl.1 (fun _ => rfl) (hF_X10_sum q0 d3 _ hd4) hqd4 (by decide) kw_1473 kw_1475 ks_58 kw_17 kw_1476 hd_X10_sum ⟨by show _ ≤ kk + 1; omega, by show _ ≤ 40 * (kk + 1); omega⟩ rfl rfl rfl (Nat.le_of_ble_eq_true rfl) ⟨Nat.le_of_ble_eq_true rfl, Nat.le_of_ble_eq_true rfl⟩ dX10_negation_101 (fun H locs G => ?_)
    refine lv_aload_n hx hb dX10_negation_104 rfl (lv_at hl 1 rfl) ?_
    refine lv_iconst (v := (2 : Int32)) hx hb dX10_negation_105 (by decide) ?_
    refine lv_iload_n hx hb dX10_negation_106 rfl (lv_at hl 0 rfl) ?_
    obtain ⟨d5, hd5, hf⟩ := x_ob hf
    obtain ⟨hqd5, hd5⟩ := xon_of hd5
    refine xr_callV (ci := 10) (As := [.int (2 : Int32), .int v1]) (rest := []) (st1 := []) S G hl.1 (fun _ => rfl) (mt_X10_puts l D cid b ex sa sv B0 sh q0 (2 : Int32) v1 d4 _ hd5) hqd5 (by decide) kw_1469 kw_1471 ks_57 kw_17 kw_1472 hd_X10_puts ⟨by show _ ≤ kk + 1; omega, by show _ ≤ 40 * (kk + 1); omega⟩ rfl rfl rfl (Nat.le_of_ble_eq_true rfl) ⟨Nat.le_of_ble_eq_true rfl, Nat.le_of_ble_eq_true rfl⟩ dX10_negation_107 (fun H locs G => ?_)
    cases hf
    exact xr_vret S G (fun _ => rfl) hr dX10_negation_110
  unfold e_X10_negation at hf
  refine lv_aload_n hx hb dX10_negation_0 rfl (lv_at hl 0 rfl) ?_
  refine lv_bipush (v := (13 : Int32)) hx hb dX10_negation_1 (by decide) ?_
  obtain ⟨z6, hz6, hf⟩ := x_ob hf
  obtain ⟨hqz6, hz6⟩ := xon_of hz6
  refine xr_callV (ci := 10) (As := [.int (13 : Int32)]) (rest := []) (st1 := [.int z6.1]) S G hl.1 (fun _ => rfl) (mt_X10_isWord l D cid b ex sa sv B0 sh q0 (13 : Int32) d _ _ hz6) hqz6 (by decide) kw_1461 kw_1463 ks_55 kw_17 kw_1464 hd_X10_isWord ⟨by show _ ≤ kk + 1; omega, by show _ ≤ 40 * (kk + 1); omega⟩ rfl rfl rfl (Nat.le_of_ble_eq_true rfl) ⟨Nat.le_of_ble_eq_true rfl, Nat.le_of_ble_eq_true rfl⟩ dX10_negation_3 (fun H locs G => ?_)
  refine lv_if_eq (tgt := 30) hx hb dX10_negation_6 (by decide) (fun c => ?_) (fun c => ?_)
  · have hf := x_pos c hf
    refine lv_aload_n hx hb dX10_negation_30 rfl (lv_at hl 0 rfl) ?_
    obtain ⟨d7, hd7, hf⟩ := x_ob hf
    obtain ⟨hqd7, hd7⟩ := xon_of hd7
    refine xr_callV (ci := 10) (As := []) (rest := []) (st1 := []) S G hl.1 (fun _ => rfl) (hF_X10_sum q0 z6.2 _ hd7) hqd7 (by decide) kw_1473 kw_1475 ks_58 kw_17 kw_1476 hd_X10_sum ⟨by show _ ≤ kk + 1; omega, by show _ ≤ 40 * (kk + 1); omega⟩ rfl rfl rfl (Nat.le_of_ble_eq_true rfl) ⟨Nat.le_of_ble_eq_true rfl, Nat.le_of_ble_eq_true rfl⟩ dX10_negation_31 (fun H locs G => ?_)
    refine lv_aload_n hx hb dX10_negation_34 rfl (lv_at hl 0 rfl) ?_
    obtain ⟨v8, hv8, hf⟩ := x_ob hf
    refine xr_getI (ci := 10) (k := 26) S G hv8 rfl kw_1194 dX10_negation_35 ?_
    refine lv_if_ne (tgt := 86) hx hb dX10_negation_38 (by decide) (fun c => ?_) (fun c => ?_)
    · have hf := x_neg c hf
      exact K86 d7 hf _ _ ls (lv_sub hl [] rfl) G
    · have hf := x_pos c hf
      refine lv_aload_n hx hb dX10_negation_41 rfl (lv_at hl 0 rfl) ?_
      obtain ⟨v9, hv9, hf⟩ := x_ob hf
      refine xr_getI (ci := 10) (k := 24) S G hv9 rfl kw_1192 dX10_negation_42 ?_
      refine lv_iconst (v := (3 : Int32)) hx hb dX10_negation_45 (by decide) ?_
      refine lv_icmp_ne (tgt := 86) hx hb dX10_negation_46 (by decide) (fun c => ?_) (fun c => ?_)
      · have hf := x_neg c hf
        exact K86 d7 hf _ _ ls (lv_sub hl [] rfl) G
      · have hf := x_pos c hf
        refine lv_aload_n hx hb dX10_negation_49 rfl (lv_at hl 0 rfl) ?_
        obtain ⟨v10, hv10, hf⟩ := x_ob hf
        refine xr_getI (ci := 10) (k := 25) S G hv10 rfl kw_1193 dX10_negation_50 ?_
        refine lv_bipush (v := (60 : Int32)) hx hb dX10_negation_53 (by decide) ?_
        refine lv_icmp_eq (tgt := 87) hx hb dX10_negation_55 (by decide) (fun c => ?_) (fun c => ?_)
        · have hf := x_pos c hf
          exact K87 q0 d7 hf _ _ ls (lv_sub hl [0] rfl) G
        · have hf := x_neg c hf
          refine lv_aload_n hx hb dX10_negation_58 rfl (lv_at hl 0 rfl) ?_
          obtain ⟨v11, hv11, hf⟩ := x_ob hf
          refine xr_getI (ci := 10) (k := 25) S G hv11 rfl kw_1193 dX10_negation_59 ?_
          refine lv_bipush (v := (62 : Int32)) hx hb dX10_negation_62 (by decide) ?_
          refine lv_icmp_eq (tgt := 87) hx hb dX10_negation_64 (by decide) (fun c => ?_) (fun c => ?_)
          · have hf := x_pos c hf
            exact K87 q0 d7 hf _ _ ls (lv_sub hl [0] rfl) G
          · have hf := x_neg c hf
            refine lv_aload_n hx hb dX10_negation_67 rfl (lv_at hl 0 rfl) ?_
            obtain ⟨v12, hv12, hf⟩ := x_ob hf
            refine xr_getI (ci := 10) (k := 25) S G hv12 rfl kw_1193 dX10_negation_68 ?_
            refine lv_bipush (v := (61 : Int32)) hx hb dX10_negation_71 (by decide) ?_
            refine lv_icmp_eq (tgt := 87) hx hb dX10_negation_73 (by decide) (fun c => ?_) (fun c => ?_)
            · have hf := x_pos c hf
              exact K87 q0 d7 hf _ _ ls (lv_sub hl [0] rfl) G
            · have hf := x_neg c hf
              refine lv_aload_n hx hb dX10_negation_76 rfl (lv_at hl 0 rfl) ?_
              obtain ⟨v13, hv13, hf⟩ := x_ob hf
              refine xr_getI (ci := 10) (k := 25) S G hv13 rfl kw_1193 dX10_negation_77 ?_
              refine lv_sipush (v := (256 : Int32)) hx hb dX10_negation_80 (by decide) ?_
              refine lv_icmp_ge (tgt := 87) hx hb dX10_negation_83 (by decide) (fun c => ?_) (fun c => ?_)
              · have hf := x_pos c hf
                exact K87 q0 d7 hf _ _ ls (lv_sub hl [0] rfl) G
              · have hf := x_neg c hf
                exact K86 d7 hf _ _ ls (lv_sub hl [] rfl) G
  · have hf := x_neg c hf
    refine lv_aload_n hx hb dX10_negation_9 rfl (lv_at hl 0 rfl) ?_
    obtain ⟨d14, hd14, hf⟩ := x_ob hf
    obtain ⟨hqd14, hd14⟩ := xon_of hd14
    refine xr_callV (ci := 10) (As := []) (rest := []) (st1 := []) S G hl.1 (fun _ => rfl) (mt_X10_knot l D cid b ex sa sv B0 sh q0 z6.2 _ hd14) hqd14 (by decide) kw_1465 kw_1467 ks_56 kw_17 kw_1468 hd_X10_knot ⟨by show _ ≤ kk + 1; omega, by show _ ≤ 40 * (kk + 1); omega⟩ rfl rfl rfl (Nat.le_of_ble_eq_true rfl) ⟨Nat.le_of_ble_eq_true rfl, Nat.le_of_ble_eq_true rfl⟩ dX10_negation_10 (fun H locs G => ?_)
    refine lv_aload_n hx hb dX10_negation_13 rfl (lv_at hl 0 rfl) ?_
    obtain ⟨d15, hd15, hf⟩ := x_ob hf
    obtain ⟨hqd15, hd15⟩ := xon_of hd15
    refine xr_callV (ci := 10) (As := []) (rest := []) (st1 := []) S G hl.1 (fun _ => rfl) (mt_X10_goOn l D cid b ex sa sv B0 sh q0 d14 _ hd15) hqd15 (by decide) kw_1441 kw_1443 ks_50 kw_17 kw_1444 hd_X10_goOn ⟨by show _ ≤ kk + 1; omega, by show _ ≤ 40 * (kk + 1); omega⟩ rfl rfl rfl (Nat.le_of_ble_eq_true rfl) ⟨Nat.le_of_ble_eq_true rfl, Nat.le_of_ble_eq_true rfl⟩ dX10_negation_14 (fun H locs G => ?_)
    refine lv_aload_n hx hb dX10_negation_17 rfl (lv_at hl 0 rfl) ?_
    obtain ⟨d16, hd16, hf⟩ := x_ob hf
    obtain ⟨hqd16, hd16⟩ := xon_of hd16
    refine xr_callV (ci := 10) (As := []) (rest := []) (st1 := []) S G hl.1 (fun _ => rfl) (hF_X10_negation q0 d15 _ hd16) hqd16 (by decide) kw_1457 kw_1459 ks_54 kw_17 kw_1460 hd_X10_negation ⟨by show _ ≤ kk + 1; omega, by show _ ≤ 40 * (kk + 1); omega⟩ rfl rfl rfl (Nat.le_of_ble_eq_true rfl) ⟨Nat.le_of_ble_eq_true rfl, Nat.le_of_ble_eq_true rfl⟩ dX10_negation_18 (fun H locs G => ?_)
    refine lv_aload_n hx hb dX10_negation_21 rfl (lv_at hl 0 rfl) ?_
    refine lv_iconst (v := (2 : Int32)) hx hb dX10_negation_22 (by decide) ?_
    refine lv_sipush (v := (260 : Int32)) hx hb dX10_negation_23 (by decide) ?_
    obtain ⟨d17, hd17, hf⟩ := x_ob hf
    obtain ⟨hqd17, hd17⟩ := xon_of hd17
    refine xr_callV (ci := 10) (As := [.int (2 : Int32), .int (260 : Int32)]) (rest := []) (st1 := []) S G hl.1 (fun _ => rfl) (mt_X10_puts l D cid b ex sa sv B0 sh q0 (2 : Int32) (260 : Int32) d16 _ hd17) hqd17 (by decide) kw_1469 kw_1471 ks_57 kw_17 kw_1472 hd_X10_puts ⟨by show _ ≤ kk + 1; omega, by show _ ≤ 40 * (kk + 1); omega⟩ rfl rfl rfl (Nat.le_of_ble_eq_true rfl) ⟨Nat.le_of_ble_eq_true rfl, Nat.le_of_ble_eq_true rfl⟩ dX10_negation_26 (fun H locs G => ?_)
    cases hf
    exact xr_vret S G (fun _ => rfl) hr dX10_negation_29
-- HalfLandingsModel.conjunction()V
theorem dX10_conjunction_0 : decode cX10_conjunction 0 = .ok (.aload_n 0, 1) := by decide +kernel
theorem dX10_conjunction_1 : decode cX10_conjunction 1 = .ok (.invokevirtual 270, 3) := by decide +kernel
theorem dX10_conjunction_4 : decode cX10_conjunction 4 = .ok (.aload_n 0, 1) := by decide +kernel
theorem dX10_conjunction_5 : decode cX10_conjunction 5 = .ok (.bipush 12, 2) := by decide +kernel
theorem dX10_conjunction_7 : decode cX10_conjunction 7 = .ok (.invokevirtual 261, 3) := by decide +kernel
theorem dX10_conjunction_10 : decode cX10_conjunction 10 = .ok (.ifCond .eq 26, 3) := by decide +kernel
theorem dX10_conjunction_13 : decode cX10_conjunction 13 = .ok (.aload_n 0, 1) := by decide +kernel
theorem dX10_conjunction_14 : decode cX10_conjunction 14 = .ok (.invokevirtual 264, 3) := by decide +kernel
theorem dX10_conjunction_17 : decode cX10_conjunction 17 = .ok (.aload_n 0, 1) := by decide +kernel
theorem dX10_conjunction_18 : decode cX10_conjunction 18 = .ok (.invokevirtual 215, 3) := by decide +kernel
theorem dX10_conjunction_21 : decode cX10_conjunction 21 = .ok (.aload_n 0, 1) := by decide +kernel
theorem dX10_conjunction_22 : decode cX10_conjunction 22 = .ok (.invokevirtual 270, 3) := by decide +kernel
theorem dX10_conjunction_25 : decode cX10_conjunction 25 = .ok (.aload_n 0, 1) := by decide +kernel
theorem dX10_conjunction_26 : decode cX10_conjunction 26 = .ok (.iconst 2, 1) := by decide +kernel
theorem dX10_conjunction_27 : decode cX10_conjunction 27 = .ok (.sipush 261, 3) := by decide +kernel
theorem dX10_conjunction_30 : decode cX10_conjunction 30 = .ok (.invokevirtual 267, 3) := by decide +kernel
theorem dX10_conjunction_33 : decode cX10_conjunction 33 = .ok (.goto (-29), 3) := by decide +kernel
theorem dX10_conjunction_36 : decode cX10_conjunction 36 = .ok (.return_, 1) := by decide +kernel
def k_X10_conjunction_36 (sh : List xSh) (F_X10_negation : Nat → xD → Option xD) (d : xD) : Option xD :=
  some d
def b_X10_conjunction_4 (sh : List xSh) (F_X10_negation : Nat → xD → Option xD) (rec4 : Nat → xD → Option xD) (q0 : Nat) (d : xD) : Option xD :=
  (xon 10 sh q0 (f_X10_isWord sh q0 (12 : Int32) d)).bind fun z1 => if z1.1 = 0 then (k_X10_conjunction_36 sh F_X10_negation z1.2) else ((xon 10 sh q0 (f_X10_knot sh q0 z1.2)).bind fun d2 => (xon 10 sh q0 (f_X10_goOn sh q0 d2)).bind fun d3 => (xon 10 sh q0 (F_X10_negation q0 d3)).bind fun d4 => (xon 10 sh q0 (f_X10_puts sh q0 (2 : Int32) (261 : Int32) d4)).bind fun d5 => rec4 q0 d5)
def e_X10_conjunction (sh : List xSh) (F_X10_negation : Nat → xD → Option xD) (q0 : Nat) (d : xD) : Option xD :=
  (xon 10 sh q0 (F_X10_negation q0 d)).bind fun d6 => xloop (fun _ _ => none) (b_X10_conjunction_4 sh F_X10_negation) xF q0 d6
set_option maxHeartbeats 4000000 in
set_option maxRecDepth 100000 in
theorem me_X10_conjunction (l : Launch) (D : va_G) (cid : FieldType → ClassId) (b : Nat) (ex : Bool) (sa sv B0 : Nat) (sh : List xSh) (kk : Nat) (hkk : 8 ≤ kk) (k_X10_negation : Nat) (hk_X10_negation : k_X10_negation ≤ kk) (F_X10_negation : Nat → xD → Option xD) (hF_X10_negation : ∀ (q : Nat) (d dz : xD), F_X10_negation q d = some dz → xMet l yX10_negation cX10_negation 2 none k_X10_negation 0 0 D cid b ex sa sv B0 [.ref (b + q)] sh d none sh dz) (q0 : Nat) (d : xD) (dz : xD) (hf : e_X10_conjunction sh F_X10_negation q0 d = some dz) : xMet l yX10_conjunction cX10_conjunction 1 none (kk + 1) 0 0 D cid b ex sa sv B0 [.ref (b + q0)] sh d none sh dz := by
  refine xMet.of (by decide) (Nat.le_of_ble_eq_true rfl) ?_
  intro p e s m below meth c ls A S hr hin G hl
  have hl : lv_has ls 1 [(0, .ref (b + q0))] := hl
  generalize ([.ref (b + q0)] : List Value).toArray = av at S ⊢
  have hx := S.1
  have hb := S.2.1
  have hml := S.2.2.1
  have hown := S.2.2.2.1
  have hts := S.2.2.2.2.1
  have K36 : ∀ (d : xD), k_X10_conjunction_36 sh F_X10_negation d = some dz → ∀ (H : Heap) (locs : List Loc) (ls : Array Slot), lv_has ls 1 [] → xG D cid b A sh d s H locs → W p l e (xRm (kk + 1) 0 0) s m av below meth c H locs 0 0 (MQ below (xQ D cid b ex A none sh dz) av s 0 0 A) (F0 m 36 ls []) := by
    intro d hf H locs ls hl G
    unfold k_X10_conjunction_36 at hf
    cases hf
    exact xr_vret S G (fun _ => rfl) hr dX10_conjunction_36
  have K4 : ∀ (n : Nat) (q0 : Nat) (d : xD), xloop (fun _ _ => none) (b_X10_conjunction_4 sh F_X10_negation) n q0 d = some dz → ∀ (H : Heap) (locs : List Loc) (ls : Array Slot), lv_has ls 1 [(0, .ref (b + q0))] → xG D cid b A sh d s H locs → W p l e (xRm (kk + 1) 0 0) s m av below meth c H locs 0 0 (MQ below (xQ D cid b ex A none sh dz) av s 0 0 A) (F0 m 4 ls []) := by
    intro n
    induction n with
    | zero =>
      intro q0 d hf
      have hf : (none : Option xD) = some dz := hf
      cases hf
    | succ n hrec4 =>
      intro q0 d hf H locs ls hl G
      have hf : b_X10_conjunction_4 sh F_X10_negation (xloop (fun _ _ => none) (b_X10_conjunction_4 sh F_X10_negation) n) q0 d = some dz := hf
      unfold b_X10_conjunction_4 at hf
      refine lv_aload_n hx hb dX10_conjunction_4 rfl (lv_at hl 0 rfl) ?_
      refine lv_bipush (v := (12 : Int32)) hx hb dX10_conjunction_5 (by decide) ?_
      obtain ⟨z1, hz1, hf⟩ := x_ob hf
      obtain ⟨hqz1, hz1⟩ := xon_of hz1
      refine xr_callV (ci := 10) (As := [.int (12 : Int32)]) (rest := []) (st1 := [.int z1.1]) S G hl.1 (fun _ => rfl) (mt_X10_isWord l D cid b ex sa sv B0 sh q0 (12 : Int32) d _ _ hz1) hqz1 (by decide) kw_1461 kw_1463 ks_55 kw_17 kw_1464 hd_X10_isWord ⟨by show _ ≤ kk + 1; omega, by show _ ≤ 40 * (kk + 1); omega⟩ rfl rfl rfl (Nat.le_of_ble_eq_true rfl) ⟨Nat.le_of_ble_eq_true rfl, Nat.le_of_ble_eq_true rfl⟩ dX10_conjunction_7 (fun H locs G => ?_)
      refine lv_if_eq (tgt := 36) hx hb dX10_conjunction_10 (by decide) (fun c => ?_) (fun c => ?_)
      · have hf := x_pos c hf
        exact K36 z1.2 hf _ _ ls (lv_sub hl [] rfl) G
      · have hf := x_neg c hf
        refine lv_aload_n hx hb dX10_conjunction_13 rfl (lv_at hl 0 rfl) ?_
        obtain ⟨d2, hd2, hf⟩ := x_ob hf
        obtain ⟨hqd2, hd2⟩ := xon_of hd2
        refine xr_callV (ci := 10) (As := []) (rest := []) (st1 := []) S G hl.1 (fun _ => rfl) (mt_X10_knot l D cid b ex sa sv B0 sh q0 z1.2 _ hd2) hqd2 (by decide) kw_1465 kw_1467 ks_56 kw_17 kw_1468 hd_X10_knot ⟨by show _ ≤ kk + 1; omega, by show _ ≤ 40 * (kk + 1); omega⟩ rfl rfl rfl (Nat.le_of_ble_eq_true rfl) ⟨Nat.le_of_ble_eq_true rfl, Nat.le_of_ble_eq_true rfl⟩ dX10_conjunction_14 (fun H locs G => ?_)
        refine lv_aload_n hx hb dX10_conjunction_17 rfl (lv_at hl 0 rfl) ?_
        obtain ⟨d3, hd3, hf⟩ := x_ob hf
        obtain ⟨hqd3, hd3⟩ := xon_of hd3
        refine xr_callV (ci := 10) (As := []) (rest := []) (st1 := []) S G hl.1 (fun _ => rfl) (mt_X10_goOn l D cid b ex sa sv B0 sh q0 d2 _ hd3) hqd3 (by decide) kw_1441 kw_1443 ks_50 kw_17 kw_1444 hd_X10_goOn ⟨by show _ ≤ kk + 1; omega, by show _ ≤ 40 * (kk + 1); omega⟩ rfl rfl rfl (Nat.le_of_ble_eq_true rfl) ⟨Nat.le_of_ble_eq_true rfl, Nat.le_of_ble_eq_true rfl⟩ dX10_conjunction_18 (fun H locs G => ?_)
        refine lv_aload_n hx hb dX10_conjunction_21 rfl (lv_at hl 0 rfl) ?_
        obtain ⟨d4, hd4, hf⟩ := x_ob hf
        obtain ⟨hqd4, hd4⟩ := xon_of hd4
        refine xr_callV (ci := 10) (As := []) (rest := []) (st1 := []) S G hl.1 (fun _ => rfl) (hF_X10_negation q0 d3 _ hd4) hqd4 (by decide) kw_1457 kw_1459 ks_54 kw_17 kw_1460 hd_X10_negation ⟨by show _ ≤ kk + 1; omega, by show _ ≤ 40 * (kk + 1); omega⟩ rfl rfl rfl (Nat.le_of_ble_eq_true rfl) ⟨Nat.le_of_ble_eq_true rfl, Nat.le_of_ble_eq_true rfl⟩ dX10_conjunction_22 (fun H locs G => ?_)
        refine lv_aload_n hx hb dX10_conjunction_25 rfl (lv_at hl 0 rfl) ?_
        refine lv_iconst (v := (2 : Int32)) hx hb dX10_conjunction_26 (by decide) ?_
        refine lv_sipush (v := (261 : Int32)) hx hb dX10_conjunction_27 (by decide) ?_
        obtain ⟨d5, hd5, hf⟩ := x_ob hf
        obtain ⟨hqd5, hd5⟩ := xon_of hd5
        refine xr_callV (ci := 10) (As := [.int (2 : Int32), .int (261 : Int32)]) (rest := []) (st1 := []) S G hl.1 (fun _ => rfl) (mt_X10_puts l D cid b ex sa sv B0 sh q0 (2 : Int32) (261 : Int32) d4 _ hd5) hqd5 (by decide) kw_1469 kw_1471 ks_57 kw_17 kw_1472 hd_X10_puts ⟨by show _ ≤ kk + 1; omega, by show _ ≤ 40 * (kk + 1); omega⟩ rfl rfl rfl (Nat.le_of_ble_eq_true rfl) ⟨Nat.le_of_ble_eq_true rfl, Nat.le_of_ble_eq_true rfl⟩ dX10_conjunction_30 (fun H locs G => ?_)
        refine lv_goto (tgt := 4) hx hb dX10_conjunction_33 (by decide) ?_
        exact hrec4 q0 d5 hf _ _ ls (lv_sub hl [0] rfl) G
  unfold e_X10_conjunction at hf
  refine lv_aload_n hx hb dX10_conjunction_0 rfl (lv_at hl 0 rfl) ?_
  obtain ⟨d6, hd6, hf⟩ := x_ob hf
  obtain ⟨hqd6, hd6⟩ := xon_of hd6
  refine xr_callV (ci := 10) (As := []) (rest := []) (st1 := []) S G hl.1 (fun _ => rfl) (hF_X10_negation q0 d _ hd6) hqd6 (by decide) kw_1457 kw_1459 ks_54 kw_17 kw_1460 hd_X10_negation ⟨by show _ ≤ kk + 1; omega, by show _ ≤ 40 * (kk + 1); omega⟩ rfl rfl rfl (Nat.le_of_ble_eq_true rfl) ⟨Nat.le_of_ble_eq_true rfl, Nat.le_of_ble_eq_true rfl⟩ dX10_conjunction_1 (fun H locs G => ?_)
  exact K4 xF q0 d6 hf _ _ ls (lv_sub hl [0] rfl) G
-- HalfLandingsModel.expression()V
theorem dX10_expression_0 : decode cX10_expression 0 = .ok (.aload_n 0, 1) := by decide +kernel
theorem dX10_expression_1 : decode cX10_expression 1 = .ok (.invokevirtual 258, 3) := by decide +kernel
theorem dX10_expression_4 : decode cX10_expression 4 = .ok (.aload_n 0, 1) := by decide +kernel
theorem dX10_expression_5 : decode cX10_expression 5 = .ok (.bipush 11, 2) := by decide +kernel
theorem dX10_expression_7 : decode cX10_expression 7 = .ok (.invokevirtual 261, 3) := by decide +kernel
theorem dX10_expression_10 : decode cX10_expression 10 = .ok (.ifCond .eq 26, 3) := by decide +kernel
theorem dX10_expression_13 : decode cX10_expression 13 = .ok (.aload_n 0, 1) := by decide +kernel
theorem dX10_expression_14 : decode cX10_expression 14 = .ok (.invokevirtual 264, 3) := by decide +kernel
theorem dX10_expression_17 : decode cX10_expression 17 = .ok (.aload_n 0, 1) := by decide +kernel
theorem dX10_expression_18 : decode cX10_expression 18 = .ok (.invokevirtual 215, 3) := by decide +kernel
theorem dX10_expression_21 : decode cX10_expression 21 = .ok (.aload_n 0, 1) := by decide +kernel
theorem dX10_expression_22 : decode cX10_expression 22 = .ok (.invokevirtual 258, 3) := by decide +kernel
theorem dX10_expression_25 : decode cX10_expression 25 = .ok (.aload_n 0, 1) := by decide +kernel
theorem dX10_expression_26 : decode cX10_expression 26 = .ok (.iconst 2, 1) := by decide +kernel
theorem dX10_expression_27 : decode cX10_expression 27 = .ok (.sipush 262, 3) := by decide +kernel
theorem dX10_expression_30 : decode cX10_expression 30 = .ok (.invokevirtual 267, 3) := by decide +kernel
theorem dX10_expression_33 : decode cX10_expression 33 = .ok (.goto (-29), 3) := by decide +kernel
theorem dX10_expression_36 : decode cX10_expression 36 = .ok (.return_, 1) := by decide +kernel
def k_X10_expression_36 (sh : List xSh) (F_X10_conjunction : Nat → xD → Option xD) (d : xD) : Option xD :=
  some d
def b_X10_expression_4 (sh : List xSh) (F_X10_conjunction : Nat → xD → Option xD) (rec4 : Nat → xD → Option xD) (q0 : Nat) (d : xD) : Option xD :=
  (xon 10 sh q0 (f_X10_isWord sh q0 (11 : Int32) d)).bind fun z1 => if z1.1 = 0 then (k_X10_expression_36 sh F_X10_conjunction z1.2) else ((xon 10 sh q0 (f_X10_knot sh q0 z1.2)).bind fun d2 => (xon 10 sh q0 (f_X10_goOn sh q0 d2)).bind fun d3 => (xon 10 sh q0 (F_X10_conjunction q0 d3)).bind fun d4 => (xon 10 sh q0 (f_X10_puts sh q0 (2 : Int32) (262 : Int32) d4)).bind fun d5 => rec4 q0 d5)
def e_X10_expression (sh : List xSh) (F_X10_conjunction : Nat → xD → Option xD) (q0 : Nat) (d : xD) : Option xD :=
  (xon 10 sh q0 (F_X10_conjunction q0 d)).bind fun d6 => xloop (fun _ _ => none) (b_X10_expression_4 sh F_X10_conjunction) xF q0 d6
set_option maxHeartbeats 4000000 in
set_option maxRecDepth 100000 in
theorem me_X10_expression (l : Launch) (D : va_G) (cid : FieldType → ClassId) (b : Nat) (ex : Bool) (sa sv B0 : Nat) (sh : List xSh) (kk : Nat) (hkk : 8 ≤ kk) (k_X10_conjunction : Nat) (hk_X10_conjunction : k_X10_conjunction ≤ kk) (F_X10_conjunction : Nat → xD → Option xD) (hF_X10_conjunction : ∀ (q : Nat) (d dz : xD), F_X10_conjunction q d = some dz → xMet l yX10_conjunction cX10_conjunction 1 none k_X10_conjunction 0 0 D cid b ex sa sv B0 [.ref (b + q)] sh d none sh dz) (q0 : Nat) (d : xD) (dz : xD) (hf : e_X10_expression sh F_X10_conjunction q0 d = some dz) : xMet l yX10_expression cX10_expression 1 none (kk + 1) 0 0 D cid b ex sa sv B0 [.ref (b + q0)] sh d none sh dz := by
  refine xMet.of (by decide) (Nat.le_of_ble_eq_true rfl) ?_
  intro p e s m below meth c ls A S hr hin G hl
  have hl : lv_has ls 1 [(0, .ref (b + q0))] := hl
  generalize ([.ref (b + q0)] : List Value).toArray = av at S ⊢
  have hx := S.1
  have hb := S.2.1
  have hml := S.2.2.1
  have hown := S.2.2.2.1
  have hts := S.2.2.2.2.1
  have K36 : ∀ (d : xD), k_X10_expression_36 sh F_X10_conjunction d = some dz → ∀ (H : Heap) (locs : List Loc) (ls : Array Slot), lv_has ls 1 [] → xG D cid b A sh d s H locs → W p l e (xRm (kk + 1) 0 0) s m av below meth c H locs 0 0 (MQ below (xQ D cid b ex A none sh dz) av s 0 0 A) (F0 m 36 ls []) := by
    intro d hf H locs ls hl G
    unfold k_X10_expression_36 at hf
    cases hf
    exact xr_vret S G (fun _ => rfl) hr dX10_expression_36
  have K4 : ∀ (n : Nat) (q0 : Nat) (d : xD), xloop (fun _ _ => none) (b_X10_expression_4 sh F_X10_conjunction) n q0 d = some dz → ∀ (H : Heap) (locs : List Loc) (ls : Array Slot), lv_has ls 1 [(0, .ref (b + q0))] → xG D cid b A sh d s H locs → W p l e (xRm (kk + 1) 0 0) s m av below meth c H locs 0 0 (MQ below (xQ D cid b ex A none sh dz) av s 0 0 A) (F0 m 4 ls []) := by
    intro n
    induction n with
    | zero =>
      intro q0 d hf
      have hf : (none : Option xD) = some dz := hf
      cases hf
    | succ n hrec4 =>
      intro q0 d hf H locs ls hl G
      have hf : b_X10_expression_4 sh F_X10_conjunction (xloop (fun _ _ => none) (b_X10_expression_4 sh F_X10_conjunction) n) q0 d = some dz := hf
      unfold b_X10_expression_4 at hf
      refine lv_aload_n hx hb dX10_expression_4 rfl (lv_at hl 0 rfl) ?_
      refine lv_bipush (v := (11 : Int32)) hx hb dX10_expression_5 (by decide) ?_
      obtain ⟨z1, hz1, hf⟩ := x_ob hf
      obtain ⟨hqz1, hz1⟩ := xon_of hz1
      refine xr_callV (ci := 10) (As := [.int (11 : Int32)]) (rest := []) (st1 := [.int z1.1]) S G hl.1 (fun _ => rfl) (mt_X10_isWord l D cid b ex sa sv B0 sh q0 (11 : Int32) d _ _ hz1) hqz1 (by decide) kw_1461 kw_1463 ks_55 kw_17 kw_1464 hd_X10_isWord ⟨by show _ ≤ kk + 1; omega, by show _ ≤ 40 * (kk + 1); omega⟩ rfl rfl rfl (Nat.le_of_ble_eq_true rfl) ⟨Nat.le_of_ble_eq_true rfl, Nat.le_of_ble_eq_true rfl⟩ dX10_expression_7 (fun H locs G => ?_)
      refine lv_if_eq (tgt := 36) hx hb dX10_expression_10 (by decide) (fun c => ?_) (fun c => ?_)
      · have hf := x_pos c hf
        exact K36 z1.2 hf _ _ ls (lv_sub hl [] rfl) G
      · have hf := x_neg c hf
        refine lv_aload_n hx hb dX10_expression_13 rfl (lv_at hl 0 rfl) ?_
        obtain ⟨d2, hd2, hf⟩ := x_ob hf
        obtain ⟨hqd2, hd2⟩ := xon_of hd2
        refine xr_callV (ci := 10) (As := []) (rest := []) (st1 := []) S G hl.1 (fun _ => rfl) (mt_X10_knot l D cid b ex sa sv B0 sh q0 z1.2 _ hd2) hqd2 (by decide) kw_1465 kw_1467 ks_56 kw_17 kw_1468 hd_X10_knot ⟨by show _ ≤ kk + 1; omega, by show _ ≤ 40 * (kk + 1); omega⟩ rfl rfl rfl (Nat.le_of_ble_eq_true rfl) ⟨Nat.le_of_ble_eq_true rfl, Nat.le_of_ble_eq_true rfl⟩ dX10_expression_14 (fun H locs G => ?_)
        refine lv_aload_n hx hb dX10_expression_17 rfl (lv_at hl 0 rfl) ?_
        obtain ⟨d3, hd3, hf⟩ := x_ob hf
        obtain ⟨hqd3, hd3⟩ := xon_of hd3
        refine xr_callV (ci := 10) (As := []) (rest := []) (st1 := []) S G hl.1 (fun _ => rfl) (mt_X10_goOn l D cid b ex sa sv B0 sh q0 d2 _ hd3) hqd3 (by decide) kw_1441 kw_1443 ks_50 kw_17 kw_1444 hd_X10_goOn ⟨by show _ ≤ kk + 1; omega, by show _ ≤ 40 * (kk + 1); omega⟩ rfl rfl rfl (Nat.le_of_ble_eq_true rfl) ⟨Nat.le_of_ble_eq_true rfl, Nat.le_of_ble_eq_true rfl⟩ dX10_expression_18 (fun H locs G => ?_)
        refine lv_aload_n hx hb dX10_expression_21 rfl (lv_at hl 0 rfl) ?_
        obtain ⟨d4, hd4, hf⟩ := x_ob hf
        obtain ⟨hqd4, hd4⟩ := xon_of hd4
        refine xr_callV (ci := 10) (As := []) (rest := []) (st1 := []) S G hl.1 (fun _ => rfl) (hF_X10_conjunction q0 d3 _ hd4) hqd4 (by decide) kw_1453 kw_1455 ks_53 kw_17 kw_1456 hd_X10_conjunction ⟨by show _ ≤ kk + 1; omega, by show _ ≤ 40 * (kk + 1); omega⟩ rfl rfl rfl (Nat.le_of_ble_eq_true rfl) ⟨Nat.le_of_ble_eq_true rfl, Nat.le_of_ble_eq_true rfl⟩ dX10_expression_22 (fun H locs G => ?_)
        refine lv_aload_n hx hb dX10_expression_25 rfl (lv_at hl 0 rfl) ?_
        refine lv_iconst (v := (2 : Int32)) hx hb dX10_expression_26 (by decide) ?_
        refine lv_sipush (v := (262 : Int32)) hx hb dX10_expression_27 (by decide) ?_
        obtain ⟨d5, hd5, hf⟩ := x_ob hf
        obtain ⟨hqd5, hd5⟩ := xon_of hd5
        refine xr_callV (ci := 10) (As := [.int (2 : Int32), .int (262 : Int32)]) (rest := []) (st1 := []) S G hl.1 (fun _ => rfl) (mt_X10_puts l D cid b ex sa sv B0 sh q0 (2 : Int32) (262 : Int32) d4 _ hd5) hqd5 (by decide) kw_1469 kw_1471 ks_57 kw_17 kw_1472 hd_X10_puts ⟨by show _ ≤ kk + 1; omega, by show _ ≤ 40 * (kk + 1); omega⟩ rfl rfl rfl (Nat.le_of_ble_eq_true rfl) ⟨Nat.le_of_ble_eq_true rfl, Nat.le_of_ble_eq_true rfl⟩ dX10_expression_30 (fun H locs G => ?_)
        refine lv_goto (tgt := 4) hx hb dX10_expression_33 (by decide) ?_
        exact hrec4 q0 d5 hf _ _ ls (lv_sub hl [0] rfl) G
  unfold e_X10_expression at hf
  refine lv_aload_n hx hb dX10_expression_0 rfl (lv_at hl 0 rfl) ?_
  obtain ⟨d6, hd6, hf⟩ := x_ob hf
  obtain ⟨hqd6, hd6⟩ := xon_of hd6
  refine xr_callV (ci := 10) (As := []) (rest := []) (st1 := []) S G hl.1 (fun _ => rfl) (hF_X10_conjunction q0 d _ hd6) hqd6 (by decide) kw_1453 kw_1455 ks_53 kw_17 kw_1456 hd_X10_conjunction ⟨by show _ ≤ kk + 1; omega, by show _ ≤ 40 * (kk + 1); omega⟩ rfl rfl rfl (Nat.le_of_ble_eq_true rfl) ⟨Nat.le_of_ble_eq_true rfl, Nat.le_of_ble_eq_true rfl⟩ dX10_expression_1 (fun H locs G => ?_)
  exact K4 xF q0 d6 hf _ _ ls (lv_sub hl [0] rfl) G
def g_neg (sh : List xSh) : Nat → Nat → xD → Option xD
  | 0 => fun _ _ => none
  | k + 1 => fun q d => e_X10_negation sh (g_neg sh k) (fun q d => e_X10_sum sh (fun q d => e_X10_product sh (fun q d => e_X10_primary sh (fun q d => e_X10_expression sh (fun q d => e_X10_conjunction sh (g_neg sh k) q d) q d) q d) q d) q d) q d
theorem mt_neg (l : Launch) (D : va_G) (cid : FieldType → ClassId) (b : Nat) (ex : Bool) (sa sv B0 : Nat) (sh : List xSh) : ∀ (k : Nat) (q : Nat) (d dz : xD), g_neg sh k q d = some dz → xMet l yX10_negation cX10_negation 2 none (8 + 6 * k) 0 0 D cid b ex sa sv B0 [.ref (b + q)] sh d none sh dz := by
  intro k
  induction k with
  | zero =>
    intro q d dz hf
    have hf : (none : Option xD) = some dz := hf
    cases hf
  | succ k ih =>
    intro q d dz hf
    have h1 := me_X10_conjunction l D cid b ex sa sv B0 sh (8 + 6 * k) (by omega) (8 + 6 * k) (Nat.le_refl _) (g_neg sh k) ih
    have h2 := me_X10_expression l D cid b ex sa sv B0 sh (9 + 6 * k) (by omega) (8 + 6 * k + 1) (by omega) (fun q d => e_X10_conjunction sh (g_neg sh k) q d) h1
    have h3 := me_X10_primary l D cid b ex sa sv B0 sh (10 + 6 * k) (by omega) (9 + 6 * k + 1) (by omega) (fun q d => e_X10_expression sh (fun q d => e_X10_conjunction sh (g_neg sh k) q d) q d) h2
    have h4 := me_X10_product l D cid b ex sa sv B0 sh (11 + 6 * k) (by omega) (10 + 6 * k + 1) (by omega) (fun q d => e_X10_primary sh (fun q d => e_X10_expression sh (fun q d => e_X10_conjunction sh (g_neg sh k) q d) q d) q d) h3
    have h5 := me_X10_sum l D cid b ex sa sv B0 sh (12 + 6 * k) (by omega) (11 + 6 * k + 1) (by omega) (fun q d => e_X10_product sh (fun q d => e_X10_primary sh (fun q d => e_X10_expression sh (fun q d => e_X10_conjunction sh (g_neg sh k) q d) q d) q d) q d) h4
    have h6 := me_X10_negation l D cid b ex sa sv B0 sh (13 + 6 * k) (by omega) (8 + 6 * k) (by omega) (g_neg sh k) ih (12 + 6 * k + 1) (by omega) (fun q d => e_X10_sum sh (fun q d => e_X10_product sh (fun q d => e_X10_primary sh (fun q d => e_X10_expression sh (fun q d => e_X10_conjunction sh (g_neg sh k) q d) q d) q d) q d) q d) h5 q d dz hf
    have e6 : 8 + 6 * (k + 1) = 13 + 6 * k + 1 := by omega
    rw [e6]
    exact h6
def f_X10_expression (sh : List xSh) (q0 : Nat) (d : xD) : Option xD := e_X10_expression sh (fun q d => e_X10_conjunction sh (g_neg sh 80) q d) q0 d
theorem mt_X10_expression (l : Launch) (D : va_G) (cid : FieldType → ClassId) (b : Nat) (ex : Bool) (sa sv B0 : Nat) (sh : List xSh) (q0 : Nat) (d dz : xD) (hf : f_X10_expression sh q0 d = some dz) : xMet l yX10_expression cX10_expression 1 none 490 0 0 D cid b ex sa sv B0 [.ref (b + q0)] sh d none sh dz :=
  me_X10_expression l D cid b ex sa sv B0 sh 489 (by omega) 489 (Nat.le_refl _) (fun q d => e_X10_conjunction sh (g_neg sh 80) q d) (me_X10_conjunction l D cid b ex sa sv B0 sh 488 (by omega) 488 (Nat.le_refl _) (g_neg sh 80) (mt_neg l D cid b ex sa sv B0 sh 80)) q0 d dz hf

-- HalfLandings.<init>()V
theorem dX9_init_0 : decode cX9_init 0 = .ok (.aload_n 0, 1) := by decide +kernel
theorem dX9_init_1 : decode cX9_init 1 = .ok (.invokespecial 3, 3) := by decide +kernel
theorem dX9_init_4 : decode cX9_init 4 = .ok (.aload_n 0, 1) := by decide +kernel
theorem dX9_init_5 : decode cX9_init 5 = .ok (.sipush 700, 3) := by decide +kernel
theorem dX9_init_8 : decode cX9_init 8 = .ok (.newarray .byte, 2) := by decide +kernel
theorem dX9_init_10 : decode cX9_init 10 = .ok (.putfield 11, 3) := by decide +kernel
theorem dX9_init_13 : decode cX9_init 13 = .ok (.aload_n 0, 1) := by decide +kernel
theorem dX9_init_14 : decode cX9_init 14 = .ok (.iconst 0, 1) := by decide +kernel
theorem dX9_init_15 : decode cX9_init 15 = .ok (.putfield 15, 3) := by decide +kernel
theorem dX9_init_18 : decode cX9_init 18 = .ok (.aload_n 0, 1) := by decide +kernel
theorem dX9_init_19 : decode cX9_init 19 = .ok (.iconst 0, 1) := by decide +kernel
theorem dX9_init_20 : decode cX9_init 20 = .ok (.putfield 19, 3) := by decide +kernel
theorem dX9_init_23 : decode cX9_init 23 = .ok (.aload_n 0, 1) := by decide +kernel
theorem dX9_init_24 : decode cX9_init 24 = .ok (.iconst (-1), 1) := by decide +kernel
theorem dX9_init_25 : decode cX9_init 25 = .ok (.putfield 22, 3) := by decide +kernel
theorem dX9_init_28 : decode cX9_init 28 = .ok (.aload_n 0, 1) := by decide +kernel
theorem dX9_init_29 : decode cX9_init 29 = .ok (.new 25, 3) := by decide +kernel
theorem dX9_init_32 : decode cX9_init 32 = .ok (.dup, 1) := by decide +kernel
theorem dX9_init_33 : decode cX9_init 33 = .ok (.invokespecial 27, 3) := by decide +kernel
theorem dX9_init_36 : decode cX9_init 36 = .ok (.putfield 28, 3) := by decide +kernel
theorem dX9_init_39 : decode cX9_init 39 = .ok (.aload_n 0, 1) := by decide +kernel
theorem dX9_init_40 : decode cX9_init 40 = .ok (.new 25, 3) := by decide +kernel
theorem dX9_init_43 : decode cX9_init 43 = .ok (.dup, 1) := by decide +kernel
theorem dX9_init_44 : decode cX9_init 44 = .ok (.invokespecial 27, 3) := by decide +kernel
theorem dX9_init_47 : decode cX9_init 47 = .ok (.putfield 32, 3) := by decide +kernel
theorem dX9_init_50 : decode cX9_init 50 = .ok (.aload_n 0, 1) := by decide +kernel
theorem dX9_init_51 : decode cX9_init 51 = .ok (.new 35, 3) := by decide +kernel
theorem dX9_init_54 : decode cX9_init 54 = .ok (.dup, 1) := by decide +kernel
theorem dX9_init_55 : decode cX9_init 55 = .ok (.aload_n 0, 1) := by decide +kernel
theorem dX9_init_56 : decode cX9_init 56 = .ok (.getfield 11, 3) := by decide +kernel
theorem dX9_init_59 : decode cX9_init 59 = .ok (.invokespecial 37, 3) := by decide +kernel
theorem dX9_init_62 : decode cX9_init 62 = .ok (.putfield 40, 3) := by decide +kernel
theorem dX9_init_65 : decode cX9_init 65 = .ok (.aload_n 0, 1) := by decide +kernel
theorem dX9_init_66 : decode cX9_init 66 = .ok (.new 44, 3) := by decide +kernel
theorem dX9_init_69 : decode cX9_init 69 = .ok (.dup, 1) := by decide +kernel
theorem dX9_init_70 : decode cX9_init 70 = .ok (.aload_n 0, 1) := by decide +kernel
theorem dX9_init_71 : decode cX9_init 71 = .ok (.getfield 40, 3) := by decide +kernel
theorem dX9_init_74 : decode cX9_init 74 = .ok (.aload_n 0, 1) := by decide +kernel
theorem dX9_init_75 : decode cX9_init 75 = .ok (.getfield 32, 3) := by decide +kernel
theorem dX9_init_78 : decode cX9_init 78 = .ok (.invokespecial 46, 3) := by decide +kernel
theorem dX9_init_81 : decode cX9_init 81 = .ok (.putfield 49, 3) := by decide +kernel
theorem dX9_init_84 : decode cX9_init 84 = .ok (.aload_n 0, 1) := by decide +kernel
theorem dX9_init_85 : decode cX9_init 85 = .ok (.new 53, 3) := by decide +kernel
theorem dX9_init_88 : decode cX9_init 88 = .ok (.dup, 1) := by decide +kernel
theorem dX9_init_89 : decode cX9_init 89 = .ok (.invokespecial 55, 3) := by decide +kernel
theorem dX9_init_92 : decode cX9_init 92 = .ok (.putfield 56, 3) := by decide +kernel
theorem dX9_init_95 : decode cX9_init 95 = .ok (.aload_n 0, 1) := by decide +kernel
theorem dX9_init_96 : decode cX9_init 96 = .ok (.new 53, 3) := by decide +kernel
theorem dX9_init_99 : decode cX9_init 99 = .ok (.dup, 1) := by decide +kernel
theorem dX9_init_100 : decode cX9_init 100 = .ok (.invokespecial 55, 3) := by decide +kernel
theorem dX9_init_103 : decode cX9_init 103 = .ok (.putfield 60, 3) := by decide +kernel
theorem dX9_init_106 : decode cX9_init 106 = .ok (.aload_n 0, 1) := by decide +kernel
theorem dX9_init_107 : decode cX9_init 107 = .ok (.new 53, 3) := by decide +kernel
theorem dX9_init_110 : decode cX9_init 110 = .ok (.dup, 1) := by decide +kernel
theorem dX9_init_111 : decode cX9_init 111 = .ok (.invokespecial 55, 3) := by decide +kernel
theorem dX9_init_114 : decode cX9_init 114 = .ok (.putfield 63, 3) := by decide +kernel
theorem dX9_init_117 : decode cX9_init 117 = .ok (.aload_n 0, 1) := by decide +kernel
theorem dX9_init_118 : decode cX9_init 118 = .ok (.iconst 0, 1) := by decide +kernel
theorem dX9_init_119 : decode cX9_init 119 = .ok (.putfield 66, 3) := by decide +kernel
theorem dX9_init_122 : decode cX9_init 122 = .ok (.aload_n 0, 1) := by decide +kernel
theorem dX9_init_123 : decode cX9_init 123 = .ok (.new 70, 3) := by decide +kernel
theorem dX9_init_126 : decode cX9_init 126 = .ok (.dup, 1) := by decide +kernel
theorem dX9_init_127 : decode cX9_init 127 = .ok (.aload_n 0, 1) := by decide +kernel
theorem dX9_init_128 : decode cX9_init 128 = .ok (.getfield 28, 3) := by decide +kernel
theorem dX9_init_131 : decode cX9_init 131 = .ok (.invokespecial 72, 3) := by decide +kernel
theorem dX9_init_134 : decode cX9_init 134 = .ok (.putfield 75, 3) := by decide +kernel
theorem dX9_init_137 : decode cX9_init 137 = .ok (.aload_n 0, 1) := by decide +kernel
theorem dX9_init_138 : decode cX9_init 138 = .ok (.new 79, 3) := by decide +kernel
theorem dX9_init_141 : decode cX9_init 141 = .ok (.dup, 1) := by decide +kernel
theorem dX9_init_142 : decode cX9_init 142 = .ok (.invokespecial 81, 3) := by decide +kernel
theorem dX9_init_145 : decode cX9_init 145 = .ok (.putfield 82, 3) := by decide +kernel
theorem dX9_init_148 : decode cX9_init 148 = .ok (.aload_n 0, 1) := by decide +kernel
theorem dX9_init_149 : decode cX9_init 149 = .ok (.new 86, 3) := by decide +kernel
theorem dX9_init_152 : decode cX9_init 152 = .ok (.dup, 1) := by decide +kernel
theorem dX9_init_153 : decode cX9_init 153 = .ok (.invokespecial 88, 3) := by decide +kernel
theorem dX9_init_156 : decode cX9_init 156 = .ok (.putfield 89, 3) := by decide +kernel
theorem dX9_init_159 : decode cX9_init 159 = .ok (.aload_n 0, 1) := by decide +kernel
theorem dX9_init_160 : decode cX9_init 160 = .ok (.getfield 56, 3) := by decide +kernel
theorem dX9_init_163 : decode cX9_init 163 = .ok (.aload_n 0, 1) := by decide +kernel
theorem dX9_init_164 : decode cX9_init 164 = .ok (.getfield 28, 3) := by decide +kernel
theorem dX9_init_167 : decode cX9_init 167 = .ok (.invokevirtual 93, 3) := by decide +kernel
theorem dX9_init_170 : decode cX9_init 170 = .ok (.return_, 1) := by decide +kernel
theorem hd_X9_init : yX9_init.cls ≠ "java/lang/invoke/MethodHandle" ∧ yX9_init.cls ≠ "java/lang/invoke/VarHandle" ∧ (parseMethodDescriptor yX9_init.desc).map (fun d => d.parameters.length) = some 0 := by decide +kernel
def sx_X9_init_1 (sh : List xSh) : List xSh := sh ++ [.inr (.byte, 700)]
theorem sx_X9_init_1_len (sh : List xSh) : (sx_X9_init_1 sh).length = sh.length + 1 := by
  unfold sx_X9_init_1
  rw [List.length_append]
  rfl
def sx_X9_init_2 (sh : List xSh) : List xSh := (sx_X9_init_1 sh) ++ [.inl 3]
theorem sx_X9_init_2_len (sh : List xSh) : (sx_X9_init_2 sh).length = sh.length + 2 := by
  unfold sx_X9_init_2
  rw [List.length_append, sx_X9_init_1_len]
  rfl
def sx_X9_init_20 (sh : List xSh) : List xSh := sx_X3_init_18 (sx_X9_init_2 sh)
theorem sx_X9_init_20_len (sh : List xSh) : (sx_X9_init_20 sh).length = sh.length + 20 := by
  unfold sx_X9_init_20
  rw [sx_X3_init_18_len, sx_X9_init_2_len]
def sx_X9_init_21 (sh : List xSh) : List xSh := (sx_X9_init_20 sh) ++ [.inl 3]
theorem sx_X9_init_21_len (sh : List xSh) : (sx_X9_init_21 sh).length = sh.length + 21 := by
  unfold sx_X9_init_21
  rw [List.length_append, sx_X9_init_20_len]
  rfl
def sx_X9_init_39 (sh : List xSh) : List xSh := sx_X3_init_18 (sx_X9_init_21 sh)
theorem sx_X9_init_39_len (sh : List xSh) : (sx_X9_init_39 sh).length = sh.length + 39 := by
  unfold sx_X9_init_39
  rw [sx_X3_init_18_len, sx_X9_init_21_len]
def sx_X9_init_40 (sh : List xSh) : List xSh := (sx_X9_init_39 sh) ++ [.inl 7]
theorem sx_X9_init_40_len (sh : List xSh) : (sx_X9_init_40 sh).length = sh.length + 40 := by
  unfold sx_X9_init_40
  rw [List.length_append, sx_X9_init_39_len]
  rfl
def sx_X9_init_41 (sh : List xSh) : List xSh := sx_X7_init_1 (sx_X9_init_40 sh)
theorem sx_X9_init_41_len (sh : List xSh) : (sx_X9_init_41 sh).length = sh.length + 41 := by
  unfold sx_X9_init_41
  rw [sx_X7_init_1_len, sx_X9_init_40_len]
def sx_X9_init_42 (sh : List xSh) : List xSh := (sx_X9_init_41 sh) ++ [.inl 6]
theorem sx_X9_init_42_len (sh : List xSh) : (sx_X9_init_42 sh).length = sh.length + 42 := by
  unfold sx_X9_init_42
  rw [List.length_append, sx_X9_init_41_len]
  rfl
def sx_X9_init_44 (sh : List xSh) : List xSh := sx_X6_init_2 (sx_X9_init_42 sh)
theorem sx_X9_init_44_len (sh : List xSh) : (sx_X9_init_44 sh).length = sh.length + 44 := by
  unfold sx_X9_init_44
  rw [sx_X6_init_2_len, sx_X9_init_42_len]
def sx_X9_init_45 (sh : List xSh) : List xSh := (sx_X9_init_44 sh) ++ [.inl 4]
theorem sx_X9_init_45_len (sh : List xSh) : (sx_X9_init_45 sh).length = sh.length + 45 := by
  unfold sx_X9_init_45
  rw [List.length_append, sx_X9_init_44_len]
  rfl
def sx_X9_init_58 (sh : List xSh) : List xSh := sx_X4_init_13 (sx_X9_init_45 sh)
theorem sx_X9_init_58_len (sh : List xSh) : (sx_X9_init_58 sh).length = sh.length + 58 := by
  unfold sx_X9_init_58
  rw [sx_X4_init_13_len, sx_X9_init_45_len]
def sx_X9_init_59 (sh : List xSh) : List xSh := (sx_X9_init_58 sh) ++ [.inl 4]
theorem sx_X9_init_59_len (sh : List xSh) : (sx_X9_init_59 sh).length = sh.length + 59 := by
  unfold sx_X9_init_59
  rw [List.length_append, sx_X9_init_58_len]
  rfl
def sx_X9_init_72 (sh : List xSh) : List xSh := sx_X4_init_13 (sx_X9_init_59 sh)
theorem sx_X9_init_72_len (sh : List xSh) : (sx_X9_init_72 sh).length = sh.length + 72 := by
  unfold sx_X9_init_72
  rw [sx_X4_init_13_len, sx_X9_init_59_len]
def sx_X9_init_73 (sh : List xSh) : List xSh := (sx_X9_init_72 sh) ++ [.inl 4]
theorem sx_X9_init_73_len (sh : List xSh) : (sx_X9_init_73 sh).length = sh.length + 73 := by
  unfold sx_X9_init_73
  rw [List.length_append, sx_X9_init_72_len]
  rfl
def sx_X9_init_86 (sh : List xSh) : List xSh := sx_X4_init_13 (sx_X9_init_73 sh)
theorem sx_X9_init_86_len (sh : List xSh) : (sx_X9_init_86 sh).length = sh.length + 86 := by
  unfold sx_X9_init_86
  rw [sx_X4_init_13_len, sx_X9_init_73_len]
def sx_X9_init_87 (sh : List xSh) : List xSh := (sx_X9_init_86 sh) ++ [.inl 2]
theorem sx_X9_init_87_len (sh : List xSh) : (sx_X9_init_87 sh).length = sh.length + 87 := by
  unfold sx_X9_init_87
  rw [List.length_append, sx_X9_init_86_len]
  rfl
def sx_X9_init_88 (sh : List xSh) : List xSh := sx_X2_init_1 (sx_X9_init_87 sh)
theorem sx_X9_init_88_len (sh : List xSh) : (sx_X9_init_88 sh).length = sh.length + 88 := by
  unfold sx_X9_init_88
  rw [sx_X2_init_1_len, sx_X9_init_87_len]
def sx_X9_init_89 (sh : List xSh) : List xSh := (sx_X9_init_88 sh) ++ [.inl 8]
theorem sx_X9_init_89_len (sh : List xSh) : (sx_X9_init_89 sh).length = sh.length + 89 := by
  unfold sx_X9_init_89
  rw [List.length_append, sx_X9_init_88_len]
  rfl
def sx_X9_init_91 (sh : List xSh) : List xSh := sx_X8_init_2 (sx_X9_init_89 sh)
theorem sx_X9_init_91_len (sh : List xSh) : (sx_X9_init_91 sh).length = sh.length + 91 := by
  unfold sx_X9_init_91
  rw [sx_X8_init_2_len, sx_X9_init_89_len]
def sx_X9_init_92 (sh : List xSh) : List xSh := (sx_X9_init_91 sh) ++ [.inl 5]
theorem sx_X9_init_92_len (sh : List xSh) : (sx_X9_init_92 sh).length = sh.length + 92 := by
  unfold sx_X9_init_92
  rw [List.length_append, sx_X9_init_91_len]
  rfl
def sx_X9_init_98 (sh : List xSh) : List xSh := sx_X5_init_6 (sx_X9_init_92 sh)
theorem sx_X9_init_98_len (sh : List xSh) : (sx_X9_init_98 sh).length = sh.length + 98 := by
  unfold sx_X9_init_98
  rw [sx_X5_init_6_len, sx_X9_init_92_len]
def f_X9_init (sh : List xSh) (q0 : Nat) (d : xD) : Option xD :=
  (xpR 9 (sx_X9_init_1 sh) (xnw d sh.length) q0 0 sh.length).bind fun d1 => (xpI 9 (sx_X9_init_1 sh) d1 q0 1 (0 : Int32)).bind fun d2 => (xpI 9 (sx_X9_init_1 sh) d2 q0 2 (0 : Int32)).bind fun d3 => (xpI 9 (sx_X9_init_1 sh) d3 q0 3 (-1 : Int32)).bind fun d4 => (f_X3_init (sx_X9_init_2 sh) (sh.length + 1) (xnw d4 (sh.length + 1))).bind fun d5 => (xpR 9 (sx_X9_init_20 sh) d5 q0 4 (sh.length + 1)).bind fun d6 => (f_X3_init (sx_X9_init_21 sh) (sh.length + 20) (xnw d6 (sh.length + 20))).bind fun d7 => (xpR 9 (sx_X9_init_39 sh) d7 q0 5 (sh.length + 20)).bind fun d8 => (xgR 9 (sx_X9_init_40 sh) (xnw d8 (sh.length + 39)) q0 0).bind fun v9 => (f_X7_init (sx_X9_init_40 sh) (sh.length + 39) v9 (xnw d8 (sh.length + 39))).bind fun d10 => (xpR 9 (sx_X9_init_41 sh) d10 q0 6 (sh.length + 39)).bind fun d11 => (xgR 9 (sx_X9_init_42 sh) (xnw d11 (sh.length + 41)) q0 6).bind fun v12 => (xgR 9 (sx_X9_init_42 sh) (xnw d11 (sh.length + 41)) q0 5).bind fun v13 => (f_X6_init (sx_X9_init_42 sh) (sh.length + 41) v12 v13 (xnw d11 (sh.length + 41))).bind fun d14 => (xpR 9 (sx_X9_init_44 sh) d14 q0 7 (sh.length + 41)).bind fun d15 => (f_X4_init (sx_X9_init_45 sh) (sh.length + 44) (xnw d15 (sh.length + 44))).bind fun d16 => (xpR 9 (sx_X9_init_58 sh) d16 q0 8 (sh.length + 44)).bind fun d17 => (f_X4_init (sx_X9_init_59 sh) (sh.length + 58) (xnw d17 (sh.length + 58))).bind fun d18 => (xpR 9 (sx_X9_init_72 sh) d18 q0 9 (sh.length + 58)).bind fun d19 => (f_X4_init (sx_X9_init_73 sh) (sh.length + 72) (xnw d19 (sh.length + 72))).bind fun d20 => (xpR 9 (sx_X9_init_86 sh) d20 q0 10 (sh.length + 72)).bind fun d21 => (xpI 9 (sx_X9_init_86 sh) d21 q0 11 (0 : Int32)).bind fun d22 => (xgR 9 (sx_X9_init_87 sh) (xnw d22 (sh.length + 86)) q0 4).bind fun v23 => (f_X2_init (sx_X9_init_87 sh) (sh.length + 86) v23 (xnw d22 (sh.length + 86))).bind fun d24 => (xpR 9 (sx_X9_init_88 sh) d24 q0 12 (sh.length + 86)).bind fun d25 => (f_X8_init (sx_X9_init_89 sh) (sh.length + 88) (xnw d25 (sh.length + 88))).bind fun d26 => (xpR 9 (sx_X9_init_91 sh) d26 q0 13 (sh.length + 88)).bind fun d27 => (f_X5_init (sx_X9_init_92 sh) (sh.length + 91) (xnw d27 (sh.length + 91))).bind fun d28 => (xpR 9 (sx_X9_init_98 sh) d28 q0 14 (sh.length + 91)).bind fun d29 => (xgR 9 (sx_X9_init_98 sh) d29 q0 8).bind fun v30 => (xgR 9 (sx_X9_init_98 sh) d29 q0 4).bind fun v31 => (xon 4 (sx_X9_init_98 sh) v30 (f_X4_begin (sx_X9_init_98 sh) v30 v31 d29)).bind fun d32 => some d32
set_option maxHeartbeats 4000000 in
set_option maxRecDepth 100000 in
theorem mt_X9_init (l : Launch) (D : va_G) (cid : FieldType → ClassId) (b : Nat) (sa sv B0 : Nat) (sh : List xSh) (hsh : 0 < sh.length) (shz : List xSh) (hshz : (sx_X9_init_98 sh) = shz) (q0 : Nat) (d : xD) (dz : xD) (hf : f_X9_init sh q0 d = some dz) : xMet l yX9_init cX9_init 1 none 5 98 2157 D cid b true sa sv B0 [.ref (b + q0)] sh d none shz dz := by
  subst hshz
  refine xMet.of (by decide) (Nat.le_of_ble_eq_true rfl) ?_
  intro p e s m below meth c ls A S hr hin G hl
  have hl : lv_has ls 1 [(0, .ref (b + q0))] := hl
  generalize ([.ref (b + q0)] : List Value).toArray = av at S ⊢
  have hx := S.1
  have hb := S.2.1
  have hml := S.2.2.1
  have hown := S.2.2.2.1
  have hts := S.2.2.2.2.1
  unfold f_X9_init at hf
  refine lv_aload_n hx hb dX9_init_0 rfl (lv_at hl 0 rfl) ?_
  refine W.objInit hx hb hown (hts _ kw_30) (hts _ kw_31) (hts _ kw_32) rfl (by rw [hml]; exact hl.1) rfl dX9_init_1 (Nat.le_of_ble_eq_true rfl) (Nat.le_of_ble_eq_true rfl) ?_
  refine W.eq (g2 := F0 m 4 ls []) rfl ?_
  refine lv_aload_n hx hb dX9_init_4 rfl (lv_at hl 0 rfl) ?_
  refine lv_sipush (v := (700 : Int32)) hx hb dX9_init_5 (by decide) ?_
  refine xr_newa (atype := .byte) (ty := .byte) (q := sh.length) (N := 700) (sh' := (sx_X9_init_1 sh)) 1 S G rfl hsh rfl rfl rfl rfl kw_72 (by decide) (by decide) (Nat.le_of_ble_eq_true rfl) (Nat.le_of_ble_eq_true rfl) (Nat.le_of_ble_eq_true rfl) dX9_init_8 (fun H G => ?_)
  obtain ⟨d1, hd1, hf⟩ := x_ob hf
  refine xr_putRF (ci := 9) (k := 0) S (hin rfl) G hd1 rfl rfl kw_481 dX9_init_10 (fun H locs G => ?_)
  refine lv_aload_n hx hb dX9_init_13 rfl (lv_at hl 0 rfl) ?_
  refine lv_iconst (v := (0 : Int32)) hx hb dX9_init_14 (by decide) ?_
  obtain ⟨d2, hd2, hf⟩ := x_ob hf
  refine xr_putI (ci := 9) (k := 1) S G hd2 rfl kw_482 dX9_init_15 (fun H locs G => ?_)
  refine lv_aload_n hx hb dX9_init_18 rfl (lv_at hl 0 rfl) ?_
  refine lv_iconst (v := (0 : Int32)) hx hb dX9_init_19 (by decide) ?_
  obtain ⟨d3, hd3, hf⟩ := x_ob hf
  refine xr_putI (ci := 9) (k := 2) S G hd3 rfl kw_483 dX9_init_20 (fun H locs G => ?_)
  refine lv_aload_n hx hb dX9_init_23 rfl (lv_at hl 0 rfl) ?_
  refine lv_iconst (v := (-1 : Int32)) hx hb dX9_init_24 (by decide) ?_
  obtain ⟨d4, hd4, hf⟩ := x_ob hf
  refine xr_putI (ci := 9) (k := 3) S G hd4 rfl kw_484 dX9_init_25 (fun H locs G => ?_)
  refine lv_aload_n hx hb dX9_init_28 rfl (lv_at hl 0 rfl) ?_
  refine xr_new (ci := 3) (q := (sh.length + 1)) (sh' := (sx_X9_init_2 sh)) S G (sx_X9_init_1_len sh) (by rw [sx_X9_init_1_len]; omega) (by decide) (sx_X9_init_1_len sh) rfl kw_33 kw_34 kw_2 (Nat.le_of_ble_eq_true rfl) (Nat.le_of_ble_eq_true rfl) dX9_init_29 (fun H G => ?_)
  refine lv_dup hx hb dX9_init_32 rfl ?_
  obtain ⟨d5, hd5, hf⟩ := x_ob hf
  refine xr_callI (As := []) (rest := [.ref (b + (sh.length + 1)), .ref (b + q0)]) (st1 := [.ref (b + (sh.length + 1)), .ref (b + q0)]) (sh' := (sx_X9_init_20 sh)) S G hl.1 (fun _ => sx_X9_init_2_len sh) (mt_X3_init l D cid b sa sv B0 (sx_X9_init_2 sh) (by rw [sx_X9_init_2_len]; omega) (sx_X9_init_20 sh) rfl (sh.length + 1) (xnw d4 (sh.length + 1)) _ hd5) kw_35 kw_36 kw_2 kw_37 rfl hd_X3_init ⟨Nat.le_of_ble_eq_true rfl, Nat.le_of_ble_eq_true rfl⟩ rfl rfl rfl (Nat.le_of_ble_eq_true rfl) ⟨Nat.le_of_ble_eq_true rfl, Nat.le_of_ble_eq_true rfl⟩ dX9_init_33 (fun H locs G => ?_)
  obtain ⟨d6, hd6, hf⟩ := x_ob hf
  refine xr_putR (ci := 9) (k := 4) S G hd6 rfl kw_485 dX9_init_36 (fun H locs G => ?_)
  refine lv_aload_n hx hb dX9_init_39 rfl (lv_at hl 0 rfl) ?_
  refine xr_new (ci := 3) (q := (sh.length + 20)) (sh' := (sx_X9_init_21 sh)) S G (sx_X9_init_20_len sh) (by rw [sx_X9_init_20_len]; omega) (by decide) (sx_X9_init_20_len sh) rfl kw_33 kw_34 kw_2 (Nat.le_of_ble_eq_true rfl) (Nat.le_of_ble_eq_true rfl) dX9_init_40 (fun H G => ?_)
  refine lv_dup hx hb dX9_init_43 rfl ?_
  obtain ⟨d7, hd7, hf⟩ := x_ob hf
  refine xr_callI (As := []) (rest := [.ref (b + (sh.length + 20)), .ref (b + q0)]) (st1 := [.ref (b + (sh.length + 20)), .ref (b + q0)]) (sh' := (sx_X9_init_39 sh)) S G hl.1 (fun _ => sx_X9_init_21_len sh) (mt_X3_init l D cid b sa sv B0 (sx_X9_init_21 sh) (by rw [sx_X9_init_21_len]; omega) (sx_X9_init_39 sh) rfl (sh.length + 20) (xnw d6 (sh.length + 20)) _ hd7) kw_35 kw_36 kw_2 kw_37 rfl hd_X3_init ⟨Nat.le_of_ble_eq_true rfl, Nat.le_of_ble_eq_true rfl⟩ rfl rfl rfl (Nat.le_of_ble_eq_true rfl) ⟨Nat.le_of_ble_eq_true rfl, Nat.le_of_ble_eq_true rfl⟩ dX9_init_44 (fun H locs G => ?_)
  obtain ⟨d8, hd8, hf⟩ := x_ob hf
  refine xr_putR (ci := 9) (k := 5) S G hd8 rfl kw_486 dX9_init_47 (fun H locs G => ?_)
  refine lv_aload_n hx hb dX9_init_50 rfl (lv_at hl 0 rfl) ?_
  refine xr_new (ci := 7) (q := (sh.length + 39)) (sh' := (sx_X9_init_40 sh)) S G (sx_X9_init_39_len sh) (by rw [sx_X9_init_39_len]; omega) (by decide) (sx_X9_init_39_len sh) rfl kw_171 kw_172 kw_5 (Nat.le_of_ble_eq_true rfl) (Nat.le_of_ble_eq_true rfl) dX9_init_51 (fun H G => ?_)
  refine lv_dup hx hb dX9_init_54 rfl ?_
  refine lv_aload_n hx hb dX9_init_55 rfl (lv_at hl 0 rfl) ?_
  obtain ⟨v9, hv9, hf⟩ := x_ob hf
  refine xr_getR (ci := 9) (k := 0) S G hv9 rfl kw_481 dX9_init_56 ?_
  obtain ⟨d10, hd10, hf⟩ := x_ob hf
  refine xr_callI (As := [.ref (b + v9)]) (rest := [.ref (b + (sh.length + 39)), .ref (b + q0)]) (st1 := [.ref (b + (sh.length + 39)), .ref (b + q0)]) (sh' := (sx_X9_init_41 sh)) S G hl.1 (fun _ => sx_X9_init_40_len sh) (mt_X7_init l D cid b sa sv B0 (sx_X9_init_40 sh) (by rw [sx_X9_init_40_len]; omega) (sx_X9_init_41 sh) rfl (sh.length + 39) v9 (xnw d8 (sh.length + 39)) _ hd10) kw_173 kw_174 kw_5 kw_175 rfl hd_X7_init ⟨Nat.le_of_ble_eq_true rfl, Nat.le_of_ble_eq_true rfl⟩ rfl rfl rfl (Nat.le_of_ble_eq_true rfl) ⟨Nat.le_of_ble_eq_true rfl, Nat.le_of_ble_eq_true rfl⟩ dX9_init_59 (fun H locs G => ?_)
  obtain ⟨d11, hd11, hf⟩ := x_ob hf
  refine xr_putRF (ci := 9) (k := 6) S (hin rfl) G hd11 rfl rfl kw_487 dX9_init_62 (fun H locs G => ?_)
  refine lv_aload_n hx hb dX9_init_65 rfl (lv_at hl 0 rfl) ?_
  refine xr_new (ci := 6) (q := (sh.length + 41)) (sh' := (sx_X9_init_42 sh)) S G (sx_X9_init_41_len sh) (by rw [sx_X9_init_41_len]; omega) (by decide) (sx_X9_init_41_len sh) rfl kw_263 kw_264 kw_10 (Nat.le_of_ble_eq_true rfl) (Nat.le_of_ble_eq_true rfl) dX9_init_66 (fun H G => ?_)
  refine lv_dup hx hb dX9_init_69 rfl ?_
  refine lv_aload_n hx hb dX9_init_70 rfl (lv_at hl 0 rfl) ?_
  obtain ⟨v12, hv12, hf⟩ := x_ob hf
  refine xr_getR (ci := 9) (k := 6) S G hv12 rfl kw_487 dX9_init_71 ?_
  refine lv_aload_n hx hb dX9_init_74 rfl (lv_at hl 0 rfl) ?_
  obtain ⟨v13, hv13, hf⟩ := x_ob hf
  refine xr_getR (ci := 9) (k := 5) S G hv13 rfl kw_486 dX9_init_75 ?_
  obtain ⟨d14, hd14, hf⟩ := x_ob hf
  refine xr_callI (As := [.ref (b + v12), .ref (b + v13)]) (rest := [.ref (b + (sh.length + 41)), .ref (b + q0)]) (st1 := [.ref (b + (sh.length + 41)), .ref (b + q0)]) (sh' := (sx_X9_init_44 sh)) S G hl.1 (fun _ => sx_X9_init_42_len sh) (mt_X6_init l D cid b sa sv B0 (sx_X9_init_42 sh) (by rw [sx_X9_init_42_len]; omega) (sx_X9_init_44 sh) rfl (sh.length + 41) v12 v13 (xnw d11 (sh.length + 41)) _ hd14) kw_265 kw_266 kw_10 kw_267 rfl hd_X6_init ⟨Nat.le_of_ble_eq_true rfl, Nat.le_of_ble_eq_true rfl⟩ rfl rfl rfl (Nat.le_of_ble_eq_true rfl) ⟨Nat.le_of_ble_eq_true rfl, Nat.le_of_ble_eq_true rfl⟩ dX9_init_78 (fun H locs G => ?_)
  obtain ⟨d15, hd15, hf⟩ := x_ob hf
  refine xr_putRF (ci := 9) (k := 7) S (hin rfl) G hd15 rfl rfl kw_488 dX9_init_81 (fun H locs G => ?_)
  refine lv_aload_n hx hb dX9_init_84 rfl (lv_at hl 0 rfl) ?_
  refine xr_new (ci := 4) (q := (sh.length + 44)) (sh' := (sx_X9_init_45 sh)) S G (sx_X9_init_44_len sh) (by rw [sx_X9_init_44_len]; omega) (by decide) (sx_X9_init_44_len sh) rfl kw_307 kw_308 kw_12 (Nat.le_of_ble_eq_true rfl) (Nat.le_of_ble_eq_true rfl) dX9_init_85 (fun H G => ?_)
  refine lv_dup hx hb dX9_init_88 rfl ?_
  obtain ⟨d16, hd16, hf⟩ := x_ob hf
  refine xr_callIN (As := []) (rest := [.ref (b + (sh.length + 44)), .ref (b + q0)]) (st1 := [.ref (b + (sh.length + 44)), .ref (b + q0)]) (sh' := (sx_X9_init_58 sh)) S G hl.1 (fun _ => sx_X9_init_45_len sh) (mt_X4_init l D cid b sa sv B0 (sx_X9_init_45 sh) (by rw [sx_X9_init_45_len]; omega) (sx_X9_init_58 sh) rfl (sh.length + 44) (xnw d15 (sh.length + 44)) _ hd16) (xS_nest309 S) kw_310 kw_12 kw_311 rfl hd_X4_init ⟨Nat.le_of_ble_eq_true rfl, Nat.le_of_ble_eq_true rfl⟩ rfl rfl rfl (Nat.le_of_ble_eq_true rfl) ⟨Nat.le_of_ble_eq_true rfl, Nat.le_of_ble_eq_true rfl⟩ dX9_init_89 (fun H locs G => ?_)
  obtain ⟨d17, hd17, hf⟩ := x_ob hf
  refine xr_putRF (ci := 9) (k := 8) S (hin rfl) G hd17 rfl rfl kw_489 dX9_init_92 (fun H locs G => ?_)
  refine lv_aload_n hx hb dX9_init_95 rfl (lv_at hl 0 rfl) ?_
  refine xr_new (ci := 4) (q := (sh.length + 58)) (sh' := (sx_X9_init_59 sh)) S G (sx_X9_init_58_len sh) (by rw [sx_X9_init_58_len]; omega) (by decide) (sx_X9_init_58_len sh) rfl kw_307 kw_308 kw_12 (Nat.le_of_ble_eq_true rfl) (Nat.le_of_ble_eq_true rfl) dX9_init_96 (fun H G => ?_)
  refine lv_dup hx hb dX9_init_99 rfl ?_
  obtain ⟨d18, hd18, hf⟩ := x_ob hf
  refine xr_callIN (As := []) (rest := [.ref (b + (sh.length + 58)), .ref (b + q0)]) (st1 := [.ref (b + (sh.length + 58)), .ref (b + q0)]) (sh' := (sx_X9_init_72 sh)) S G hl.1 (fun _ => sx_X9_init_59_len sh) (mt_X4_init l D cid b sa sv B0 (sx_X9_init_59 sh) (by rw [sx_X9_init_59_len]; omega) (sx_X9_init_72 sh) rfl (sh.length + 58) (xnw d17 (sh.length + 58)) _ hd18) (xS_nest309 S) kw_310 kw_12 kw_311 rfl hd_X4_init ⟨Nat.le_of_ble_eq_true rfl, Nat.le_of_ble_eq_true rfl⟩ rfl rfl rfl (Nat.le_of_ble_eq_true rfl) ⟨Nat.le_of_ble_eq_true rfl, Nat.le_of_ble_eq_true rfl⟩ dX9_init_100 (fun H locs G => ?_)
  obtain ⟨d19, hd19, hf⟩ := x_ob hf
  refine xr_putRF (ci := 9) (k := 9) S (hin rfl) G hd19 rfl rfl kw_490 dX9_init_103 (fun H locs G => ?_)
  refine lv_aload_n hx hb dX9_init_106 rfl (lv_at hl 0 rfl) ?_
  refine xr_new (ci := 4) (q := (sh.length + 72)) (sh' := (sx_X9_init_73 sh)) S G (sx_X9_init_72_len sh) (by rw [sx_X9_init_72_len]; omega) (by decide) (sx_X9_init_72_len sh) rfl kw_307 kw_308 kw_12 (Nat.le_of_ble_eq_true rfl) (Nat.le_of_ble_eq_true rfl) dX9_init_107 (fun H G => ?_)
  refine lv_dup hx hb dX9_init_110 rfl ?_
  obtain ⟨d20, hd20, hf⟩ := x_ob hf
  refine xr_callIN (As := []) (rest := [.ref (b + (sh.length + 72)), .ref (b + q0)]) (st1 := [.ref (b + (sh.length + 72)), .ref (b + q0)]) (sh' := (sx_X9_init_86 sh)) S G hl.1 (fun _ => sx_X9_init_73_len sh) (mt_X4_init l D cid b sa sv B0 (sx_X9_init_73 sh) (by rw [sx_X9_init_73_len]; omega) (sx_X9_init_86 sh) rfl (sh.length + 72) (xnw d19 (sh.length + 72)) _ hd20) (xS_nest309 S) kw_310 kw_12 kw_311 rfl hd_X4_init ⟨Nat.le_of_ble_eq_true rfl, Nat.le_of_ble_eq_true rfl⟩ rfl rfl rfl (Nat.le_of_ble_eq_true rfl) ⟨Nat.le_of_ble_eq_true rfl, Nat.le_of_ble_eq_true rfl⟩ dX9_init_111 (fun H locs G => ?_)
  obtain ⟨d21, hd21, hf⟩ := x_ob hf
  refine xr_putRF (ci := 9) (k := 10) S (hin rfl) G hd21 rfl rfl kw_491 dX9_init_114 (fun H locs G => ?_)
  refine lv_aload_n hx hb dX9_init_117 rfl (lv_at hl 0 rfl) ?_
  refine lv_iconst (v := (0 : Int32)) hx hb dX9_init_118 (by decide) ?_
  obtain ⟨d22, hd22, hf⟩ := x_ob hf
  refine xr_putI (ci := 9) (k := 11) S G hd22 rfl kw_492 dX9_init_119 (fun H locs G => ?_)
  refine lv_aload_n hx hb dX9_init_122 rfl (lv_at hl 0 rfl) ?_
  refine xr_new (ci := 2) (q := (sh.length + 86)) (sh' := (sx_X9_init_87 sh)) S G (sx_X9_init_86_len sh) (by rw [sx_X9_init_86_len]; omega) (by decide) (sx_X9_init_86_len sh) rfl kw_404 kw_405 kw_13 (Nat.le_of_ble_eq_true rfl) (Nat.le_of_ble_eq_true rfl) dX9_init_123 (fun H G => ?_)
  refine lv_dup hx hb dX9_init_126 rfl ?_
  refine lv_aload_n hx hb dX9_init_127 rfl (lv_at hl 0 rfl) ?_
  obtain ⟨v23, hv23, hf⟩ := x_ob hf
  refine xr_getR (ci := 9) (k := 4) S G hv23 rfl kw_485 dX9_init_128 ?_
  obtain ⟨d24, hd24, hf⟩ := x_ob hf
  refine xr_callI (As := [.ref (b + v23)]) (rest := [.ref (b + (sh.length + 86)), .ref (b + q0)]) (st1 := [.ref (b + (sh.length + 86)), .ref (b + q0)]) (sh' := (sx_X9_init_88 sh)) S G hl.1 (fun _ => sx_X9_init_87_len sh) (mt_X2_init l D cid b sa sv B0 (sx_X9_init_87 sh) (by rw [sx_X9_init_87_len]; omega) (sx_X9_init_88 sh) rfl (sh.length + 86) v23 (xnw d22 (sh.length + 86)) _ hd24) kw_406 kw_407 kw_13 kw_408 rfl hd_X2_init ⟨Nat.le_of_ble_eq_true rfl, Nat.le_of_ble_eq_true rfl⟩ rfl rfl rfl (Nat.le_of_ble_eq_true rfl) ⟨Nat.le_of_ble_eq_true rfl, Nat.le_of_ble_eq_true rfl⟩ dX9_init_131 (fun H locs G => ?_)
  obtain ⟨d25, hd25, hf⟩ := x_ob hf
  refine xr_putRF (ci := 9) (k := 12) S (hin rfl) G hd25 rfl rfl kw_493 dX9_init_134 (fun H locs G => ?_)
  refine lv_aload_n hx hb dX9_init_137 rfl (lv_at hl 0 rfl) ?_
  refine xr_new (ci := 8) (q := (sh.length + 88)) (sh' := (sx_X9_init_89 sh)) S G (sx_X9_init_88_len sh) (by rw [sx_X9_init_88_len]; omega) (by decide) (sx_X9_init_88_len sh) rfl kw_418 kw_419 kw_14 (Nat.le_of_ble_eq_true rfl) (Nat.le_of_ble_eq_true rfl) dX9_init_138 (fun H G => ?_)
  refine lv_dup hx hb dX9_init_141 rfl ?_
  obtain ⟨d26, hd26, hf⟩ := x_ob hf
  refine xr_callIN (As := []) (rest := [.ref (b + (sh.length + 88)), .ref (b + q0)]) (st1 := [.ref (b + (sh.length + 88)), .ref (b + q0)]) (sh' := (sx_X9_init_91 sh)) S G hl.1 (fun _ => sx_X9_init_89_len sh) (mt_X8_init l D cid b sa sv B0 (sx_X9_init_89 sh) (by rw [sx_X9_init_89_len]; omega) (sx_X9_init_91 sh) rfl (sh.length + 88) (xnw d25 (sh.length + 88)) _ hd26) (xS_nest420 S) kw_421 kw_14 kw_422 rfl hd_X8_init ⟨Nat.le_of_ble_eq_true rfl, Nat.le_of_ble_eq_true rfl⟩ rfl rfl rfl (Nat.le_of_ble_eq_true rfl) ⟨Nat.le_of_ble_eq_true rfl, Nat.le_of_ble_eq_true rfl⟩ dX9_init_142 (fun H locs G => ?_)
  obtain ⟨d27, hd27, hf⟩ := x_ob hf
  refine xr_putRF (ci := 9) (k := 13) S (hin rfl) G hd27 rfl rfl kw_494 dX9_init_145 (fun H locs G => ?_)
  refine lv_aload_n hx hb dX9_init_148 rfl (lv_at hl 0 rfl) ?_
  refine xr_new (ci := 5) (q := (sh.length + 91)) (sh' := (sx_X9_init_92 sh)) S G (sx_X9_init_91_len sh) (by rw [sx_X9_init_91_len]; omega) (by decide) (sx_X9_init_91_len sh) rfl kw_435 kw_436 kw_15 (Nat.le_of_ble_eq_true rfl) (Nat.le_of_ble_eq_true rfl) dX9_init_149 (fun H G => ?_)
  refine lv_dup hx hb dX9_init_152 rfl ?_
  obtain ⟨d28, hd28, hf⟩ := x_ob hf
  refine xr_callIN (As := []) (rest := [.ref (b + (sh.length + 91)), .ref (b + q0)]) (st1 := [.ref (b + (sh.length + 91)), .ref (b + q0)]) (sh' := (sx_X9_init_98 sh)) S G hl.1 (fun _ => sx_X9_init_92_len sh) (mt_X5_init l D cid b sa sv B0 (sx_X9_init_92 sh) (by rw [sx_X9_init_92_len]; omega) (sx_X9_init_98 sh) rfl (sh.length + 91) (xnw d27 (sh.length + 91)) _ hd28) (xS_nest437 S) kw_438 kw_15 kw_439 rfl hd_X5_init ⟨Nat.le_of_ble_eq_true rfl, Nat.le_of_ble_eq_true rfl⟩ rfl rfl rfl (Nat.le_of_ble_eq_true rfl) ⟨Nat.le_of_ble_eq_true rfl, Nat.le_of_ble_eq_true rfl⟩ dX9_init_153 (fun H locs G => ?_)
  obtain ⟨d29, hd29, hf⟩ := x_ob hf
  refine xr_putRF (ci := 9) (k := 14) S (hin rfl) G hd29 rfl rfl kw_495 dX9_init_156 (fun H locs G => ?_)
  refine lv_aload_n hx hb dX9_init_159 rfl (lv_at hl 0 rfl) ?_
  obtain ⟨v30, hv30, hf⟩ := x_ob hf
  refine xr_getR (ci := 9) (k := 8) S G hv30 rfl kw_489 dX9_init_160 ?_
  refine lv_aload_n hx hb dX9_init_163 rfl (lv_at hl 0 rfl) ?_
  obtain ⟨v31, hv31, hf⟩ := x_ob hf
  refine xr_getR (ci := 9) (k := 4) S G hv31 rfl kw_485 dX9_init_164 ?_
  obtain ⟨d32, hd32, hf⟩ := x_ob hf
  obtain ⟨hqd32, hd32⟩ := xon_of hd32
  refine xr_callV (ci := 4) (As := [.ref (b + v31)]) (rest := []) (st1 := []) S G hl.1 (fun _ => sx_X9_init_98_len sh) (mt_X4_begin l D cid b true sa sv B0 (sx_X9_init_98 sh) v30 v31 d29 _ hd32) hqd32 (by decide) kw_469 kw_470 kw_471 kw_12 kw_472 hd_X4_begin ⟨Nat.le_of_ble_eq_true rfl, Nat.le_of_ble_eq_true rfl⟩ rfl rfl rfl (Nat.le_of_ble_eq_true rfl) ⟨Nat.le_of_ble_eq_true rfl, Nat.le_of_ble_eq_true rfl⟩ dX9_init_167 (fun H locs G => ?_)
  cases hf
  exact xr_vret S G (fun _ => sx_X9_init_98_len sh) hr dX9_init_170

-- HalfLandings$Scene.<init>()V
theorem dX4_init_0 : decode cX4_init 0 = .ok (.aload_n 0, 1) := by decide +kernel
theorem dX4_init_1 : decode cX4_init 1 = .ok (.invokespecial 3, 3) := by decide +kernel
theorem dX4_init_4 : decode cX4_init 4 = .ok (.aload_n 0, 1) := by decide +kernel
theorem dX4_init_5 : decode cX4_init 5 = .ok (.iconst 0, 1) := by decide +kernel
theorem dX4_init_6 : decode cX4_init 6 = .ok (.putfield 9, 3) := by decide +kernel
theorem dX4_init_9 : decode cX4_init 9 = .ok (.aload_n 0, 1) := by decide +kernel
theorem dX4_init_10 : decode cX4_init 10 = .ok (.iconst 0, 1) := by decide +kernel
theorem dX4_init_11 : decode cX4_init 11 = .ok (.putfield 15, 3) := by decide +kernel
theorem dX4_init_14 : decode cX4_init 14 = .ok (.aload_n 0, 1) := by decide +kernel
theorem dX4_init_15 : decode cX4_init 15 = .ok (.bipush (-2), 2) := by decide +kernel
theorem dX4_init_17 : decode cX4_init 17 = .ok (.putfield 18, 3) := by decide +kernel
theorem dX4_init_20 : decode cX4_init 20 = .ok (.aload_n 0, 1) := by decide +kernel
theorem dX4_init_21 : decode cX4_init 21 = .ok (.lconst 0, 1) := by decide +kernel
theorem dX4_init_22 : decode cX4_init 22 = .ok (.putfield 21, 3) := by decide +kernel
theorem dX4_init_25 : decode cX4_init 25 = .ok (.aload_n 0, 1) := by decide +kernel
theorem dX4_init_26 : decode cX4_init 26 = .ok (.iconst 0, 1) := by decide +kernel
theorem dX4_init_27 : decode cX4_init 27 = .ok (.putfield 25, 3) := by decide +kernel
theorem dX4_init_30 : decode cX4_init 30 = .ok (.aload_n 0, 1) := by decide +kernel
theorem dX4_init_31 : decode cX4_init 31 = .ok (.bipush 6, 2) := by decide +kernel
theorem dX4_init_33 : decode cX4_init 33 = .ok (.newarray .int, 2) := by decide +kernel
theorem dX4_init_35 : decode cX4_init 35 = .ok (.putfield 28, 3) := by decide +kernel
theorem dX4_init_38 : decode cX4_init 38 = .ok (.aload_n 0, 1) := by decide +kernel
theorem dX4_init_39 : decode cX4_init 39 = .ok (.bipush 6, 2) := by decide +kernel
theorem dX4_init_41 : decode cX4_init 41 = .ok (.newarray .int, 2) := by decide +kernel
theorem dX4_init_43 : decode cX4_init 43 = .ok (.putfield 32, 3) := by decide +kernel
theorem dX4_init_46 : decode cX4_init 46 = .ok (.aload_n 0, 1) := by decide +kernel
theorem dX4_init_47 : decode cX4_init 47 = .ok (.bipush 6, 2) := by decide +kernel
theorem dX4_init_49 : decode cX4_init 49 = .ok (.newarray .int, 2) := by decide +kernel
theorem dX4_init_51 : decode cX4_init 51 = .ok (.putfield 35, 3) := by decide +kernel
theorem dX4_init_54 : decode cX4_init 54 = .ok (.aload_n 0, 1) := by decide +kernel
theorem dX4_init_55 : decode cX4_init 55 = .ok (.bipush 6, 2) := by decide +kernel
theorem dX4_init_57 : decode cX4_init 57 = .ok (.newarray .int, 2) := by decide +kernel
theorem dX4_init_59 : decode cX4_init 59 = .ok (.putfield 38, 3) := by decide +kernel
theorem dX4_init_62 : decode cX4_init 62 = .ok (.aload_n 0, 1) := by decide +kernel
theorem dX4_init_63 : decode cX4_init 63 = .ok (.bipush 6, 2) := by decide +kernel
theorem dX4_init_65 : decode cX4_init 65 = .ok (.newarray .int, 2) := by decide +kernel
theorem dX4_init_67 : decode cX4_init 67 = .ok (.putfield 41, 3) := by decide +kernel
theorem dX4_init_70 : decode cX4_init 70 = .ok (.aload_n 0, 1) := by decide +kernel
theorem dX4_init_71 : decode cX4_init 71 = .ok (.bipush 6, 2) := by decide +kernel
theorem dX4_init_73 : decode cX4_init 73 = .ok (.newarray .int, 2) := by decide +kernel
theorem dX4_init_75 : decode cX4_init 75 = .ok (.putfield 44, 3) := by decide +kernel
theorem dX4_init_78 : decode cX4_init 78 = .ok (.aload_n 0, 1) := by decide +kernel
theorem dX4_init_79 : decode cX4_init 79 = .ok (.bipush 6, 2) := by decide +kernel
theorem dX4_init_81 : decode cX4_init 81 = .ok (.newarray .int, 2) := by decide +kernel
theorem dX4_init_83 : decode cX4_init 83 = .ok (.putfield 47, 3) := by decide +kernel
theorem dX4_init_86 : decode cX4_init 86 = .ok (.aload_n 0, 1) := by decide +kernel
theorem dX4_init_87 : decode cX4_init 87 = .ok (.bipush 8, 2) := by decide +kernel
theorem dX4_init_89 : decode cX4_init 89 = .ok (.newarray .int, 2) := by decide +kernel
theorem dX4_init_91 : decode cX4_init 91 = .ok (.putfield 50, 3) := by decide +kernel
theorem dX4_init_94 : decode cX4_init 94 = .ok (.aload_n 0, 1) := by decide +kernel
theorem dX4_init_95 : decode cX4_init 95 = .ok (.bipush 8, 2) := by decide +kernel
theorem dX4_init_97 : decode cX4_init 97 = .ok (.newarray .int, 2) := by decide +kernel
theorem dX4_init_99 : decode cX4_init 99 = .ok (.putfield 53, 3) := by decide +kernel
theorem dX4_init_102 : decode cX4_init 102 = .ok (.aload_n 0, 1) := by decide +kernel
theorem dX4_init_103 : decode cX4_init 103 = .ok (.iconst 0, 1) := by decide +kernel
theorem dX4_init_104 : decode cX4_init 104 = .ok (.putfield 56, 3) := by decide +kernel
theorem dX4_init_107 : decode cX4_init 107 = .ok (.aload_n 0, 1) := by decide +kernel
theorem dX4_init_108 : decode cX4_init 108 = .ok (.bipush 13, 2) := by decide +kernel
theorem dX4_init_110 : decode cX4_init 110 = .ok (.newarray .int, 2) := by decide +kernel
theorem dX4_init_112 : decode cX4_init 112 = .ok (.putfield 59, 3) := by decide +kernel
theorem dX4_init_115 : decode cX4_init 115 = .ok (.aload_n 0, 1) := by decide +kernel
theorem dX4_init_116 : decode cX4_init 116 = .ok (.bipush 13, 2) := by decide +kernel
theorem dX4_init_118 : decode cX4_init 118 = .ok (.newarray .int, 2) := by decide +kernel
theorem dX4_init_120 : decode cX4_init 120 = .ok (.putfield 62, 3) := by decide +kernel
theorem dX4_init_123 : decode cX4_init 123 = .ok (.aload_n 0, 1) := by decide +kernel
theorem dX4_init_124 : decode cX4_init 124 = .ok (.bipush 13, 2) := by decide +kernel
theorem dX4_init_126 : decode cX4_init 126 = .ok (.newarray .int, 2) := by decide +kernel
theorem dX4_init_128 : decode cX4_init 128 = .ok (.putfield 65, 3) := by decide +kernel
theorem dX4_init_131 : decode cX4_init 131 = .ok (.aload_n 0, 1) := by decide +kernel
theorem dX4_init_132 : decode cX4_init 132 = .ok (.bipush 13, 2) := by decide +kernel
theorem dX4_init_134 : decode cX4_init 134 = .ok (.newarray .int, 2) := by decide +kernel
theorem dX4_init_136 : decode cX4_init 136 = .ok (.putfield 68, 3) := by decide +kernel
theorem dX4_init_139 : decode cX4_init 139 = .ok (.return_, 1) := by decide +kernel
theorem hd_X4_init : yX4_init.cls ≠ "java/lang/invoke/MethodHandle" ∧ yX4_init.cls ≠ "java/lang/invoke/VarHandle" ∧ (parseMethodDescriptor yX4_init.desc).map (fun d => d.parameters.length) = some 0 := by decide +kernel
def f_X4_init (sh : List xSh) (q0 : Nat) (d : xD) : Option xD :=
  (xpI 4 sh d q0 0 (0 : Int32)).bind fun d1 => (xpI 4 sh d1 q0 1 (0 : Int32)).bind fun d2 => (xpI 4 sh d2 q0 2 (-2 : Int32)).bind fun d3 => (xpL 4 sh d3 q0 3 (0 : Int64)).bind fun d4 => (xpI 4 sh d4 q0 4 (0 : Int32)).bind fun d5 => (xpR 4 (sh ++ [.inr (.int, 6)]) (xnw d5 sh.length) q0 5 sh.length).bind fun d6 => (xpR 4 (sh ++ [.inr (.int, 6), .inr (.int, 6)]) (xnw d6 (sh.length + 1)) q0 6 (sh.length + 1)).bind fun d7 => (xpR 4 (sh ++ [.inr (.int, 6), .inr (.int, 6), .inr (.int, 6)]) (xnw d7 (sh.length + 2)) q0 7 (sh.length + 2)).bind fun d8 => (xpR 4 (sh ++ [.inr (.int, 6), .inr (.int, 6), .inr (.int, 6), .inr (.int, 6)]) (xnw d8 (sh.length + 3)) q0 8 (sh.length + 3)).bind fun d9 => (xpR 4 (sh ++ [.inr (.int, 6), .inr (.int, 6), .inr (.int, 6), .inr (.int, 6), .inr (.int, 6)]) (xnw d9 (sh.length + 4)) q0 9 (sh.length + 4)).bind fun d10 => (xpR 4 (sh ++ [.inr (.int, 6), .inr (.int, 6), .inr (.int, 6), .inr (.int, 6), .inr (.int, 6), .inr (.int, 6)]) (xnw d10 (sh.length + 5)) q0 10 (sh.length + 5)).bind fun d11 => (xpR 4 (sh ++ [.inr (.int, 6), .inr (.int, 6), .inr (.int, 6), .inr (.int, 6), .inr (.int, 6), .inr (.int, 6), .inr (.int, 6)]) (xnw d11 (sh.length + 6)) q0 11 (sh.length + 6)).bind fun d12 => (xpR 4 (sh ++ [.inr (.int, 6), .inr (.int, 6), .inr (.int, 6), .inr (.int, 6), .inr (.int, 6), .inr (.int, 6), .inr (.int, 6), .inr (.int, 8)]) (xnw d12 (sh.length + 7)) q0 12 (sh.length + 7)).bind fun d13 => (xpR 4 (sh ++ [.inr (.int, 6), .inr (.int, 6), .inr (.int, 6), .inr (.int, 6), .inr (.int, 6), .inr (.int, 6), .inr (.int, 6), .inr (.int, 8), .inr (.int, 8)]) (xnw d13 (sh.length + 8)) q0 13 (sh.length + 8)).bind fun d14 => (xpI 4 (sh ++ [.inr (.int, 6), .inr (.int, 6), .inr (.int, 6), .inr (.int, 6), .inr (.int, 6), .inr (.int, 6), .inr (.int, 6), .inr (.int, 8), .inr (.int, 8)]) d14 q0 14 (0 : Int32)).bind fun d15 => (xpR 4 (sh ++ [.inr (.int, 6), .inr (.int, 6), .inr (.int, 6), .inr (.int, 6), .inr (.int, 6), .inr (.int, 6), .inr (.int, 6), .inr (.int, 8), .inr (.int, 8), .inr (.int, 13)]) (xnw d15 (sh.length + 9)) q0 15 (sh.length + 9)).bind fun d16 => (xpR 4 (sh ++ [.inr (.int, 6), .inr (.int, 6), .inr (.int, 6), .inr (.int, 6), .inr (.int, 6), .inr (.int, 6), .inr (.int, 6), .inr (.int, 8), .inr (.int, 8), .inr (.int, 13), .inr (.int, 13)]) (xnw d16 (sh.length + 10)) q0 16 (sh.length + 10)).bind fun d17 => (xpR 4 (sh ++ [.inr (.int, 6), .inr (.int, 6), .inr (.int, 6), .inr (.int, 6), .inr (.int, 6), .inr (.int, 6), .inr (.int, 6), .inr (.int, 8), .inr (.int, 8), .inr (.int, 13), .inr (.int, 13), .inr (.int, 13)]) (xnw d17 (sh.length + 11)) q0 17 (sh.length + 11)).bind fun d18 => (xpR 4 (sh ++ [.inr (.int, 6), .inr (.int, 6), .inr (.int, 6), .inr (.int, 6), .inr (.int, 6), .inr (.int, 6), .inr (.int, 6), .inr (.int, 8), .inr (.int, 8), .inr (.int, 13), .inr (.int, 13), .inr (.int, 13), .inr (.int, 13)]) (xnw d18 (sh.length + 12)) q0 18 (sh.length + 12)).bind fun d19 => some d19
set_option maxHeartbeats 4000000 in
set_option maxRecDepth 100000 in
theorem mt_X4_init (l : Launch) (D : va_G) (cid : FieldType → ClassId) (b : Nat) (sa sv B0 : Nat) (sh : List xSh) (hsh : 0 < sh.length) (shz : List xSh) (hshz : (sh ++ [.inr (.int, 6), .inr (.int, 6), .inr (.int, 6), .inr (.int, 6), .inr (.int, 6), .inr (.int, 6), .inr (.int, 6), .inr (.int, 8), .inr (.int, 8), .inr (.int, 13), .inr (.int, 13), .inr (.int, 13), .inr (.int, 13)]) = shz) (q0 : Nat) (d : xD) (dz : xD) (hf : f_X4_init sh q0 d = some dz) : xMet l yX4_init cX4_init 1 none 1 13 110 D cid b true sa sv B0 [.ref (b + q0)] sh d none shz dz := by
  subst hshz
  refine xMet.of (by decide) (Nat.le_of_ble_eq_true rfl) ?_
  intro p e s m below meth c ls A S hr hin G hl
  have hl : lv_has ls 1 [(0, .ref (b + q0))] := hl
  generalize ([.ref (b + q0)] : List Value).toArray = av at S ⊢
  have hx := S.1
  have hb := S.2.1
  have hml := S.2.2.1
  have hown := S.2.2.2.1
  have hts := S.2.2.2.2.1
  unfold f_X4_init at hf
  refine lv_aload_n hx hb dX4_init_0 rfl (lv_at hl 0 rfl) ?_
  refine W.objInit hx hb hown (hts _ kw_312) (hts _ kw_31) (hts _ kw_32) rfl (by rw [hml]; exact hl.1) rfl dX4_init_1 (Nat.le_of_ble_eq_true rfl) (Nat.le_of_ble_eq_true rfl) ?_
  refine W.eq (g2 := F0 m 4 ls []) rfl ?_
  refine lv_aload_n hx hb dX4_init_4 rfl (lv_at hl 0 rfl) ?_
  refine lv_iconst (v := (0 : Int32)) hx hb dX4_init_5 (by decide) ?_
  obtain ⟨d1, hd1, hf⟩ := x_ob hf
  refine xr_putI (ci := 4) (k := 0) S G hd1 rfl kw_313 dX4_init_6 (fun H locs G => ?_)
  refine lv_aload_n hx hb dX4_init_9 rfl (lv_at hl 0 rfl) ?_
  refine lv_iconst (v := (0 : Int32)) hx hb dX4_init_10 (by decide) ?_
  obtain ⟨d2, hd2, hf⟩ := x_ob hf
  refine xr_putI (ci := 4) (k := 1) S G hd2 rfl kw_316 dX4_init_11 (fun H locs G => ?_)
  refine lv_aload_n hx hb dX4_init_14 rfl (lv_at hl 0 rfl) ?_
  refine lv_bipush (v := (-2 : Int32)) hx hb dX4_init_15 (by decide) ?_
  obtain ⟨d3, hd3, hf⟩ := x_ob hf
  refine xr_putI (ci := 4) (k := 2) S G hd3 rfl kw_319 dX4_init_17 (fun H locs G => ?_)
  refine lv_aload_n hx hb dX4_init_20 rfl (lv_at hl 0 rfl) ?_
  refine lv_lconst (v := (0 : Int64)) hx hb dX4_init_21 (by decide) ?_
  obtain ⟨d4, hd4, hf⟩ := x_ob hf
  refine xr_putL (ci := 4) (k := 3) S G hd4 rfl kw_323 dX4_init_22 (fun H locs G => ?_)
  refine lv_aload_n hx hb dX4_init_25 rfl (lv_at hl 0 rfl) ?_
  refine lv_iconst (v := (0 : Int32)) hx hb dX4_init_26 (by decide) ?_
  obtain ⟨d5, hd5, hf⟩ := x_ob hf
  refine xr_putI (ci := 4) (k := 4) S G hd5 rfl kw_326 dX4_init_27 (fun H locs G => ?_)
  refine lv_aload_n hx hb dX4_init_30 rfl (lv_at hl 0 rfl) ?_
  refine lv_bipush (v := (6 : Int32)) hx hb dX4_init_31 (by decide) ?_
  refine xr_newa (atype := .int) (ty := .int) (q := sh.length) (N := 6) (sh' := (sh ++ [.inr (.int, 6)])) 0 S G rfl hsh rfl rfl rfl (rfl) kw_73 (by decide) (by decide) (Nat.le_of_ble_eq_true rfl) (Nat.le_of_ble_eq_true rfl) (Nat.le_of_ble_eq_true rfl) dX4_init_33 (fun H G => ?_)
  obtain ⟨d6, hd6, hf⟩ := x_ob hf
  refine xr_putRF (ci := 4) (k := 5) S (hin rfl) G hd6 rfl rfl kw_327 dX4_init_35 (fun H locs G => ?_)
  refine lv_aload_n hx hb dX4_init_38 rfl (lv_at hl 0 rfl) ?_
  refine lv_bipush (v := (6 : Int32)) hx hb dX4_init_39 (by decide) ?_
  refine xr_newa (atype := .int) (ty := .int) (q := (sh.length + 1)) (N := 6) (sh' := (sh ++ [.inr (.int, 6), .inr (.int, 6)])) 0 S G List.length_append (x_pos0 hsh) rfl rfl List.length_append (List.append_assoc _ _ _) kw_73 (by decide) (by decide) (Nat.le_of_ble_eq_true rfl) (Nat.le_of_ble_eq_true rfl) (Nat.le_of_ble_eq_true rfl) dX4_init_41 (fun H G => ?_)
  obtain ⟨d7, hd7, hf⟩ := x_ob hf
  refine xr_putRF (ci := 4) (k := 6) S (hin rfl) G hd7 rfl rfl kw_330 dX4_init_43 (fun H locs G => ?_)
  refine lv_aload_n hx hb dX4_init_46 rfl (lv_at hl 0 rfl) ?_
  refine lv_bipush (v := (6 : Int32)) hx hb dX4_init_47 (by decide) ?_
  refine xr_newa (atype := .int) (ty := .int) (q := (sh.length + 2)) (N := 6) (sh' := (sh ++ [.inr (.int, 6), .inr (.int, 6), .inr (.int, 6)])) 0 S G List.length_append (x_pos0 hsh) rfl rfl List.length_append (List.append_assoc _ _ _) kw_73 (by decide) (by decide) (Nat.le_of_ble_eq_true rfl) (Nat.le_of_ble_eq_true rfl) (Nat.le_of_ble_eq_true rfl) dX4_init_49 (fun H G => ?_)
  obtain ⟨d8, hd8, hf⟩ := x_ob hf
  refine xr_putRF (ci := 4) (k := 7) S (hin rfl) G hd8 rfl rfl kw_333 dX4_init_51 (fun H locs G => ?_)
  refine lv_aload_n hx hb dX4_init_54 rfl (lv_at hl 0 rfl) ?_
  refine lv_bipush (v := (6 : Int32)) hx hb dX4_init_55 (by decide) ?_
  refine xr_newa (atype := .int) (ty := .int) (q := (sh.length + 3)) (N := 6) (sh' := (sh ++ [.inr (.int, 6), .inr (.int, 6), .inr (.int, 6), .inr (.int, 6)])) 0 S G List.length_append (x_pos0 hsh) rfl rfl List.length_append (List.append_assoc _ _ _) kw_73 (by decide) (by decide) (Nat.le_of_ble_eq_true rfl) (Nat.le_of_ble_eq_true rfl) (Nat.le_of_ble_eq_true rfl) dX4_init_57 (fun H G => ?_)
  obtain ⟨d9, hd9, hf⟩ := x_ob hf
  refine xr_putRF (ci := 4) (k := 8) S (hin rfl) G hd9 rfl rfl kw_336 dX4_init_59 (fun H locs G => ?_)
  refine lv_aload_n hx hb dX4_init_62 rfl (lv_at hl 0 rfl) ?_
  refine lv_bipush (v := (6 : Int32)) hx hb dX4_init_63 (by decide) ?_
  refine xr_newa (atype := .int) (ty := .int) (q := (sh.length + 4)) (N := 6) (sh' := (sh ++ [.inr (.int, 6), .inr (.int, 6), .inr (.int, 6), .inr (.int, 6), .inr (.int, 6)])) 0 S G List.length_append (x_pos0 hsh) rfl rfl List.length_append (List.append_assoc _ _ _) kw_73 (by decide) (by decide) (Nat.le_of_ble_eq_true rfl) (Nat.le_of_ble_eq_true rfl) (Nat.le_of_ble_eq_true rfl) dX4_init_65 (fun H G => ?_)
  obtain ⟨d10, hd10, hf⟩ := x_ob hf
  refine xr_putRF (ci := 4) (k := 9) S (hin rfl) G hd10 rfl rfl kw_339 dX4_init_67 (fun H locs G => ?_)
  refine lv_aload_n hx hb dX4_init_70 rfl (lv_at hl 0 rfl) ?_
  refine lv_bipush (v := (6 : Int32)) hx hb dX4_init_71 (by decide) ?_
  refine xr_newa (atype := .int) (ty := .int) (q := (sh.length + 5)) (N := 6) (sh' := (sh ++ [.inr (.int, 6), .inr (.int, 6), .inr (.int, 6), .inr (.int, 6), .inr (.int, 6), .inr (.int, 6)])) 0 S G List.length_append (x_pos0 hsh) rfl rfl List.length_append (List.append_assoc _ _ _) kw_73 (by decide) (by decide) (Nat.le_of_ble_eq_true rfl) (Nat.le_of_ble_eq_true rfl) (Nat.le_of_ble_eq_true rfl) dX4_init_73 (fun H G => ?_)
  obtain ⟨d11, hd11, hf⟩ := x_ob hf
  refine xr_putRF (ci := 4) (k := 10) S (hin rfl) G hd11 rfl rfl kw_342 dX4_init_75 (fun H locs G => ?_)
  refine lv_aload_n hx hb dX4_init_78 rfl (lv_at hl 0 rfl) ?_
  refine lv_bipush (v := (6 : Int32)) hx hb dX4_init_79 (by decide) ?_
  refine xr_newa (atype := .int) (ty := .int) (q := (sh.length + 6)) (N := 6) (sh' := (sh ++ [.inr (.int, 6), .inr (.int, 6), .inr (.int, 6), .inr (.int, 6), .inr (.int, 6), .inr (.int, 6), .inr (.int, 6)])) 0 S G List.length_append (x_pos0 hsh) rfl rfl List.length_append (List.append_assoc _ _ _) kw_73 (by decide) (by decide) (Nat.le_of_ble_eq_true rfl) (Nat.le_of_ble_eq_true rfl) (Nat.le_of_ble_eq_true rfl) dX4_init_81 (fun H G => ?_)
  obtain ⟨d12, hd12, hf⟩ := x_ob hf
  refine xr_putRF (ci := 4) (k := 11) S (hin rfl) G hd12 rfl rfl kw_345 dX4_init_83 (fun H locs G => ?_)
  refine lv_aload_n hx hb dX4_init_86 rfl (lv_at hl 0 rfl) ?_
  refine lv_bipush (v := (8 : Int32)) hx hb dX4_init_87 (by decide) ?_
  refine xr_newa (atype := .int) (ty := .int) (q := (sh.length + 7)) (N := 8) (sh' := (sh ++ [.inr (.int, 6), .inr (.int, 6), .inr (.int, 6), .inr (.int, 6), .inr (.int, 6), .inr (.int, 6), .inr (.int, 6), .inr (.int, 8)])) 0 S G List.length_append (x_pos0 hsh) rfl rfl List.length_append (List.append_assoc _ _ _) kw_73 (by decide) (by decide) (Nat.le_of_ble_eq_true rfl) (Nat.le_of_ble_eq_true rfl) (Nat.le_of_ble_eq_true rfl) dX4_init_89 (fun H G => ?_)
  obtain ⟨d13, hd13, hf⟩ := x_ob hf
  refine xr_putRF (ci := 4) (k := 12) S (hin rfl) G hd13 rfl rfl kw_348 dX4_init_91 (fun H locs G => ?_)
  refine lv_aload_n hx hb dX4_init_94 rfl (lv_at hl 0 rfl) ?_
  refine lv_bipush (v := (8 : Int32)) hx hb dX4_init_95 (by decide) ?_
  refine xr_newa (atype := .int) (ty := .int) (q := (sh.length + 8)) (N := 8) (sh' := (sh ++ [.inr (.int, 6), .inr (.int, 6), .inr (.int, 6), .inr (.int, 6), .inr (.int, 6), .inr (.int, 6), .inr (.int, 6), .inr (.int, 8), .inr (.int, 8)])) 0 S G List.length_append (x_pos0 hsh) rfl rfl List.length_append (List.append_assoc _ _ _) kw_73 (by decide) (by decide) (Nat.le_of_ble_eq_true rfl) (Nat.le_of_ble_eq_true rfl) (Nat.le_of_ble_eq_true rfl) dX4_init_97 (fun H G => ?_)
  obtain ⟨d14, hd14, hf⟩ := x_ob hf
  refine xr_putRF (ci := 4) (k := 13) S (hin rfl) G hd14 rfl rfl kw_350 dX4_init_99 (fun H locs G => ?_)
  refine lv_aload_n hx hb dX4_init_102 rfl (lv_at hl 0 rfl) ?_
  refine lv_iconst (v := (0 : Int32)) hx hb dX4_init_103 (by decide) ?_
  obtain ⟨d15, hd15, hf⟩ := x_ob hf
  refine xr_putI (ci := 4) (k := 14) S G hd15 rfl kw_353 dX4_init_104 (fun H locs G => ?_)
  refine lv_aload_n hx hb dX4_init_107 rfl (lv_at hl 0 rfl) ?_
  refine lv_bipush (v := (13 : Int32)) hx hb dX4_init_108 (by decide) ?_
  refine xr_newa (atype := .int) (ty := .int) (q := (sh.length + 9)) (N := 13) (sh' := (sh ++ [.inr (.int, 6), .inr (.int, 6), .inr (.int, 6), .inr (.int, 6), .inr (.int, 6), .inr (.int, 6), .inr (.int, 6), .inr (.int, 8), .inr (.int, 8), .inr (.int, 13)])) 0 S G List.length_append (x_pos0 hsh) rfl rfl List.length_append (List.append_assoc _ _ _) kw_73 (by decide) (by decide) (Nat.le_of_ble_eq_true rfl) (Nat.le_of_ble_eq_true rfl) (Nat.le_of_ble_eq_true rfl) dX4_init_110 (fun H G => ?_)
  obtain ⟨d16, hd16, hf⟩ := x_ob hf
  refine xr_putRF (ci := 4) (k := 15) S (hin rfl) G hd16 rfl rfl kw_355 dX4_init_112 (fun H locs G => ?_)
  refine lv_aload_n hx hb dX4_init_115 rfl (lv_at hl 0 rfl) ?_
  refine lv_bipush (v := (13 : Int32)) hx hb dX4_init_116 (by decide) ?_
  refine xr_newa (atype := .int) (ty := .int) (q := (sh.length + 10)) (N := 13) (sh' := (sh ++ [.inr (.int, 6), .inr (.int, 6), .inr (.int, 6), .inr (.int, 6), .inr (.int, 6), .inr (.int, 6), .inr (.int, 6), .inr (.int, 8), .inr (.int, 8), .inr (.int, 13), .inr (.int, 13)])) 0 S G List.length_append (x_pos0 hsh) rfl rfl List.length_append (List.append_assoc _ _ _) kw_73 (by decide) (by decide) (Nat.le_of_ble_eq_true rfl) (Nat.le_of_ble_eq_true rfl) (Nat.le_of_ble_eq_true rfl) dX4_init_118 (fun H G => ?_)
  obtain ⟨d17, hd17, hf⟩ := x_ob hf
  refine xr_putRF (ci := 4) (k := 16) S (hin rfl) G hd17 rfl rfl kw_357 dX4_init_120 (fun H locs G => ?_)
  refine lv_aload_n hx hb dX4_init_123 rfl (lv_at hl 0 rfl) ?_
  refine lv_bipush (v := (13 : Int32)) hx hb dX4_init_124 (by decide) ?_
  refine xr_newa (atype := .int) (ty := .int) (q := (sh.length + 11)) (N := 13) (sh' := (sh ++ [.inr (.int, 6), .inr (.int, 6), .inr (.int, 6), .inr (.int, 6), .inr (.int, 6), .inr (.int, 6), .inr (.int, 6), .inr (.int, 8), .inr (.int, 8), .inr (.int, 13), .inr (.int, 13), .inr (.int, 13)])) 0 S G List.length_append (x_pos0 hsh) rfl rfl List.length_append (List.append_assoc _ _ _) kw_73 (by decide) (by decide) (Nat.le_of_ble_eq_true rfl) (Nat.le_of_ble_eq_true rfl) (Nat.le_of_ble_eq_true rfl) dX4_init_126 (fun H G => ?_)
  obtain ⟨d18, hd18, hf⟩ := x_ob hf
  refine xr_putRF (ci := 4) (k := 17) S (hin rfl) G hd18 rfl rfl kw_359 dX4_init_128 (fun H locs G => ?_)
  refine lv_aload_n hx hb dX4_init_131 rfl (lv_at hl 0 rfl) ?_
  refine lv_bipush (v := (13 : Int32)) hx hb dX4_init_132 (by decide) ?_
  refine xr_newa (atype := .int) (ty := .int) (q := (sh.length + 12)) (N := 13) (sh' := (sh ++ [.inr (.int, 6), .inr (.int, 6), .inr (.int, 6), .inr (.int, 6), .inr (.int, 6), .inr (.int, 6), .inr (.int, 6), .inr (.int, 8), .inr (.int, 8), .inr (.int, 13), .inr (.int, 13), .inr (.int, 13), .inr (.int, 13)])) 0 S G List.length_append (x_pos0 hsh) rfl rfl List.length_append (List.append_assoc _ _ _) kw_73 (by decide) (by decide) (Nat.le_of_ble_eq_true rfl) (Nat.le_of_ble_eq_true rfl) (Nat.le_of_ble_eq_true rfl) dX4_init_134 (fun H G => ?_)
  obtain ⟨d19, hd19, hf⟩ := x_ob hf
  refine xr_putRF (ci := 4) (k := 18) S (hin rfl) G hd19 rfl rfl kw_362 dX4_init_136 (fun H locs G => ?_)
  cases hf
  exact xr_vret S G (fun _ => List.length_append) hr dX4_init_139
-- HalfLandings$Plan.<init>()V
theorem dX3_init_0 : decode cX3_init 0 = .ok (.aload_n 0, 1) := by decide +kernel
theorem dX3_init_1 : decode cX3_init 1 = .ok (.invokespecial 3, 3) := by decide +kernel
theorem dX3_init_4 : decode cX3_init 4 = .ok (.aload_n 0, 1) := by decide +kernel
theorem dX3_init_5 : decode cX3_init 5 = .ok (.bipush 20, 2) := by decide +kernel
theorem dX3_init_7 : decode cX3_init 7 = .ok (.putfield 9, 3) := by decide +kernel
theorem dX3_init_10 : decode cX3_init 10 = .ok (.aload_n 0, 1) := by decide +kernel
theorem dX3_init_11 : decode cX3_init 11 = .ok (.bipush (-2), 2) := by decide +kernel
theorem dX3_init_13 : decode cX3_init 13 = .ok (.putfield 15, 3) := by decide +kernel
theorem dX3_init_16 : decode cX3_init 16 = .ok (.aload_n 0, 1) := by decide +kernel
theorem dX3_init_17 : decode cX3_init 17 = .ok (.iconst 0, 1) := by decide +kernel
theorem dX3_init_18 : decode cX3_init 18 = .ok (.putfield 18, 3) := by decide +kernel
theorem dX3_init_21 : decode cX3_init 21 = .ok (.aload_n 0, 1) := by decide +kernel
theorem dX3_init_22 : decode cX3_init 22 = .ok (.iconst 0, 1) := by decide +kernel
theorem dX3_init_23 : decode cX3_init 23 = .ok (.putfield 21, 3) := by decide +kernel
theorem dX3_init_26 : decode cX3_init 26 = .ok (.aload_n 0, 1) := by decide +kernel
theorem dX3_init_27 : decode cX3_init 27 = .ok (.iconst 0, 1) := by decide +kernel
theorem dX3_init_28 : decode cX3_init 28 = .ok (.putfield 24, 3) := by decide +kernel
theorem dX3_init_31 : decode cX3_init 31 = .ok (.aload_n 0, 1) := by decide +kernel
theorem dX3_init_32 : decode cX3_init 32 = .ok (.bipush 8, 2) := by decide +kernel
theorem dX3_init_34 : decode cX3_init 34 = .ok (.newarray .int, 2) := by decide +kernel
theorem dX3_init_36 : decode cX3_init 36 = .ok (.putfield 27, 3) := by decide +kernel
theorem dX3_init_39 : decode cX3_init 39 = .ok (.aload_n 0, 1) := by decide +kernel
theorem dX3_init_40 : decode cX3_init 40 = .ok (.bipush 8, 2) := by decide +kernel
theorem dX3_init_42 : decode cX3_init 42 = .ok (.newarray .int, 2) := by decide +kernel
theorem dX3_init_44 : decode cX3_init 44 = .ok (.putfield 31, 3) := by decide +kernel
theorem dX3_init_47 : decode cX3_init 47 = .ok (.aload_n 0, 1) := by decide +kernel
theorem dX3_init_48 : decode cX3_init 48 = .ok (.bipush 8, 2) := by decide +kernel
theorem dX3_init_50 : decode cX3_init 50 = .ok (.newarray .int, 2) := by decide +kernel
theorem dX3_init_52 : decode cX3_init 52 = .ok (.putfield 34, 3) := by decide +kernel
theorem dX3_init_55 : decode cX3_init 55 = .ok (.aload_n 0, 1) := by decide +kernel
theorem dX3_init_56 : decode cX3_init 56 = .ok (.bipush 61, 2) := by decide +kernel
theorem dX3_init_58 : decode cX3_init 58 = .ok (.newarray .int, 2) := by decide +kernel
theorem dX3_init_60 : decode cX3_init 60 = .ok (.putfield 37, 3) := by decide +kernel
theorem dX3_init_63 : decode cX3_init 63 = .ok (.aload_n 0, 1) := by decide +kernel
theorem dX3_init_64 : decode cX3_init 64 = .ok (.iconst 0, 1) := by decide +kernel
theorem dX3_init_65 : decode cX3_init 65 = .ok (.putfield 40, 3) := by decide +kernel
theorem dX3_init_68 : decode cX3_init 68 = .ok (.aload_n 0, 1) := by decide +kernel
theorem dX3_init_69 : decode cX3_init 69 = .ok (.bipush 6, 2) := by decide +kernel
theorem dX3_init_71 : decode cX3_init 71 = .ok (.newarray .int, 2) := by decide +kernel
theorem dX3_init_73 : decode cX3_init 73 = .ok (.putfield 43, 3) := by decide +kernel
theorem dX3_init_76 : decode cX3_init 76 = .ok (.aload_n 0, 1) := by decide +kernel
theorem dX3_init_77 : decode cX3_init 77 = .ok (.bipush 6, 2) := by decide +kernel
theorem dX3_init_79 : decode cX3_init 79 = .ok (.newarray .int, 2) := by decide +kernel
theorem dX3_init_81 : decode cX3_init 81 = .ok (.putfield 46, 3) := by decide +kernel
theorem dX3_init_84 : decode cX3_init 84 = .ok (.aload_n 0, 1) := by decide +kernel
theorem dX3_init_85 : decode cX3_init 85 = .ok (.bipush 6, 2) := by decide +kernel
theorem dX3_init_87 : decode cX3_init 87 = .ok (.newarray .int, 2) := by decide +kernel
theorem dX3_init_89 : decode cX3_init 89 = .ok (.putfield 49, 3) := by decide +kernel
theorem dX3_init_92 : decode cX3_init 92 = .ok (.aload_n 0, 1) := by decide +kernel
theorem dX3_init_93 : decode cX3_init 93 = .ok (.bipush 6, 2) := by decide +kernel
theorem dX3_init_95 : decode cX3_init 95 = .ok (.newarray .int, 2) := by decide +kernel
theorem dX3_init_97 : decode cX3_init 97 = .ok (.putfield 52, 3) := by decide +kernel
theorem dX3_init_100 : decode cX3_init 100 = .ok (.aload_n 0, 1) := by decide +kernel
theorem dX3_init_101 : decode cX3_init 101 = .ok (.bipush 6, 2) := by decide +kernel
theorem dX3_init_103 : decode cX3_init 103 = .ok (.newarray .int, 2) := by decide +kernel
theorem dX3_init_105 : decode cX3_init 105 = .ok (.putfield 55, 3) := by decide +kernel
theorem dX3_init_108 : decode cX3_init 108 = .ok (.aload_n 0, 1) := by decide +kernel
theorem dX3_init_109 : decode cX3_init 109 = .ok (.iconst 0, 1) := by decide +kernel
theorem dX3_init_110 : decode cX3_init 110 = .ok (.putfield 58, 3) := by decide +kernel
theorem dX3_init_113 : decode cX3_init 113 = .ok (.aload_n 0, 1) := by decide +kernel
theorem dX3_init_114 : decode cX3_init 114 = .ok (.bipush 12, 2) := by decide +kernel
theorem dX3_init_116 : decode cX3_init 116 = .ok (.newarray .int, 2) := by decide +kernel
theorem dX3_init_118 : decode cX3_init 118 = .ok (.putfield 61, 3) := by decide +kernel
theorem dX3_init_121 : decode cX3_init 121 = .ok (.aload_n 0, 1) := by decide +kernel
theorem dX3_init_122 : decode cX3_init 122 = .ok (.bipush 12, 2) := by decide +kernel
theorem dX3_init_124 : decode cX3_init 124 = .ok (.newarray .int, 2) := by decide +kernel
theorem dX3_init_126 : decode cX3_init 126 = .ok (.putfield 64, 3) := by decide +kernel
theorem dX3_init_129 : decode cX3_init 129 = .ok (.aload_n 0, 1) := by decide +kernel
theorem dX3_init_130 : decode cX3_init 130 = .ok (.bipush 12, 2) := by decide +kernel
theorem dX3_init_132 : decode cX3_init 132 = .ok (.newarray .int, 2) := by decide +kernel
theorem dX3_init_134 : decode cX3_init 134 = .ok (.putfield 67, 3) := by decide +kernel
theorem dX3_init_137 : decode cX3_init 137 = .ok (.aload_n 0, 1) := by decide +kernel
theorem dX3_init_138 : decode cX3_init 138 = .ok (.new 70, 3) := by decide +kernel
theorem dX3_init_141 : decode cX3_init 141 = .ok (.dup, 1) := by decide +kernel
theorem dX3_init_142 : decode cX3_init 142 = .ok (.invokespecial 72, 3) := by decide +kernel
theorem dX3_init_145 : decode cX3_init 145 = .ok (.putfield 73, 3) := by decide +kernel
theorem dX3_init_148 : decode cX3_init 148 = .ok (.aload_n 0, 1) := by decide +kernel
theorem dX3_init_149 : decode cX3_init 149 = .ok (.getfield 37, 3) := by decide +kernel
theorem dX3_init_152 : decode cX3_init 152 = .ok (.iconst (-1), 1) := by decide +kernel
theorem dX3_init_153 : decode cX3_init 153 = .ok (.invokestatic 77, 3) := by decide +kernel
theorem dX3_init_156 : decode cX3_init 156 = .ok (.return_, 1) := by decide +kernel
theorem hd_X3_init : yX3_init.cls ≠ "java/lang/invoke/MethodHandle" ∧ yX3_init.cls ≠ "java/lang/invoke/VarHandle" ∧ (parseMethodDescriptor yX3_init.desc).map (fun d => d.parameters.length) = some 0 := by decide +kernel
def f_X3_init (sh : List xSh) (q0 : Nat) (d : xD) : Option xD :=
  (xpI 3 sh d q0 0 (20 : Int32)).bind fun d1 => (xpI 3 sh d1 q0 1 (-2 : Int32)).bind fun d2 => (xpI 3 sh d2 q0 2 (0 : Int32)).bind fun d3 => (xpI 3 sh d3 q0 3 (0 : Int32)).bind fun d4 => (xpI 3 sh d4 q0 4 (0 : Int32)).bind fun d5 => (xpR 3 (sh ++ [.inr (.int, 8)]) (xnw d5 sh.length) q0 5 sh.length).bind fun d6 => (xpR 3 (sh ++ [.inr (.int, 8), .inr (.int, 8)]) (xnw d6 (sh.length + 1)) q0 6 (sh.length + 1)).bind fun d7 => (xpR 3 (sh ++ [.inr (.int, 8), .inr (.int, 8), .inr (.int, 8)]) (xnw d7 (sh.length + 2)) q0 7 (sh.length + 2)).bind fun d8 => (xpR 3 (sh ++ [.inr (.int, 8), .inr (.int, 8), .inr (.int, 8), .inr (.int, 61)]) (xnw d8 (sh.length + 3)) q0 8 (sh.length + 3)).bind fun d9 => (xpI 3 (sh ++ [.inr (.int, 8), .inr (.int, 8), .inr (.int, 8), .inr (.int, 61)]) d9 q0 9 (0 : Int32)).bind fun d10 => (xpR 3 (sh ++ [.inr (.int, 8), .inr (.int, 8), .inr (.int, 8), .inr (.int, 61), .inr (.int, 6)]) (xnw d10 (sh.length + 4)) q0 10 (sh.length + 4)).bind fun d11 => (xpR 3 (sh ++ [.inr (.int, 8), .inr (.int, 8), .inr (.int, 8), .inr (.int, 61), .inr (.int, 6), .inr (.int, 6)]) (xnw d11 (sh.length + 5)) q0 11 (sh.length + 5)).bind fun d12 => (xpR 3 (sh ++ [.inr (.int, 8), .inr (.int, 8), .inr (.int, 8), .inr (.int, 61), .inr (.int, 6), .inr (.int, 6), .inr (.int, 6)]) (xnw d12 (sh.length + 6)) q0 12 (sh.length + 6)).bind fun d13 => (xpR 3 (sh ++ [.inr (.int, 8), .inr (.int, 8), .inr (.int, 8), .inr (.int, 61), .inr (.int, 6), .inr (.int, 6), .inr (.int, 6), .inr (.int, 6)]) (xnw d13 (sh.length + 7)) q0 13 (sh.length + 7)).bind fun d14 => (xpR 3 (sh ++ [.inr (.int, 8), .inr (.int, 8), .inr (.int, 8), .inr (.int, 61), .inr (.int, 6), .inr (.int, 6), .inr (.int, 6), .inr (.int, 6), .inr (.int, 6)]) (xnw d14 (sh.length + 8)) q0 14 (sh.length + 8)).bind fun d15 => (xpI 3 (sh ++ [.inr (.int, 8), .inr (.int, 8), .inr (.int, 8), .inr (.int, 61), .inr (.int, 6), .inr (.int, 6), .inr (.int, 6), .inr (.int, 6), .inr (.int, 6)]) d15 q0 15 (0 : Int32)).bind fun d16 => (xpR 3 (sh ++ [.inr (.int, 8), .inr (.int, 8), .inr (.int, 8), .inr (.int, 61), .inr (.int, 6), .inr (.int, 6), .inr (.int, 6), .inr (.int, 6), .inr (.int, 6), .inr (.int, 12)]) (xnw d16 (sh.length + 9)) q0 16 (sh.length + 9)).bind fun d17 => (xpR 3 (sh ++ [.inr (.int, 8), .inr (.int, 8), .inr (.int, 8), .inr (.int, 61), .inr (.int, 6), .inr (.int, 6), .inr (.int, 6), .inr (.int, 6), .inr (.int, 6), .inr (.int, 12), .inr (.int, 12)]) (xnw d17 (sh.length + 10)) q0 17 (sh.length + 10)).bind fun d18 => (xpR 3 (sh ++ [.inr (.int, 8), .inr (.int, 8), .inr (.int, 8), .inr (.int, 61), .inr (.int, 6), .inr (.int, 6), .inr (.int, 6), .inr (.int, 6), .inr (.int, 6), .inr (.int, 12), .inr (.int, 12), .inr (.int, 12)]) (xnw d18 (sh.length + 11)) q0 18 (sh.length + 11)).bind fun d19 => (f_X1_init (sh ++ [.inr (.int, 8), .inr (.int, 8), .inr (.int, 8), .inr (.int, 61), .inr (.int, 6), .inr (.int, 6), .inr (.int, 6), .inr (.int, 6), .inr (.int, 6), .inr (.int, 12), .inr (.int, 12), .inr (.int, 12), .inl 1]) (sh.length + 12) (xnw d19 (sh.length + 12))).bind fun d20 => (xpR 3 (sh ++ [.inr (.int, 8), .inr (.int, 8), .inr (.int, 8), .inr (.int, 61), .inr (.int, 6), .inr (.int, 6), .inr (.int, 6), .inr (.int, 6), .inr (.int, 6), .inr (.int, 12), .inr (.int, 12), .inr (.int, 12), .inl 1, .inr (.int, 64), .inr (.int, 64), .inr (.int, 3), .inr (.int, 3), .inr (.long, 64)]) d20 q0 19 (sh.length + 12)).bind fun d21 => (xgR 3 (sh ++ [.inr (.int, 8), .inr (.int, 8), .inr (.int, 8), .inr (.int, 61), .inr (.int, 6), .inr (.int, 6), .inr (.int, 6), .inr (.int, 6), .inr (.int, 6), .inr (.int, 12), .inr (.int, 12), .inr (.int, 12), .inl 1, .inr (.int, 64), .inr (.int, 64), .inr (.int, 3), .inr (.int, 3), .inr (.long, 64)]) d21 q0 8).bind fun v22 => (f_J7_fill_53178 (sh ++ [.inr (.int, 8), .inr (.int, 8), .inr (.int, 8), .inr (.int, 61), .inr (.int, 6), .inr (.int, 6), .inr (.int, 6), .inr (.int, 6), .inr (.int, 6), .inr (.int, 12), .inr (.int, 12), .inr (.int, 12), .inl 1, .inr (.int, 64), .inr (.int, 64), .inr (.int, 3), .inr (.int, 3), .inr (.long, 64)]) v22 (-1 : Int32) d21).bind fun d23 => some d23
set_option maxHeartbeats 4000000 in
set_option maxRecDepth 100000 in
theorem mt_X3_init (l : Launch) (D : va_G) (cid : FieldType → ClassId) (b : Nat) (sa sv B0 : Nat) (sh : List xSh) (hsh : 0 < sh.length) (shz : List xSh) (hshz : (sh ++ [.inr (.int, 8), .inr (.int, 8), .inr (.int, 8), .inr (.int, 61), .inr (.int, 6), .inr (.int, 6), .inr (.int, 6), .inr (.int, 6), .inr (.int, 6), .inr (.int, 12), .inr (.int, 12), .inr (.int, 12), .inl 1, .inr (.int, 64), .inr (.int, 64), .inr (.int, 3), .inr (.int, 3), .inr (.long, 64)]) = shz) (q0 : Nat) (d : xD) (dz : xD) (hf : f_X3_init sh q0 d = some dz) : xMet l yX3_init cX3_init 1 none 2 18 357 D cid b true sa sv B0 [.ref (b + q0)] sh d none shz dz := by
  subst hshz
  refine xMet.of (by decide) (Nat.le_of_ble_eq_true rfl) ?_
  intro p e s m below meth c ls A S hr hin G hl
  have hl : lv_has ls 1 [(0, .ref (b + q0))] := hl
  generalize ([.ref (b + q0)] : List Value).toArray = av at S ⊢
  have hx := S.1
  have hb := S.2.1
  have hml := S.2.2.1
  have hown := S.2.2.2.1
  have hts := S.2.2.2.2.1
  unfold f_X3_init at hf
  refine lv_aload_n hx hb dX3_init_0 rfl (lv_at hl 0 rfl) ?_
  refine W.objInit hx hb hown (hts _ kw_38) (hts _ kw_31) (hts _ kw_32) rfl (by rw [hml]; exact hl.1) rfl dX3_init_1 (Nat.le_of_ble_eq_true rfl) (Nat.le_of_ble_eq_true rfl) ?_
  refine W.eq (g2 := F0 m 4 ls []) rfl ?_
  refine lv_aload_n hx hb dX3_init_4 rfl (lv_at hl 0 rfl) ?_
  refine lv_bipush (v := (20 : Int32)) hx hb dX3_init_5 (by decide) ?_
  obtain ⟨d1, hd1, hf⟩ := x_ob hf
  refine xr_putI (ci := 3) (k := 0) S G hd1 rfl kw_78 dX3_init_7 (fun H locs G => ?_)
  refine lv_aload_n hx hb dX3_init_10 rfl (lv_at hl 0 rfl) ?_
  refine lv_bipush (v := (-2 : Int32)) hx hb dX3_init_11 (by decide) ?_
  obtain ⟨d2, hd2, hf⟩ := x_ob hf
  refine xr_putI (ci := 3) (k := 1) S G hd2 rfl kw_82 dX3_init_13 (fun H locs G => ?_)
  refine lv_aload_n hx hb dX3_init_16 rfl (lv_at hl 0 rfl) ?_
  refine lv_iconst (v := (0 : Int32)) hx hb dX3_init_17 (by decide) ?_
  obtain ⟨d3, hd3, hf⟩ := x_ob hf
  refine xr_putI (ci := 3) (k := 2) S G hd3 rfl kw_85 dX3_init_18 (fun H locs G => ?_)
  refine lv_aload_n hx hb dX3_init_21 rfl (lv_at hl 0 rfl) ?_
  refine lv_iconst (v := (0 : Int32)) hx hb dX3_init_22 (by decide) ?_
  obtain ⟨d4, hd4, hf⟩ := x_ob hf
  refine xr_putI (ci := 3) (k := 3) S G hd4 rfl kw_89 dX3_init_23 (fun H locs G => ?_)
  refine lv_aload_n hx hb dX3_init_26 rfl (lv_at hl 0 rfl) ?_
  refine lv_iconst (v := (0 : Int32)) hx hb dX3_init_27 (by decide) ?_
  obtain ⟨d5, hd5, hf⟩ := x_ob hf
  refine xr_putI (ci := 3) (k := 4) S G hd5 rfl kw_92 dX3_init_28 (fun H locs G => ?_)
  refine lv_aload_n hx hb dX3_init_31 rfl (lv_at hl 0 rfl) ?_
  refine lv_bipush (v := (8 : Int32)) hx hb dX3_init_32 (by decide) ?_
  refine xr_newa (atype := .int) (ty := .int) (q := sh.length) (N := 8) (sh' := (sh ++ [.inr (.int, 8)])) 0 S G rfl hsh rfl rfl rfl (rfl) kw_73 (by decide) (by decide) (Nat.le_of_ble_eq_true rfl) (Nat.le_of_ble_eq_true rfl) (Nat.le_of_ble_eq_true rfl) dX3_init_34 (fun H G => ?_)
  obtain ⟨d6, hd6, hf⟩ := x_ob hf
  refine xr_putRF (ci := 3) (k := 5) S (hin rfl) G hd6 rfl rfl kw_95 dX3_init_36 (fun H locs G => ?_)
  refine lv_aload_n hx hb dX3_init_39 rfl (lv_at hl 0 rfl) ?_
  refine lv_bipush (v := (8 : Int32)) hx hb dX3_init_40 (by decide) ?_
  refine xr_newa (atype := .int) (ty := .int) (q := (sh.length + 1)) (N := 8) (sh' := (sh ++ [.inr (.int, 8), .inr (.int, 8)])) 0 S G List.length_append (x_pos0 hsh) rfl rfl List.length_append (List.append_assoc _ _ _) kw_73 (by decide) (by decide) (Nat.le_of_ble_eq_true rfl) (Nat.le_of_ble_eq_true rfl) (Nat.le_of_ble_eq_true rfl) dX3_init_42 (fun H G => ?_)
  obtain ⟨d7, hd7, hf⟩ := x_ob hf
  refine xr_putRF (ci := 3) (k := 6) S (hin rfl) G hd7 rfl rfl kw_96 dX3_init_44 (fun H locs G => ?_)
  refine lv_aload_n hx hb dX3_init_47 rfl (lv_at hl 0 rfl) ?_
  refine lv_bipush (v := (8 : Int32)) hx hb dX3_init_48 (by decide) ?_
  refine xr_newa (atype := .int) (ty := .int) (q := (sh.length + 2)) (N := 8) (sh' := (sh ++ [.inr (.int, 8), .inr (.int, 8), .inr (.int, 8)])) 0 S G List.length_append (x_pos0 hsh) rfl rfl List.length_append (List.append_assoc _ _ _) kw_73 (by decide) (by decide) (Nat.le_of_ble_eq_true rfl) (Nat.le_of_ble_eq_true rfl) (Nat.le_of_ble_eq_true rfl) dX3_init_50 (fun H G => ?_)
  obtain ⟨d8, hd8, hf⟩ := x_ob hf
  refine xr_putRF (ci := 3) (k := 7) S (hin rfl) G hd8 rfl rfl kw_99 dX3_init_52 (fun H locs G => ?_)
  refine lv_aload_n hx hb dX3_init_55 rfl (lv_at hl 0 rfl) ?_
  refine lv_bipush (v := (61 : Int32)) hx hb dX3_init_56 (by decide) ?_
  refine xr_newa (atype := .int) (ty := .int) (q := (sh.length + 3)) (N := 61) (sh' := (sh ++ [.inr (.int, 8), .inr (.int, 8), .inr (.int, 8), .inr (.int, 61)])) 0 S G List.length_append (x_pos0 hsh) rfl rfl List.length_append (List.append_assoc _ _ _) kw_73 (by decide) (by decide) (Nat.le_of_ble_eq_true rfl) (Nat.le_of_ble_eq_true rfl) (Nat.le_of_ble_eq_true rfl) dX3_init_58 (fun H G => ?_)
  obtain ⟨d9, hd9, hf⟩ := x_ob hf
  refine xr_putRF (ci := 3) (k := 8) S (hin rfl) G hd9 rfl rfl kw_101 dX3_init_60 (fun H locs G => ?_)
  refine lv_aload_n hx hb dX3_init_63 rfl (lv_at hl 0 rfl) ?_
  refine lv_iconst (v := (0 : Int32)) hx hb dX3_init_64 (by decide) ?_
  obtain ⟨d10, hd10, hf⟩ := x_ob hf
  refine xr_putI (ci := 3) (k := 9) S G hd10 rfl kw_102 dX3_init_65 (fun H locs G => ?_)
  refine lv_aload_n hx hb dX3_init_68 rfl (lv_at hl 0 rfl) ?_
  refine lv_bipush (v := (6 : Int32)) hx hb dX3_init_69 (by decide) ?_
  refine xr_newa (atype := .int) (ty := .int) (q := (sh.length + 4)) (N := 6) (sh' := (sh ++ [.inr (.int, 8), .inr (.int, 8), .inr (.int, 8), .inr (.int, 61), .inr (.int, 6)])) 0 S G List.length_append (x_pos0 hsh) rfl rfl List.length_append (List.append_assoc _ _ _) kw_73 (by decide) (by decide) (Nat.le_of_ble_eq_true rfl) (Nat.le_of_ble_eq_true rfl) (Nat.le_of_ble_eq_true rfl) dX3_init_71 (fun H G => ?_)
  obtain ⟨d11, hd11, hf⟩ := x_ob hf
  refine xr_putRF (ci := 3) (k := 10) S (hin rfl) G hd11 rfl rfl kw_107 dX3_init_73 (fun H locs G => ?_)
  refine lv_aload_n hx hb dX3_init_76 rfl (lv_at hl 0 rfl) ?_
  refine lv_bipush (v := (6 : Int32)) hx hb dX3_init_77 (by decide) ?_
  refine xr_newa (atype := .int) (ty := .int) (q := (sh.length + 5)) (N := 6) (sh' := (sh ++ [.inr (.int, 8), .inr (.int, 8), .inr (.int, 8), .inr (.int, 61), .inr (.int, 6), .inr (.int, 6)])) 0 S G List.length_append (x_pos0 hsh) rfl rfl List.length_append (List.append_assoc _ _ _) kw_73 (by decide) (by decide) (Nat.le_of_ble_eq_true rfl) (Nat.le_of_ble_eq_true rfl) (Nat.le_of_ble_eq_true rfl) dX3_init_79 (fun H G => ?_)
  obtain ⟨d12, hd12, hf⟩ := x_ob hf
  refine xr_putRF (ci := 3) (k := 11) S (hin rfl) G hd12 rfl rfl kw_108 dX3_init_81 (fun H locs G => ?_)
  refine lv_aload_n hx hb dX3_init_84 rfl (lv_at hl 0 rfl) ?_
  refine lv_bipush (v := (6 : Int32)) hx hb dX3_init_85 (by decide) ?_
  refine xr_newa (atype := .int) (ty := .int) (q := (sh.length + 6)) (N := 6) (sh' := (sh ++ [.inr (.int, 8), .inr (.int, 8), .inr (.int, 8), .inr (.int, 61), .inr (.int, 6), .inr (.int, 6), .inr (.int, 6)])) 0 S G List.length_append (x_pos0 hsh) rfl rfl List.length_append (List.append_assoc _ _ _) kw_73 (by decide) (by decide) (Nat.le_of_ble_eq_true rfl) (Nat.le_of_ble_eq_true rfl) (Nat.le_of_ble_eq_true rfl) dX3_init_87 (fun H G => ?_)
  obtain ⟨d13, hd13, hf⟩ := x_ob hf
  refine xr_putRF (ci := 3) (k := 12) S (hin rfl) G hd13 rfl rfl kw_110 dX3_init_89 (fun H locs G => ?_)
  refine lv_aload_n hx hb dX3_init_92 rfl (lv_at hl 0 rfl) ?_
  refine lv_bipush (v := (6 : Int32)) hx hb dX3_init_93 (by decide) ?_
  refine xr_newa (atype := .int) (ty := .int) (q := (sh.length + 7)) (N := 6) (sh' := (sh ++ [.inr (.int, 8), .inr (.int, 8), .inr (.int, 8), .inr (.int, 61), .inr (.int, 6), .inr (.int, 6), .inr (.int, 6), .inr (.int, 6)])) 0 S G List.length_append (x_pos0 hsh) rfl rfl List.length_append (List.append_assoc _ _ _) kw_73 (by decide) (by decide) (Nat.le_of_ble_eq_true rfl) (Nat.le_of_ble_eq_true rfl) (Nat.le_of_ble_eq_true rfl) dX3_init_95 (fun H G => ?_)
  obtain ⟨d14, hd14, hf⟩ := x_ob hf
  refine xr_putRF (ci := 3) (k := 13) S (hin rfl) G hd14 rfl rfl kw_112 dX3_init_97 (fun H locs G => ?_)
  refine lv_aload_n hx hb dX3_init_100 rfl (lv_at hl 0 rfl) ?_
  refine lv_bipush (v := (6 : Int32)) hx hb dX3_init_101 (by decide) ?_
  refine xr_newa (atype := .int) (ty := .int) (q := (sh.length + 8)) (N := 6) (sh' := (sh ++ [.inr (.int, 8), .inr (.int, 8), .inr (.int, 8), .inr (.int, 61), .inr (.int, 6), .inr (.int, 6), .inr (.int, 6), .inr (.int, 6), .inr (.int, 6)])) 0 S G List.length_append (x_pos0 hsh) rfl rfl List.length_append (List.append_assoc _ _ _) kw_73 (by decide) (by decide) (Nat.le_of_ble_eq_true rfl) (Nat.le_of_ble_eq_true rfl) (Nat.le_of_ble_eq_true rfl) dX3_init_103 (fun H G => ?_)
  obtain ⟨d15, hd15, hf⟩ := x_ob hf
  refine xr_putRF (ci := 3) (k := 14) S (hin rfl) G hd15 rfl rfl kw_114 dX3_init_105 (fun H locs G => ?_)
  refine lv_aload_n hx hb dX3_init_108 rfl (lv_at hl 0 rfl) ?_
  refine lv_iconst (v := (0 : Int32)) hx hb dX3_init_109 (by decide) ?_
  obtain ⟨d16, hd16, hf⟩ := x_ob hf
  refine xr_putI (ci := 3) (k := 15) S G hd16 rfl kw_116 dX3_init_110 (fun H locs G => ?_)
  refine lv_aload_n hx hb dX3_init_113 rfl (lv_at hl 0 rfl) ?_
  refine lv_bipush (v := (12 : Int32)) hx hb dX3_init_114 (by decide) ?_
  refine xr_newa (atype := .int) (ty := .int) (q := (sh.length + 9)) (N := 12) (sh' := (sh ++ [.inr (.int, 8), .inr (.int, 8), .inr (.int, 8), .inr (.int, 61), .inr (.int, 6), .inr (.int, 6), .inr (.int, 6), .inr (.int, 6), .inr (.int, 6), .inr (.int, 12)])) 0 S G List.length_append (x_pos0 hsh) rfl rfl List.length_append (List.append_assoc _ _ _) kw_73 (by decide) (by decide) (Nat.le_of_ble_eq_true rfl) (Nat.le_of_ble_eq_true rfl) (Nat.le_of_ble_eq_true rfl) dX3_init_116 (fun H G => ?_)
  obtain ⟨d17, hd17, hf⟩ := x_ob hf
  refine xr_putRF (ci := 3) (k := 16) S (hin rfl) G hd17 rfl rfl kw_120 dX3_init_118 (fun H locs G => ?_)
  refine lv_aload_n hx hb dX3_init_121 rfl (lv_at hl 0 rfl) ?_
  refine lv_bipush (v := (12 : Int32)) hx hb dX3_init_122 (by decide) ?_
  refine xr_newa (atype := .int) (ty := .int) (q := (sh.length + 10)) (N := 12) (sh' := (sh ++ [.inr (.int, 8), .inr (.int, 8), .inr (.int, 8), .inr (.int, 61), .inr (.int, 6), .inr (.int, 6), .inr (.int, 6), .inr (.int, 6), .inr (.int, 6), .inr (.int, 12), .inr (.int, 12)])) 0 S G List.length_append (x_pos0 hsh) rfl rfl List.length_append (List.append_assoc _ _ _) kw_73 (by decide) (by decide) (Nat.le_of_ble_eq_true rfl) (Nat.le_of_ble_eq_true rfl) (Nat.le_of_ble_eq_true rfl) dX3_init_124 (fun H G => ?_)
  obtain ⟨d18, hd18, hf⟩ := x_ob hf
  refine xr_putRF (ci := 3) (k := 17) S (hin rfl) G hd18 rfl rfl kw_122 dX3_init_126 (fun H locs G => ?_)
  refine lv_aload_n hx hb dX3_init_129 rfl (lv_at hl 0 rfl) ?_
  refine lv_bipush (v := (12 : Int32)) hx hb dX3_init_130 (by decide) ?_
  refine xr_newa (atype := .int) (ty := .int) (q := (sh.length + 11)) (N := 12) (sh' := (sh ++ [.inr (.int, 8), .inr (.int, 8), .inr (.int, 8), .inr (.int, 61), .inr (.int, 6), .inr (.int, 6), .inr (.int, 6), .inr (.int, 6), .inr (.int, 6), .inr (.int, 12), .inr (.int, 12), .inr (.int, 12)])) 0 S G List.length_append (x_pos0 hsh) rfl rfl List.length_append (List.append_assoc _ _ _) kw_73 (by decide) (by decide) (Nat.le_of_ble_eq_true rfl) (Nat.le_of_ble_eq_true rfl) (Nat.le_of_ble_eq_true rfl) dX3_init_132 (fun H G => ?_)
  obtain ⟨d19, hd19, hf⟩ := x_ob hf
  refine xr_putRF (ci := 3) (k := 18) S (hin rfl) G hd19 rfl rfl kw_124 dX3_init_134 (fun H locs G => ?_)
  refine lv_aload_n hx hb dX3_init_137 rfl (lv_at hl 0 rfl) ?_
  refine xr_new (ci := 1) (q := (sh.length + 12)) (sh' := (sh ++ [.inr (.int, 8), .inr (.int, 8), .inr (.int, 8), .inr (.int, 61), .inr (.int, 6), .inr (.int, 6), .inr (.int, 6), .inr (.int, 6), .inr (.int, 6), .inr (.int, 12), .inr (.int, 12), .inr (.int, 12), .inl 1])) S G List.length_append (x_pos0 hsh) (by decide) List.length_append (List.append_assoc _ _ _) kw_39 kw_40 kw_3 (Nat.le_of_ble_eq_true rfl) (Nat.le_of_ble_eq_true rfl) dX3_init_138 (fun H G => ?_)
  refine lv_dup hx hb dX3_init_141 rfl ?_
  obtain ⟨d20, hd20, hf⟩ := x_ob hf
  refine xr_callIN (As := []) (rest := [.ref (b + (sh.length + 12)), .ref (b + q0)]) (st1 := [.ref (b + (sh.length + 12)), .ref (b + q0)]) (sh' := (sh ++ [.inr (.int, 8), .inr (.int, 8), .inr (.int, 8), .inr (.int, 61), .inr (.int, 6), .inr (.int, 6), .inr (.int, 6), .inr (.int, 6), .inr (.int, 6), .inr (.int, 12), .inr (.int, 12), .inr (.int, 12), .inl 1, .inr (.int, 64), .inr (.int, 64), .inr (.int, 3), .inr (.int, 3), .inr (.long, 64)])) S G hl.1 (fun _ => List.length_append) (mt_X1_init l D cid b sa sv B0 (sh ++ [.inr (.int, 8), .inr (.int, 8), .inr (.int, 8), .inr (.int, 61), .inr (.int, 6), .inr (.int, 6), .inr (.int, 6), .inr (.int, 6), .inr (.int, 6), .inr (.int, 12), .inr (.int, 12), .inr (.int, 12), .inl 1]) (x_pos0 hsh) (sh ++ [.inr (.int, 8), .inr (.int, 8), .inr (.int, 8), .inr (.int, 61), .inr (.int, 6), .inr (.int, 6), .inr (.int, 6), .inr (.int, 6), .inr (.int, 6), .inr (.int, 12), .inr (.int, 12), .inr (.int, 12), .inl 1, .inr (.int, 64), .inr (.int, 64), .inr (.int, 3), .inr (.int, 3), .inr (.long, 64)]) (List.append_assoc _ _ _) (sh.length + 12) (xnw d19 (sh.length + 12)) _ hd20) (xS_nest41 S) kw_42 kw_3 kw_43 rfl hd_X1_init ⟨Nat.le_of_ble_eq_true rfl, Nat.le_of_ble_eq_true rfl⟩ rfl rfl rfl (Nat.le_of_ble_eq_true rfl) ⟨Nat.le_of_ble_eq_true rfl, Nat.le_of_ble_eq_true rfl⟩ dX3_init_142 (fun H locs G => ?_)
  obtain ⟨d21, hd21, hf⟩ := x_ob hf
  refine xr_putRF (ci := 3) (k := 19) S (hin rfl) G hd21 rfl rfl kw_126 dX3_init_145 (fun H locs G => ?_)
  refine lv_aload_n hx hb dX3_init_148 rfl (lv_at hl 0 rfl) ?_
  obtain ⟨v22, hv22, hf⟩ := x_ob hf
  refine xr_getR (ci := 3) (k := 8) S G hv22 rfl kw_101 dX3_init_149 ?_
  refine lv_iconst (v := (-1 : Int32)) hx hb dX3_init_152 (by decide) ?_
  obtain ⟨d23, hd23, hf⟩ := x_ob hf
  refine xr_callS (As := [.ref (b + v22), .int (-1 : Int32)]) (rest := []) (st1 := []) S G hl.1 (fun _ => List.length_append) (mt_J7_fill_53178 l D cid b true sa sv B0 (sh ++ [.inr (.int, 8), .inr (.int, 8), .inr (.int, 8), .inr (.int, 61), .inr (.int, 6), .inr (.int, 6), .inr (.int, 6), .inr (.int, 6), .inr (.int, 6), .inr (.int, 12), .inr (.int, 12), .inr (.int, 12), .inl 1, .inr (.int, 64), .inr (.int, 64), .inr (.int, 3), .inr (.int, 3), .inr (.long, 64)]) v22 (-1 : Int32) d21 _ hd23) kw_75 kw_76 kw_4 kw_77 hd_J7_fill_53178 ⟨Nat.le_of_ble_eq_true rfl, Nat.le_of_ble_eq_true rfl⟩ rfl rfl rfl (Nat.le_of_ble_eq_true rfl) ⟨Nat.le_of_ble_eq_true rfl, Nat.le_of_ble_eq_true rfl⟩ dX3_init_153 (fun H locs G => ?_)
  cases hf
  exact xr_vret S G (fun _ => List.length_append) hr dX3_init_156
-- HalfLandings$LawReader.<init>(LHalfLandings$Tokens;)V
theorem dX0_init_0 : decode cX0_init 0 = .ok (.aload_n 0, 1) := by decide +kernel
theorem dX0_init_1 : decode cX0_init 1 = .ok (.invokespecial 3, 3) := by decide +kernel
theorem dX0_init_4 : decode cX0_init 4 = .ok (.aload_n 0, 1) := by decide +kernel
theorem dX0_init_5 : decode cX0_init 5 = .ok (.bipush 72, 2) := by decide +kernel
theorem dX0_init_7 : decode cX0_init 7 = .ok (.newarray .int, 2) := by decide +kernel
theorem dX0_init_9 : decode cX0_init 9 = .ok (.putfield 9, 3) := by decide +kernel
theorem dX0_init_12 : decode cX0_init 12 = .ok (.aload_n 0, 1) := by decide +kernel
theorem dX0_init_13 : decode cX0_init 13 = .ok (.iconst 0, 1) := by decide +kernel
theorem dX0_init_14 : decode cX0_init 14 = .ok (.putfield 15, 3) := by decide +kernel
theorem dX0_init_17 : decode cX0_init 17 = .ok (.aload_n 0, 1) := by decide +kernel
theorem dX0_init_18 : decode cX0_init 18 = .ok (.iconst 0, 1) := by decide +kernel
theorem dX0_init_19 : decode cX0_init 19 = .ok (.putfield 19, 3) := by decide +kernel
theorem dX0_init_22 : decode cX0_init 22 = .ok (.aload_n 0, 1) := by decide +kernel
theorem dX0_init_23 : decode cX0_init 23 = .ok (.iconst 1, 1) := by decide +kernel
theorem dX0_init_24 : decode cX0_init 24 = .ok (.putfield 22, 3) := by decide +kernel
theorem dX0_init_27 : decode cX0_init 27 = .ok (.aload_n 0, 1) := by decide +kernel
theorem dX0_init_28 : decode cX0_init 28 = .ok (.iconst 1, 1) := by decide +kernel
theorem dX0_init_29 : decode cX0_init 29 = .ok (.putfield 26, 3) := by decide +kernel
theorem dX0_init_32 : decode cX0_init 32 = .ok (.aload_n 0, 1) := by decide +kernel
theorem dX0_init_33 : decode cX0_init 33 = .ok (.aload_n 1, 1) := by decide +kernel
theorem dX0_init_34 : decode cX0_init 34 = .ok (.putfield 29, 3) := by decide +kernel
theorem dX0_init_37 : decode cX0_init 37 = .ok (.return_, 1) := by decide +kernel
theorem hd_X0_init : yX0_init.cls ≠ "java/lang/invoke/MethodHandle" ∧ yX0_init.cls ≠ "java/lang/invoke/VarHandle" ∧ (parseMethodDescriptor yX0_init.desc).map (fun d => d.parameters.length) = some 1 := by decide +kernel
def f_X0_init (sh : List xSh) (q0 : Nat) (q1 : Nat) (d : xD) : Option xD :=
  (xpR 0 (sh ++ [.inr (.int, 72)]) (xnw d sh.length) q0 1 sh.length).bind fun d1 => (xpI 0 (sh ++ [.inr (.int, 72)]) d1 q0 2 (0 : Int32)).bind fun d2 => (xpI 0 (sh ++ [.inr (.int, 72)]) d2 q0 3 (0 : Int32)).bind fun d3 => (xpI 0 (sh ++ [.inr (.int, 72)]) d3 q0 4 (1 : Int32)).bind fun d4 => (xpI 0 (sh ++ [.inr (.int, 72)]) d4 q0 5 (1 : Int32)).bind fun d5 => (xpR 0 (sh ++ [.inr (.int, 72)]) d5 q0 0 q1).bind fun d6 => some d6
set_option maxHeartbeats 4000000 in
set_option maxRecDepth 100000 in
theorem mt_X0_init (l : Launch) (D : va_G) (cid : FieldType → ClassId) (b : Nat) (sa sv B0 : Nat) (sh : List xSh) (hsh : 0 < sh.length) (shz : List xSh) (hshz : (sh ++ [.inr (.int, 72)]) = shz) (q0 : Nat) (q1 : Nat) (d : xD) (dz : xD) (hf : f_X0_init sh q0 q1 d = some dz) : xMet l yX0_init cX0_init 2 none 1 1 72 D cid b true sa sv B0 [.ref (b + q0), .ref (b + q1)] sh d none shz dz := by
  subst hshz
  refine xMet.of (by decide) (Nat.le_of_ble_eq_true rfl) ?_
  intro p e s m below meth c ls A S hr hin G hl
  have hl : lv_has ls 2 [(0, .ref (b + q0)), (1, .ref (b + q1))] := hl
  generalize ([.ref (b + q0), .ref (b + q1)] : List Value).toArray = av at S ⊢
  have hx := S.1
  have hb := S.2.1
  have hml := S.2.2.1
  have hown := S.2.2.2.1
  have hts := S.2.2.2.2.1
  unfold f_X0_init at hf
  refine lv_aload_n hx hb dX0_init_0 rfl (lv_at hl 0 rfl) ?_
  refine W.objInit hx hb hown (hts _ kw_274) (hts _ kw_31) (hts _ kw_32) rfl (by rw [hml]; exact hl.1) rfl dX0_init_1 (Nat.le_of_ble_eq_true rfl) (Nat.le_of_ble_eq_true rfl) ?_
  refine W.eq (g2 := F0 m 4 ls []) rfl ?_
  refine lv_aload_n hx hb dX0_init_4 rfl (lv_at hl 0 rfl) ?_
  refine lv_bipush (v := (72 : Int32)) hx hb dX0_init_5 (by decide) ?_
  refine xr_newa (atype := .int) (ty := .int) (q := sh.length) (N := 72) (sh' := (sh ++ [.inr (.int, 72)])) 0 S G rfl hsh rfl rfl rfl (rfl) kw_73 (by decide) (by decide) (Nat.le_of_ble_eq_true rfl) (Nat.le_of_ble_eq_true rfl) (Nat.le_of_ble_eq_true rfl) dX0_init_7 (fun H G => ?_)
  obtain ⟨d1, hd1, hf⟩ := x_ob hf
  refine xr_putRF (ci := 0) (k := 1) S (hin rfl) G hd1 rfl rfl kw_276 dX0_init_9 (fun H locs G => ?_)
  refine lv_aload_n hx hb dX0_init_12 rfl (lv_at hl 0 rfl) ?_
  refine lv_iconst (v := (0 : Int32)) hx hb dX0_init_13 (by decide) ?_
  obtain ⟨d2, hd2, hf⟩ := x_ob hf
  refine xr_putI (ci := 0) (k := 2) S G hd2 rfl kw_277 dX0_init_14 (fun H locs G => ?_)
  refine lv_aload_n hx hb dX0_init_17 rfl (lv_at hl 0 rfl) ?_
  refine lv_iconst (v := (0 : Int32)) hx hb dX0_init_18 (by decide) ?_
  obtain ⟨d3, hd3, hf⟩ := x_ob hf
  refine xr_putI (ci := 0) (k := 3) S G hd3 rfl kw_278 dX0_init_19 (fun H locs G => ?_)
  refine lv_aload_n hx hb dX0_init_22 rfl (lv_at hl 0 rfl) ?_
  refine lv_iconst (v := (1 : Int32)) hx hb dX0_init_23 (by decide) ?_
  obtain ⟨d4, hd4, hf⟩ := x_ob hf
  refine xr_putI (ci := 0) (k := 4) S G hd4 rfl kw_279 dX0_init_24 (fun H locs G => ?_)
  refine lv_aload_n hx hb dX0_init_27 rfl (lv_at hl 0 rfl) ?_
  refine lv_iconst (v := (1 : Int32)) hx hb dX0_init_28 (by decide) ?_
  obtain ⟨d5, hd5, hf⟩ := x_ob hf
  refine xr_putI (ci := 0) (k := 5) S G hd5 rfl kw_280 dX0_init_29 (fun H locs G => ?_)
  refine lv_aload_n hx hb dX0_init_32 rfl (lv_at hl 0 rfl) ?_
  refine lv_aload_n hx hb dX0_init_33 rfl (lv_at hl 1 rfl) ?_
  obtain ⟨d6, hd6, hf⟩ := x_ob hf
  refine xr_putRF (ci := 0) (k := 0) S (hin rfl) G hd6 rfl rfl kw_275 dX0_init_34 (fun H locs G => ?_)
  cases hf
  exact xr_vret S G (fun _ => List.length_append) hr dX0_init_37
-- HalfLandings$TextReader.<init>(LHalfLandings$Tokens;LHalfLandings$Plan;)V
theorem dX6_init_0 : decode cX6_init 0 = .ok (.aload_n 0, 1) := by decide +kernel
theorem dX6_init_1 : decode cX6_init 1 = .ok (.invokespecial 3, 3) := by decide +kernel
theorem dX6_init_4 : decode cX6_init 4 = .ok (.aload_n 0, 1) := by decide +kernel
theorem dX6_init_5 : decode cX6_init 5 = .ok (.iconst 0, 1) := by decide +kernel
theorem dX6_init_6 : decode cX6_init 6 = .ok (.putfield 9, 3) := by decide +kernel
theorem dX6_init_9 : decode cX6_init 9 = .ok (.aload_n 0, 1) := by decide +kernel
theorem dX6_init_10 : decode cX6_init 10 = .ok (.aload_n 1, 1) := by decide +kernel
theorem dX6_init_11 : decode cX6_init 11 = .ok (.putfield 15, 3) := by decide +kernel
theorem dX6_init_14 : decode cX6_init 14 = .ok (.aload_n 0, 1) := by decide +kernel
theorem dX6_init_15 : decode cX6_init 15 = .ok (.aload_n 2, 1) := by decide +kernel
theorem dX6_init_16 : decode cX6_init 16 = .ok (.putfield 19, 3) := by decide +kernel
theorem dX6_init_19 : decode cX6_init 19 = .ok (.aload_n 0, 1) := by decide +kernel
theorem dX6_init_20 : decode cX6_init 20 = .ok (.new 23, 3) := by decide +kernel
theorem dX6_init_23 : decode cX6_init 23 = .ok (.dup, 1) := by decide +kernel
theorem dX6_init_24 : decode cX6_init 24 = .ok (.aload_n 1, 1) := by decide +kernel
theorem dX6_init_25 : decode cX6_init 25 = .ok (.invokespecial 25, 3) := by decide +kernel
theorem dX6_init_28 : decode cX6_init 28 = .ok (.putfield 28, 3) := by decide +kernel
theorem dX6_init_31 : decode cX6_init 31 = .ok (.return_, 1) := by decide +kernel
theorem hd_X6_init : yX6_init.cls ≠ "java/lang/invoke/MethodHandle" ∧ yX6_init.cls ≠ "java/lang/invoke/VarHandle" ∧ (parseMethodDescriptor yX6_init.desc).map (fun d => d.parameters.length) = some 2 := by decide +kernel
def f_X6_init (sh : List xSh) (q0 : Nat) (q1 : Nat) (q2 : Nat) (d : xD) : Option xD :=
  (xpI 6 sh d q0 3 (0 : Int32)).bind fun d1 => (xpR 6 sh d1 q0 0 q1).bind fun d2 => (xpR 6 sh d2 q0 2 q2).bind fun d3 => (f_X0_init (sh ++ [.inl 0]) sh.length q1 (xnw d3 sh.length)).bind fun d4 => (xpR 6 (sh ++ [.inl 0, .inr (.int, 72)]) d4 q0 1 sh.length).bind fun d5 => some d5
set_option maxHeartbeats 4000000 in
set_option maxRecDepth 100000 in
theorem mt_X6_init (l : Launch) (D : va_G) (cid : FieldType → ClassId) (b : Nat) (sa sv B0 : Nat) (sh : List xSh) (hsh : 0 < sh.length) (shz : List xSh) (hshz : (sh ++ [.inl 0, .inr (.int, 72)]) = shz) (q0 : Nat) (q1 : Nat) (q2 : Nat) (d : xD) (dz : xD) (hf : f_X6_init sh q0 q1 q2 d = some dz) : xMet l yX6_init cX6_init 3 none 2 2 78 D cid b true sa sv B0 [.ref (b + q0), .ref (b + q1), .ref (b + q2)] sh d none shz dz := by
  subst hshz
  refine xMet.of (by decide) (Nat.le_of_ble_eq_true rfl) ?_
  intro p e s m below meth c ls A S hr hin G hl
  have hl : lv_has ls 3 [(0, .ref (b + q0)), (1, .ref (b + q1)), (2, .ref (b + q2))] := hl
  generalize ([.ref (b + q0), .ref (b + q1), .ref (b + q2)] : List Value).toArray = av at S ⊢
  have hx := S.1
  have hb := S.2.1
  have hml := S.2.2.1
  have hown := S.2.2.2.1
  have hts := S.2.2.2.2.1
  unfold f_X6_init at hf
  refine lv_aload_n hx hb dX6_init_0 rfl (lv_at hl 0 rfl) ?_
  refine W.objInit hx hb hown (hts _ kw_268) (hts _ kw_31) (hts _ kw_32) rfl (by rw [hml]; exact hl.1) rfl dX6_init_1 (Nat.le_of_ble_eq_true rfl) (Nat.le_of_ble_eq_true rfl) ?_
  refine W.eq (g2 := F0 m 4 ls []) rfl ?_
  refine lv_aload_n hx hb dX6_init_4 rfl (lv_at hl 0 rfl) ?_
  refine lv_iconst (v := (0 : Int32)) hx hb dX6_init_5 (by decide) ?_
  obtain ⟨d1, hd1, hf⟩ := x_ob hf
  refine xr_putI (ci := 6) (k := 3) S G hd1 rfl kw_297 dX6_init_6 (fun H locs G => ?_)
  refine lv_aload_n hx hb dX6_init_9 rfl (lv_at hl 0 rfl) ?_
  refine lv_aload_n hx hb dX6_init_10 rfl (lv_at hl 1 rfl) ?_
  obtain ⟨d2, hd2, hf⟩ := x_ob hf
  refine xr_putRF (ci := 6) (k := 0) S (hin rfl) G hd2 rfl rfl kw_294 dX6_init_11 (fun H locs G => ?_)
  refine lv_aload_n hx hb dX6_init_14 rfl (lv_at hl 0 rfl) ?_
  refine lv_aload_n hx hb dX6_init_15 rfl (lv_at hl 2 rfl) ?_
  obtain ⟨d3, hd3, hf⟩ := x_ob hf
  refine xr_putR (ci := 6) (k := 2) S G hd3 rfl kw_296 dX6_init_16 (fun H locs G => ?_)
  refine lv_aload_n hx hb dX6_init_19 rfl (lv_at hl 0 rfl) ?_
  refine xr_new (ci := 0) (q := sh.length) (sh' := (sh ++ [.inl 0])) S G rfl hsh (by decide) rfl (rfl) kw_269 kw_270 kw_11 (Nat.le_of_ble_eq_true rfl) (Nat.le_of_ble_eq_true rfl) dX6_init_20 (fun H G => ?_)
  refine lv_dup hx hb dX6_init_23 rfl ?_
  refine lv_aload_n hx hb dX6_init_24 rfl (lv_at hl 1 rfl) ?_
  obtain ⟨d4, hd4, hf⟩ := x_ob hf
  refine xr_callI (As := [.ref (b + q1)]) (rest := [.ref (b + sh.length), .ref (b + q0)]) (st1 := [.ref (b + sh.length), .ref (b + q0)]) (sh' := (sh ++ [.inl 0, .inr (.int, 72)])) S G hl.1 (fun _ => List.length_append) (mt_X0_init l D cid b sa sv B0 (sh ++ [.inl 0]) (x_pos0 hsh) (sh ++ [.inl 0, .inr (.int, 72)]) (List.append_assoc _ _ _) sh.length q1 (xnw d3 sh.length) _ hd4) kw_271 kw_272 kw_11 kw_273 rfl hd_X0_init ⟨Nat.le_of_ble_eq_true rfl, Nat.le_of_ble_eq_true rfl⟩ rfl rfl rfl (Nat.le_of_ble_eq_true rfl) ⟨Nat.le_of_ble_eq_true rfl, Nat.le_of_ble_eq_true rfl⟩ dX6_init_25 (fun H locs G => ?_)
  obtain ⟨d5, hd5, hf⟩ := x_ob hf
  refine xr_putRF (ci := 6) (k := 1) S (hin rfl) G hd5 rfl rfl kw_295 dX6_init_28 (fun H locs G => ?_)
  cases hf
  exact xr_vret S G (fun _ => List.length_append) hr dX6_init_31
-- HalfLandings$Minutes.<init>(LHalfLandings$Plan;)V
theorem dX2_init_0 : decode cX2_init 0 = .ok (.aload_n 0, 1) := by decide +kernel
theorem dX2_init_1 : decode cX2_init 1 = .ok (.invokespecial 3, 3) := by decide +kernel
theorem dX2_init_4 : decode cX2_init 4 = .ok (.aload_n 0, 1) := by decide +kernel
theorem dX2_init_5 : decode cX2_init 5 = .ok (.bipush 7, 2) := by decide +kernel
theorem dX2_init_7 : decode cX2_init 7 = .ok (.newarray .long, 2) := by decide +kernel
theorem dX2_init_9 : decode cX2_init 9 = .ok (.putfield 11, 3) := by decide +kernel
theorem dX2_init_12 : decode cX2_init 12 = .ok (.aload_n 0, 1) := by decide +kernel
theorem dX2_init_13 : decode cX2_init 13 = .ok (.aload_n 1, 1) := by decide +kernel
theorem dX2_init_14 : decode cX2_init 14 = .ok (.putfield 17, 3) := by decide +kernel
theorem dX2_init_17 : decode cX2_init 17 = .ok (.return_, 1) := by decide +kernel
theorem hd_X2_init : yX2_init.cls ≠ "java/lang/invoke/MethodHandle" ∧ yX2_init.cls ≠ "java/lang/invoke/VarHandle" ∧ (parseMethodDescriptor yX2_init.desc).map (fun d => d.parameters.length) = some 1 := by decide +kernel
def f_X2_init (sh : List xSh) (q0 : Nat) (q1 : Nat) (d : xD) : Option xD :=
  (xpR 2 (sh ++ [.inr (.long, 7)]) (xnw d sh.length) q0 1 sh.length).bind fun d1 => (xpR 2 (sh ++ [.inr (.long, 7)]) d1 q0 0 q1).bind fun d2 => some d2
set_option maxHeartbeats 4000000 in
set_option maxRecDepth 100000 in
theorem mt_X2_init (l : Launch) (D : va_G) (cid : FieldType → ClassId) (b : Nat) (sa sv B0 : Nat) (sh : List xSh) (hsh : 0 < sh.length) (shz : List xSh) (hshz : (sh ++ [.inr (.long, 7)]) = shz) (q0 : Nat) (q1 : Nat) (d : xD) (dz : xD) (hf : f_X2_init sh q0 q1 d = some dz) : xMet l yX2_init cX2_init 2 none 1 1 7 D cid b true sa sv B0 [.ref (b + q0), .ref (b + q1)] sh d none shz dz := by
  subst hshz
  refine xMet.of (by decide) (Nat.le_of_ble_eq_true rfl) ?_
  intro p e s m below meth c ls A S hr hin G hl
  have hl : lv_has ls 2 [(0, .ref (b + q0)), (1, .ref (b + q1))] := hl
  generalize ([.ref (b + q0), .ref (b + q1)] : List Value).toArray = av at S ⊢
  have hx := S.1
  have hb := S.2.1
  have hml := S.2.2.1
  have hown := S.2.2.2.1
  have hts := S.2.2.2.2.1
  unfold f_X2_init at hf
  refine lv_aload_n hx hb dX2_init_0 rfl (lv_at hl 0 rfl) ?_
  refine W.objInit hx hb hown (hts _ kw_409) (hts _ kw_31) (hts _ kw_32) rfl (by rw [hml]; exact hl.1) rfl dX2_init_1 (Nat.le_of_ble_eq_true rfl) (Nat.le_of_ble_eq_true rfl) ?_
  refine W.eq (g2 := F0 m 4 ls []) rfl ?_
  refine lv_aload_n hx hb dX2_init_4 rfl (lv_at hl 0 rfl) ?_
  refine lv_bipush (v := (7 : Int32)) hx hb dX2_init_5 (by decide) ?_
  refine xr_newa (atype := .long) (ty := .long) (q := sh.length) (N := 7) (sh' := (sh ++ [.inr (.long, 7)])) 3 S G rfl hsh rfl rfl rfl (rfl) kw_74 (by decide) (by decide) (Nat.le_of_ble_eq_true rfl) (Nat.le_of_ble_eq_true rfl) (Nat.le_of_ble_eq_true rfl) dX2_init_7 (fun H G => ?_)
  obtain ⟨d1, hd1, hf⟩ := x_ob hf
  refine xr_putRF (ci := 2) (k := 1) S (hin rfl) G hd1 rfl rfl kw_412 dX2_init_9 (fun H locs G => ?_)
  refine lv_aload_n hx hb dX2_init_12 rfl (lv_at hl 0 rfl) ?_
  refine lv_aload_n hx hb dX2_init_13 rfl (lv_at hl 1 rfl) ?_
  obtain ⟨d2, hd2, hf⟩ := x_ob hf
  refine xr_putR (ci := 2) (k := 0) S G hd2 rfl kw_410 dX2_init_14 (fun H locs G => ?_)
  cases hf
  exact xr_vret S G (fun _ => List.length_append) hr dX2_init_17
-- HalfLandings$Tokens.<init>([B)V
theorem dX7_init_0 : decode cX7_init 0 = .ok (.aload_n 0, 1) := by decide +kernel
theorem dX7_init_1 : decode cX7_init 1 = .ok (.invokespecial 3, 3) := by decide +kernel
theorem dX7_init_4 : decode cX7_init 4 = .ok (.aload_n 0, 1) := by decide +kernel
theorem dX7_init_5 : decode cX7_init 5 = .ok (.bipush 36, 2) := by decide +kernel
theorem dX7_init_7 : decode cX7_init 7 = .ok (.putfield 11, 3) := by decide +kernel
theorem dX7_init_10 : decode cX7_init 10 = .ok (.aload_n 0, 1) := by decide +kernel
theorem dX7_init_11 : decode cX7_init 11 = .ok (.iconst 0, 1) := by decide +kernel
theorem dX7_init_12 : decode cX7_init 12 = .ok (.putfield 15, 3) := by decide +kernel
theorem dX7_init_15 : decode cX7_init 15 = .ok (.aload_n 0, 1) := by decide +kernel
theorem dX7_init_16 : decode cX7_init 16 = .ok (.iconst 0, 1) := by decide +kernel
theorem dX7_init_17 : decode cX7_init 17 = .ok (.putfield 18, 3) := by decide +kernel
theorem dX7_init_20 : decode cX7_init 20 = .ok (.aload_n 0, 1) := by decide +kernel
theorem dX7_init_21 : decode cX7_init 21 = .ok (.iconst 0, 1) := by decide +kernel
theorem dX7_init_22 : decode cX7_init 22 = .ok (.putfield 21, 3) := by decide +kernel
theorem dX7_init_25 : decode cX7_init 25 = .ok (.aload_n 0, 1) := by decide +kernel
theorem dX7_init_26 : decode cX7_init 26 = .ok (.iconst (-1), 1) := by decide +kernel
theorem dX7_init_27 : decode cX7_init 27 = .ok (.putfield 24, 3) := by decide +kernel
theorem dX7_init_30 : decode cX7_init 30 = .ok (.aload_n 0, 1) := by decide +kernel
theorem dX7_init_31 : decode cX7_init 31 = .ok (.bipush 21, 2) := by decide +kernel
theorem dX7_init_33 : decode cX7_init 33 = .ok (.newarray .int, 2) := by decide +kernel
theorem dX7_init_35 : decode cX7_init 35 = .ok (.putfield 27, 3) := by decide +kernel
theorem dX7_init_38 : decode cX7_init 38 = .ok (.aload_n 0, 1) := by decide +kernel
theorem dX7_init_39 : decode cX7_init 39 = .ok (.iconst 0, 1) := by decide +kernel
theorem dX7_init_40 : decode cX7_init 40 = .ok (.putfield 31, 3) := by decide +kernel
theorem dX7_init_43 : decode cX7_init 43 = .ok (.aload_n 0, 1) := by decide +kernel
theorem dX7_init_44 : decode cX7_init 44 = .ok (.iconst 0, 1) := by decide +kernel
theorem dX7_init_45 : decode cX7_init 45 = .ok (.putfield 34, 3) := by decide +kernel
theorem dX7_init_48 : decode cX7_init 48 = .ok (.aload_n 0, 1) := by decide +kernel
theorem dX7_init_49 : decode cX7_init 49 = .ok (.aload_n 1, 1) := by decide +kernel
theorem dX7_init_50 : decode cX7_init 50 = .ok (.putfield 37, 3) := by decide +kernel
theorem dX7_init_53 : decode cX7_init 53 = .ok (.iconst 0, 1) := by decide +kernel
theorem dX7_init_54 : decode cX7_init 54 = .ok (.istore_n 2, 1) := by decide +kernel
theorem dX7_init_55 : decode cX7_init 55 = .ok (.iconst 0, 1) := by decide +kernel
theorem dX7_init_56 : decode cX7_init 56 = .ok (.istore_n 3, 1) := by decide +kernel
theorem dX7_init_57 : decode cX7_init 57 = .ok (.iconst 0, 1) := by decide +kernel
theorem dX7_init_58 : decode cX7_init 58 = .ok (.istore 4, 2) := by decide +kernel
theorem dX7_init_60 : decode cX7_init 60 = .ok (.iload 4, 2) := by decide +kernel
theorem dX7_init_62 : decode cX7_init 62 = .ok (.ldc 41, 2) := by decide +kernel
theorem dX7_init_64 : decode cX7_init 64 = .ok (.invokevirtual 43, 3) := by decide +kernel
theorem dX7_init_67 : decode cX7_init 67 = .ok (.if_icmp .ge 57, 3) := by decide +kernel
theorem dX7_init_70 : decode cX7_init 70 = .ok (.iload_n 2, 1) := by decide +kernel
theorem dX7_init_71 : decode cX7_init 71 = .ok (.bipush 21, 2) := by decide +kernel
theorem dX7_init_73 : decode cX7_init 73 = .ok (.if_icmp .ge 51, 3) := by decide +kernel
theorem dX7_init_76 : decode cX7_init 76 = .ok (.ldc 41, 2) := by decide +kernel
theorem dX7_init_78 : decode cX7_init 78 = .ok (.iload 4, 2) := by decide +kernel
theorem dX7_init_80 : decode cX7_init 80 = .ok (.invokevirtual 48, 3) := by decide +kernel
theorem dX7_init_83 : decode cX7_init 83 = .ok (.istore 5, 2) := by decide +kernel
theorem dX7_init_85 : decode cX7_init 85 = .ok (.iload 5, 2) := by decide +kernel
theorem dX7_init_87 : decode cX7_init 87 = .ok (.bipush 32, 2) := by decide +kernel
theorem dX7_init_89 : decode cX7_init 89 = .ok (.if_icmp .ne 11, 3) := by decide +kernel
theorem dX7_init_92 : decode cX7_init 92 = .ok (.iinc 2 1, 3) := by decide +kernel
theorem dX7_init_95 : decode cX7_init 95 = .ok (.iconst 0, 1) := by decide +kernel
theorem dX7_init_96 : decode cX7_init 96 = .ok (.istore_n 3, 1) := by decide +kernel
theorem dX7_init_97 : decode cX7_init 97 = .ok (.goto 21, 3) := by decide +kernel
theorem dX7_init_100 : decode cX7_init 100 = .ok (.aload_n 0, 1) := by decide +kernel
theorem dX7_init_101 : decode cX7_init 101 = .ok (.getfield 27, 3) := by decide +kernel
theorem dX7_init_104 : decode cX7_init 104 = .ok (.iload_n 2, 1) := by decide +kernel
theorem dX7_init_105 : decode cX7_init 105 = .ok (.dup2, 1) := by decide +kernel
theorem dX7_init_106 : decode cX7_init 106 = .ok (.iaload, 1) := by decide +kernel
theorem dX7_init_107 : decode cX7_init 107 = .ok (.iload 5, 2) := by decide +kernel
theorem dX7_init_109 : decode cX7_init 109 = .ok (.iload_n 3, 1) := by decide +kernel
theorem dX7_init_110 : decode cX7_init 110 = .ok (.invokestatic 52, 3) := by decide +kernel
theorem dX7_init_113 : decode cX7_init 113 = .ok (.ior, 1) := by decide +kernel
theorem dX7_init_114 : decode cX7_init 114 = .ok (.iastore, 1) := by decide +kernel
theorem dX7_init_115 : decode cX7_init 115 = .ok (.iinc 3 1, 3) := by decide +kernel
theorem dX7_init_118 : decode cX7_init 118 = .ok (.iinc 4 1, 3) := by decide +kernel
theorem dX7_init_121 : decode cX7_init 121 = .ok (.goto (-61), 3) := by decide +kernel
theorem dX7_init_124 : decode cX7_init 124 = .ok (.return_, 1) := by decide +kernel
theorem hd_X7_init : yX7_init.cls ≠ "java/lang/invoke/MethodHandle" ∧ yX7_init.cls ≠ "java/lang/invoke/VarHandle" ∧ (parseMethodDescriptor yX7_init.desc).map (fun d => d.parameters.length) = some 1 := by decide +kernel
def k_X7_init_124 (sh : List xSh) (d : xD) : Option xD :=
  some d
def k_X7_init_118 (sh : List xSh) (rec60 : Nat → Int32 → Int32 → Int32 → xD → Option xD) (q0 : Nat) (x2 : Int32) (x3 : Int32) (x4 : Int32) (d : xD) : Option xD :=
  rec60 q0 x2 x3 (x4 + 1) d
def b_X7_init_60 (sh : List xSh) (rec60 : Nat → Int32 → Int32 → Int32 → xD → Option xD) (q0 : Nat) (x2 : Int32) (x3 : Int32) (x4 : Int32) (d : xD) : Option xD :=
  if (104 : Int32) ≤ x4 then (k_X7_init_124 sh d) else (if (21 : Int32) ≤ x2 then (k_X7_init_124 sh d) else ((xch x4).bind fun v1 => if v1 = (32 : Int32) then (k_X7_init_118 sh rec60 q0 (x2 + 1) (0 : Int32) x4 d) else ((xgR 7 (sh ++ [.inr (.int, 21)]) d q0 6).bind fun v2 => (xaI .int (sh ++ [.inr (.int, 21)]) d v2 x2).bind fun v3 => (f_X7_bitsOfLetter (sh ++ [.inr (.int, 21)]) v1 x3 d).bind fun z4 => (xsI .int (sh ++ [.inr (.int, 21)]) z4.2 v2 x2 (v3 ||| z4.1)).bind fun d5 => k_X7_init_118 sh rec60 q0 x2 (x3 + 1) x4 d5)))
def f_X7_init (sh : List xSh) (q0 : Nat) (q1 : Nat) (d : xD) : Option xD :=
  (xpI 7 sh d q0 0 (36 : Int32)).bind fun d6 => (xpI 7 sh d6 q0 1 (0 : Int32)).bind fun d7 => (xpI 7 sh d7 q0 2 (0 : Int32)).bind fun d8 => (xpI 7 sh d8 q0 3 (0 : Int32)).bind fun d9 => (xpI 7 sh d9 q0 4 (-1 : Int32)).bind fun d10 => (xpR 7 (sh ++ [.inr (.int, 21)]) (xnw d10 sh.length) q0 6 sh.length).bind fun d11 => (xpI 7 (sh ++ [.inr (.int, 21)]) d11 q0 7 (0 : Int32)).bind fun d12 => (xpI 7 (sh ++ [.inr (.int, 21)]) d12 q0 8 (0 : Int32)).bind fun d13 => (xpR 7 (sh ++ [.inr (.int, 21)]) d13 q0 5 q1).bind fun d14 => xloop (fun _ _ _ _ _ => none) (b_X7_init_60 sh) xF q0 (0 : Int32) (0 : Int32) (0 : Int32) d14
set_option maxHeartbeats 4000000 in
set_option maxRecDepth 100000 in
theorem mt_X7_init (l : Launch) (D : va_G) (cid : FieldType → ClassId) (b : Nat) (sa sv B0 : Nat) (sh : List xSh) (hsh : 0 < sh.length) (shz : List xSh) (hshz : (sh ++ [.inr (.int, 21)]) = shz) (q0 : Nat) (q1 : Nat) (d : xD) (dz : xD) (hf : f_X7_init sh q0 q1 d = some dz) : xMet l yX7_init cX7_init 6 none 4 1 21 D cid b true sa sv B0 [.ref (b + q0), .ref (b + q1)] sh d none shz dz := by
  subst hshz
  refine xMet.of (by decide) (Nat.le_of_ble_eq_true rfl) ?_
  intro p e s m below meth c ls A S hr hin G hl
  have hl : lv_has ls 6 [(0, .ref (b + q0)), (1, .ref (b + q1))] := hl
  generalize ([.ref (b + q0), .ref (b + q1)] : List Value).toArray = av at S ⊢
  have hx := S.1
  have hb := S.2.1
  have hml := S.2.2.1
  have hown := S.2.2.2.1
  have hts := S.2.2.2.2.1
  have hstrT := S.2.2.2.2.2.2.2.2.1.1
  have hstrM := S.2.2.2.2.2.2.2.2.1.2.1
  have K124 : ∀ (d : xD), k_X7_init_124 sh d = some dz → ∀ (H : Heap) (locs : List Loc) (ls : Array Slot), lv_has ls 6 [] → xG D cid b A (sh ++ [.inr (.int, 21)]) d s H locs → W p l e (xRm 4 1 21) s m av below meth c H locs 1 21 (MQ below (xQ D cid b true A none (sh ++ [.inr (.int, 21)]) dz) av s 1 21 A) (F0 m 124 ls []) := by
    intro d hf H locs ls hl G
    unfold k_X7_init_124 at hf
    cases hf
    exact xr_vret S G (fun _ => List.length_append) hr dX7_init_124
  have K118 : ∀ (rec60 : Nat → Int32 → Int32 → Int32 → xD → Option xD) (hrec60 : ∀ (q0 : Nat) (x2 : Int32) (x3 : Int32) (x4 : Int32) (d : xD), rec60 q0 x2 x3 x4 d = some dz → ∀ (H : Heap) (locs : List Loc) (ls : Array Slot), lv_has ls 6 [(0, .ref (b + q0)), (2, .int x2), (3, .int x3), (4, .int x4)] → xG D cid b A (sh ++ [.inr (.int, 21)]) d s H locs → W p l e (xRm 4 1 21) s m av below meth c H locs 1 21 (MQ below (xQ D cid b true A none (sh ++ [.inr (.int, 21)]) dz) av s 1 21 A) (F0 m 60 ls [])) (q0 : Nat) (x2 : Int32) (x3 : Int32) (x4 : Int32) (d : xD), k_X7_init_118 sh rec60 q0 x2 x3 x4 d = some dz → ∀ (H : Heap) (locs : List Loc) (ls : Array Slot), lv_has ls 6 [(0, .ref (b + q0)), (2, .int x2), (3, .int x3), (4, .int x4)] → xG D cid b A (sh ++ [.inr (.int, 21)]) d s H locs → W p l e (xRm 4 1 21) s m av below meth c H locs 1 21 (MQ below (xQ D cid b true A none (sh ++ [.inr (.int, 21)]) dz) av s 1 21 A) (F0 m 118 ls []) := by
    intro rec60 hrec60 q0 x2 x3 x4 d hf H locs ls hl G
    unfold k_X7_init_118 at hf
    refine lv_iinc (v := (x4 + 1)) (lv' := [(4, .int (x4 + 1)), (0, .ref (b + q0)), (2, .int x2), (3, .int x3)]) hx hb dX7_init_118 hl (k := 3) rfl rfl (by decide) rfl (fun ls hl => ?_)
    refine lv_goto (tgt := 60) hx hb dX7_init_121 (by decide) ?_
    exact hrec60 q0 x2 x3 (x4 + 1) d hf _ _ ls (lv_sub hl [1, 2, 3, 0] rfl) G
  have K60 : ∀ (n : Nat) (q0 : Nat) (x2 : Int32) (x3 : Int32) (x4 : Int32) (d : xD), xloop (fun _ _ _ _ _ => none) (b_X7_init_60 sh) n q0 x2 x3 x4 d = some dz → ∀ (H : Heap) (locs : List Loc) (ls : Array Slot), lv_has ls 6 [(0, .ref (b + q0)), (2, .int x2), (3, .int x3), (4, .int x4)] → xG D cid b A (sh ++ [.inr (.int, 21)]) d s H locs → W p l e (xRm 4 1 21) s m av below meth c H locs 1 21 (MQ below (xQ D cid b true A none (sh ++ [.inr (.int, 21)]) dz) av s 1 21 A) (F0 m 60 ls []) := by
    intro n
    induction n with
    | zero =>
      intro q0 x2 x3 x4 d hf
      have hf : (none : Option xD) = some dz := hf
      cases hf
    | succ n hrec60 =>
      intro q0 x2 x3 x4 d hf H locs ls hl G
      have hf : b_X7_init_60 sh (xloop (fun _ _ _ _ _ => none) (b_X7_init_60 sh) n) q0 x2 x3 x4 d = some dz := hf
      unfold b_X7_init_60 at hf
      refine lv_iload hx hb dX7_init_60 (lv_at hl 3 rfl) ?_
      refine va_ldcS hx hb hown hstrT dX7_init_62 ?_
      refine xr_strlen S G hl.1 (fun _ => List.length_append) kw_178 ⟨Nat.le_of_ble_eq_true rfl, Nat.le_of_ble_eq_true rfl⟩ (Nat.le_of_ble_eq_true rfl) ⟨Nat.le_refl _, Nat.le_refl _⟩ dX7_init_64 (fun H locs G => ?_)
      refine lv_icmp_ge (tgt := 124) hx hb dX7_init_67 (by decide) (fun c => ?_) (fun c => ?_)
      · have hf := x_pos c hf
        exact K124 d hf _ _ ls (lv_sub hl [] rfl) G
      · have hf := x_neg c hf
        refine lv_iload_n hx hb dX7_init_70 rfl (lv_at hl 1 rfl) ?_
        refine lv_bipush (v := (21 : Int32)) hx hb dX7_init_71 (by decide) ?_
        refine lv_icmp_ge (tgt := 124) hx hb dX7_init_73 (by decide) (fun c => ?_) (fun c => ?_)
        · have hf := x_pos c hf
          exact K124 d hf _ _ ls (lv_sub hl [] rfl) G
        · have hf := x_neg c hf
          refine va_ldcS hx hb hown hstrT dX7_init_76 ?_
          refine lv_iload hx hb dX7_init_78 (lv_at hl 3 rfl) ?_
          obtain ⟨v1, hv1, hf⟩ := x_ob hf
          refine xr_charAt S G hl.1 (fun _ => List.length_append) hv1 kw_188 ⟨Nat.le_of_ble_eq_true rfl, Nat.le_of_ble_eq_true rfl⟩ (Nat.le_of_ble_eq_true rfl) ⟨Nat.le_refl _, Nat.le_refl _⟩ dX7_init_80 (fun H locs G => ?_)
          refine lv_istore (lv' := [(5, .int v1), (0, .ref (b + q0)), (2, .int x2), (3, .int x3), (4, .int x4)]) hx hb dX7_init_83 hl (by decide) rfl (fun ls hl => ?_)
          refine lv_iload hx hb dX7_init_85 (lv_at hl 0 rfl) ?_
          refine lv_bipush (v := (32 : Int32)) hx hb dX7_init_87 (by decide) ?_
          refine lv_icmp_ne (tgt := 100) hx hb dX7_init_89 (by decide) (fun c => ?_) (fun c => ?_)
          · have hf := x_neg c hf
            refine lv_aload_n hx hb dX7_init_100 rfl (lv_at hl 1 rfl) ?_
            obtain ⟨v2, hv2, hf⟩ := x_ob hf
            refine xr_getR (ci := 7) (k := 6) S G hv2 rfl kw_241 dX7_init_101 ?_
            refine lv_iload_n hx hb dX7_init_104 rfl (lv_at hl 2 rfl) ?_
            refine lv_dup2_11 hx hb dX7_init_105 rfl rfl ?_
            obtain ⟨v3, hv3, hf⟩ := x_ob hf
            refine xr_iald S G hv3 dX7_init_106 ?_
            refine lv_iload hx hb dX7_init_107 (lv_at hl 0 rfl) ?_
            refine lv_iload_n hx hb dX7_init_109 rfl (lv_at hl 3 rfl) ?_
            obtain ⟨z4, hz4, hf⟩ := x_ob hf
            refine xr_callS (As := [.int v1, .int x3]) (rest := [.int v3, .int x2, .ref (b + v2)]) (st1 := [.int z4.1, .int v3, .int x2, .ref (b + v2)]) S G hl.1 (fun _ => List.length_append) (mt_X7_bitsOfLetter l D cid b true sa sv B0 (sh ++ [.inr (.int, 21)]) v1 x3 d _ _ hz4) kw_226 kw_227 kw_5 kw_228 hd_X7_bitsOfLetter ⟨Nat.le_of_ble_eq_true rfl, Nat.le_of_ble_eq_true rfl⟩ rfl rfl rfl (Nat.le_of_ble_eq_true rfl) ⟨Nat.le_of_ble_eq_true rfl, Nat.le_of_ble_eq_true rfl⟩ dX7_init_110 (fun H locs G => ?_)
            refine lv_ior hx hb dX7_init_113 ?_
            obtain ⟨d5, hd5, hf⟩ := x_ob hf
            refine xr_iast S G hd5 dX7_init_114 (fun H locs G => ?_)
            refine lv_iinc (v := (x3 + 1)) (lv' := [(3, .int (x3 + 1)), (5, .int v1), (0, .ref (b + q0)), (2, .int x2), (4, .int x4)]) hx hb dX7_init_115 hl (k := 3) rfl rfl (by decide) rfl (fun ls hl => ?_)
            exact K118 _ hrec60 q0 x2 (x3 + 1) x4 d5 hf _ _ ls (lv_sub hl [2, 3, 0, 4] rfl) G
          · have hf := x_pos c hf
            refine lv_iinc (v := (x2 + 1)) (lv' := [(2, .int (x2 + 1)), (5, .int v1), (0, .ref (b + q0)), (3, .int x3), (4, .int x4)]) hx hb dX7_init_92 hl (k := 2) rfl rfl (by decide) rfl (fun ls hl => ?_)
            refine lv_iconst (v := (0 : Int32)) hx hb dX7_init_95 (by decide) ?_
            refine lv_istore_n (lv' := [(3, .int (0 : Int32)), (2, .int (x2 + 1)), (5, .int v1), (0, .ref (b + q0)), (4, .int x4)]) hx hb dX7_init_96 rfl hl (by decide) rfl (fun ls hl => ?_)
            refine lv_goto (tgt := 118) hx hb dX7_init_97 (by decide) ?_
            exact K118 _ hrec60 q0 (x2 + 1) (0 : Int32) x4 d hf _ _ ls (lv_sub hl [3, 1, 0, 4] rfl) G
  unfold f_X7_init at hf
  refine lv_aload_n hx hb dX7_init_0 rfl (lv_at hl 0 rfl) ?_
  refine W.objInit hx hb hown (hts _ kw_176) (hts _ kw_31) (hts _ kw_32) rfl (by rw [hml]; exact hl.1) rfl dX7_init_1 (Nat.le_of_ble_eq_true rfl) (Nat.le_of_ble_eq_true rfl) ?_
  refine W.eq (g2 := F0 m 4 ls []) rfl ?_
  refine lv_aload_n hx hb dX7_init_4 rfl (lv_at hl 0 rfl) ?_
  refine lv_bipush (v := (36 : Int32)) hx hb dX7_init_5 (by decide) ?_
  obtain ⟨d6, hd6, hf⟩ := x_ob hf
  refine xr_putI (ci := 7) (k := 0) S G hd6 rfl kw_229 dX7_init_7 (fun H locs G => ?_)
  refine lv_aload_n hx hb dX7_init_10 rfl (lv_at hl 0 rfl) ?_
  refine lv_iconst (v := (0 : Int32)) hx hb dX7_init_11 (by decide) ?_
  obtain ⟨d7, hd7, hf⟩ := x_ob hf
  refine xr_putI (ci := 7) (k := 1) S G hd7 rfl kw_232 dX7_init_12 (fun H locs G => ?_)
  refine lv_aload_n hx hb dX7_init_15 rfl (lv_at hl 0 rfl) ?_
  refine lv_iconst (v := (0 : Int32)) hx hb dX7_init_16 (by decide) ?_
  obtain ⟨d8, hd8, hf⟩ := x_ob hf
  refine xr_putI (ci := 7) (k := 2) S G hd8 rfl kw_233 dX7_init_17 (fun H locs G => ?_)
  refine lv_aload_n hx hb dX7_init_20 rfl (lv_at hl 0 rfl) ?_
  refine lv_iconst (v := (0 : Int32)) hx hb dX7_init_21 (by decide) ?_
  obtain ⟨d9, hd9, hf⟩ := x_ob hf
  refine xr_putI (ci := 7) (k := 3) S G hd9 rfl kw_236 dX7_init_22 (fun H locs G => ?_)
  refine lv_aload_n hx hb dX7_init_25 rfl (lv_at hl 0 rfl) ?_
  refine lv_iconst (v := (-1 : Int32)) hx hb dX7_init_26 (by decide) ?_
  obtain ⟨d10, hd10, hf⟩ := x_ob hf
  refine xr_putI (ci := 7) (k := 4) S G hd10 rfl kw_238 dX7_init_27 (fun H locs G => ?_)
  refine lv_aload_n hx hb dX7_init_30 rfl (lv_at hl 0 rfl) ?_
  refine lv_bipush (v := (21 : Int32)) hx hb dX7_init_31 (by decide) ?_
  refine xr_newa (atype := .int) (ty := .int) (q := sh.length) (N := 21) (sh' := (sh ++ [.inr (.int, 21)])) 0 S G rfl hsh rfl rfl rfl (rfl) kw_73 (by decide) (by decide) (Nat.le_of_ble_eq_true rfl) (Nat.le_of_ble_eq_true rfl) (Nat.le_of_ble_eq_true rfl) dX7_init_33 (fun H G => ?_)
  obtain ⟨d11, hd11, hf⟩ := x_ob hf
  refine xr_putRF (ci := 7) (k := 6) S (hin rfl) G hd11 rfl rfl kw_241 dX7_init_35 (fun H locs G => ?_)
  refine lv_aload_n hx hb dX7_init_38 rfl (lv_at hl 0 rfl) ?_
  refine lv_iconst (v := (0 : Int32)) hx hb dX7_init_39 (by decide) ?_
  obtain ⟨d12, hd12, hf⟩ := x_ob hf
  refine xr_putI (ci := 7) (k := 7) S G hd12 rfl kw_242 dX7_init_40 (fun H locs G => ?_)
  refine lv_aload_n hx hb dX7_init_43 rfl (lv_at hl 0 rfl) ?_
  refine lv_iconst (v := (0 : Int32)) hx hb dX7_init_44 (by decide) ?_
  obtain ⟨d13, hd13, hf⟩ := x_ob hf
  refine xr_putI (ci := 7) (k := 8) S G hd13 rfl kw_243 dX7_init_45 (fun H locs G => ?_)
  refine lv_aload_n hx hb dX7_init_48 rfl (lv_at hl 0 rfl) ?_
  refine lv_aload_n hx hb dX7_init_49 rfl (lv_at hl 1 rfl) ?_
  obtain ⟨d14, hd14, hf⟩ := x_ob hf
  refine xr_putRF (ci := 7) (k := 5) S (hin rfl) G hd14 rfl rfl kw_240 dX7_init_50 (fun H locs G => ?_)
  refine lv_iconst (v := (0 : Int32)) hx hb dX7_init_53 (by decide) ?_
  refine lv_istore_n (lv' := [(2, .int (0 : Int32)), (0, .ref (b + q0)), (1, .ref (b + q1))]) hx hb dX7_init_54 rfl hl (by decide) rfl (fun ls hl => ?_)
  refine lv_iconst (v := (0 : Int32)) hx hb dX7_init_55 (by decide) ?_
  refine lv_istore_n (lv' := [(3, .int (0 : Int32)), (2, .int (0 : Int32)), (0, .ref (b + q0)), (1, .ref (b + q1))]) hx hb dX7_init_56 rfl hl (by decide) rfl (fun ls hl => ?_)
  refine lv_iconst (v := (0 : Int32)) hx hb dX7_init_57 (by decide) ?_
  refine lv_istore (lv' := [(4, .int (0 : Int32)), (3, .int (0 : Int32)), (2, .int (0 : Int32)), (0, .ref (b + q0)), (1, .ref (b + q1))]) hx hb dX7_init_58 hl (by decide) rfl (fun ls hl => ?_)
  exact K60 xF q0 (0 : Int32) (0 : Int32) (0 : Int32) d14 hf _ _ ls (lv_sub hl [3, 2, 1, 0] rfl) G

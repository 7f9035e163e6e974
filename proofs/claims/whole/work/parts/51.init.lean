-- HalfLandings$Undone.<init>()V
theorem dX8_init_0 : decode cX8_init 0 = .ok (.aload_n 0, 1) := by decide +kernel
theorem dX8_init_1 : decode cX8_init 1 = .ok (.invokespecial 3, 3) := by decide +kernel
theorem dX8_init_4 : decode cX8_init 4 = .ok (.aload_n 0, 1) := by decide +kernel
theorem dX8_init_5 : decode cX8_init 5 = .ok (.iconst 0, 1) := by decide +kernel
theorem dX8_init_6 : decode cX8_init 6 = .ok (.putfield 9, 3) := by decide +kernel
theorem dX8_init_9 : decode cX8_init 9 = .ok (.aload_n 0, 1) := by decide +kernel
theorem dX8_init_10 : decode cX8_init 10 = .ok (.bipush 20, 2) := by decide +kernel
theorem dX8_init_12 : decode cX8_init 12 = .ok (.newarray .int, 2) := by decide +kernel
theorem dX8_init_14 : decode cX8_init 14 = .ok (.putfield 15, 3) := by decide +kernel
theorem dX8_init_17 : decode cX8_init 17 = .ok (.aload_n 0, 1) := by decide +kernel
theorem dX8_init_18 : decode cX8_init 18 = .ok (.bipush 20, 2) := by decide +kernel
theorem dX8_init_20 : decode cX8_init 20 = .ok (.newarray .int, 2) := by decide +kernel
theorem dX8_init_22 : decode cX8_init 22 = .ok (.putfield 19, 3) := by decide +kernel
theorem dX8_init_25 : decode cX8_init 25 = .ok (.return_, 1) := by decide +kernel
theorem hd_X8_init : yX8_init.cls ≠ "java/lang/invoke/MethodHandle" ∧ yX8_init.cls ≠ "java/lang/invoke/VarHandle" ∧ (parseMethodDescriptor yX8_init.desc).map (fun d => d.parameters.length) = some 0 := by decide +kernel
def sx_X8_init_1 (sh : List xSh) : List xSh := sh ++ [.inr (.int, 20)]
theorem sx_X8_init_1_len (sh : List xSh) : (sx_X8_init_1 sh).length = sh.length + 1 := by
  unfold sx_X8_init_1
  rw [List.length_append]
  rfl
def sx_X8_init_2 (sh : List xSh) : List xSh := (sx_X8_init_1 sh) ++ [.inr (.int, 20)]
theorem sx_X8_init_2_len (sh : List xSh) : (sx_X8_init_2 sh).length = sh.length + 2 := by
  unfold sx_X8_init_2
  rw [List.length_append, sx_X8_init_1_len]
  rfl
def f_X8_init (sh : List xSh) (q0 : Nat) (d : xD) : Option xD :=
  (xpI 8 sh d q0 0 (0 : Int32)).bind fun d1 => (xpR 8 (sx_X8_init_1 sh) (xnw d1 sh.length) q0 1 sh.length).bind fun d2 => (xpR 8 (sx_X8_init_2 sh) (xnw d2 (sh.length + 1)) q0 2 (sh.length + 1)).bind fun d3 => some d3
set_option maxHeartbeats 4000000 in
set_option maxRecDepth 100000 in
theorem mt_X8_init (l : Launch) (D : va_G) (cid : FieldType → ClassId) (b : Nat) (sa sv B0 : Nat) (sh : List xSh) (hsh : 0 < sh.length) (shz : List xSh) (hshz : (sx_X8_init_2 sh) = shz) (q0 : Nat) (d : xD) (dz : xD) (hf : f_X8_init sh q0 d = some dz) : xMet l yX8_init cX8_init 1 none 1 2 40 D cid b true sa sv B0 [.ref (b + q0)] sh d none shz dz := by
  subst hshz
  refine xMet.of (by decide) (Nat.le_of_ble_eq_true rfl) ?_
  intro p e s m below meth c ls A S hr hin G hl
  have hl : lv_has ls 1 [(0, .ref (b + q0))] := hl
  generalize ([.ref (b + q0)] : List Value).toArray = av at S ⊢
  have hx := S.1
  have hb := S.2.1
  have hml := S.2.2.1
  have hown := S.2.2.2.1
  have hts := S.2.2.2.2.1
  unfold f_X8_init at hf
  refine lv_aload_n hx hb dX8_init_0 rfl (lv_at hl 0 rfl) ?_
  refine W.objInit hx hb hown (hts _ kw_423) (hts _ kw_31) (hts _ kw_32) rfl (by rw [hml]; exact hl.1) rfl dX8_init_1 (Nat.le_of_ble_eq_true rfl) (Nat.le_of_ble_eq_true rfl) ?_
  refine W.eq (g2 := F0 m 4 ls []) rfl ?_
  refine lv_aload_n hx hb dX8_init_4 rfl (lv_at hl 0 rfl) ?_
  refine lv_iconst (v := (0 : Int32)) hx hb dX8_init_5 (by decide) ?_
  obtain ⟨d1, hd1, hf⟩ := x_ob hf
  refine xr_putI (ci := 8) (k := 0) S G hd1 rfl kw_424 dX8_init_6 (fun H locs G => ?_)
  refine lv_aload_n hx hb dX8_init_9 rfl (lv_at hl 0 rfl) ?_
  refine lv_bipush (v := (20 : Int32)) hx hb dX8_init_10 (by decide) ?_
  refine xr_newa (atype := .int) (ty := .int) (q := sh.length) (N := 20) (sh' := (sx_X8_init_1 sh)) 0 S G rfl hsh rfl rfl rfl rfl kw_73 (by decide) (by decide) (Nat.le_of_ble_eq_true rfl) (Nat.le_of_ble_eq_true rfl) (Nat.le_of_ble_eq_true rfl) dX8_init_12 (fun H G => ?_)
  obtain ⟨d2, hd2, hf⟩ := x_ob hf
  refine xr_putRF (ci := 8) (k := 1) S (hin rfl) G hd2 rfl rfl kw_426 dX8_init_14 (fun H locs G => ?_)
  refine lv_aload_n hx hb dX8_init_17 rfl (lv_at hl 0 rfl) ?_
  refine lv_bipush (v := (20 : Int32)) hx hb dX8_init_18 (by decide) ?_
  refine xr_newa (atype := .int) (ty := .int) (q := (sh.length + 1)) (N := 20) (sh' := (sx_X8_init_2 sh)) 0 S G (sx_X8_init_1_len sh) (by rw [sx_X8_init_1_len]; omega) rfl rfl (sx_X8_init_1_len sh) rfl kw_73 (by decide) (by decide) (Nat.le_of_ble_eq_true rfl) (Nat.le_of_ble_eq_true rfl) (Nat.le_of_ble_eq_true rfl) dX8_init_20 (fun H G => ?_)
  obtain ⟨d3, hd3, hf⟩ := x_ob hf
  refine xr_putRF (ci := 8) (k := 2) S (hin rfl) G hd3 rfl rfl kw_427 dX8_init_22 (fun H locs G => ?_)
  cases hf
  exact xr_vret S G (fun _ => sx_X8_init_2_len sh) hr dX8_init_25
-- HalfLandings$Seen.<init>()V
theorem dX5_init_0 : decode cX5_init 0 = .ok (.aload_n 0, 1) := by decide +kernel
theorem dX5_init_1 : decode cX5_init 1 = .ok (.invokespecial 3, 3) := by decide +kernel
theorem dX5_init_4 : decode cX5_init 4 = .ok (.aload_n 0, 1) := by decide +kernel
theorem dX5_init_5 : decode cX5_init 5 = .ok (.iconst 0, 1) := by decide +kernel
theorem dX5_init_6 : decode cX5_init 6 = .ok (.putfield 9, 3) := by decide +kernel
theorem dX5_init_9 : decode cX5_init 9 = .ok (.aload_n 0, 1) := by decide +kernel
theorem dX5_init_10 : decode cX5_init 10 = .ok (.iconst (-1), 1) := by decide +kernel
theorem dX5_init_11 : decode cX5_init 11 = .ok (.putfield 15, 3) := by decide +kernel
theorem dX5_init_14 : decode cX5_init 14 = .ok (.aload_n 0, 1) := by decide +kernel
theorem dX5_init_15 : decode cX5_init 15 = .ok (.bipush 24, 2) := by decide +kernel
theorem dX5_init_17 : decode cX5_init 17 = .ok (.newarray .int, 2) := by decide +kernel
theorem dX5_init_19 : decode cX5_init 19 = .ok (.putfield 18, 3) := by decide +kernel
theorem dX5_init_22 : decode cX5_init 22 = .ok (.aload_n 0, 1) := by decide +kernel
theorem dX5_init_23 : decode cX5_init 23 = .ok (.bipush 24, 2) := by decide +kernel
theorem dX5_init_25 : decode cX5_init 25 = .ok (.newarray .int, 2) := by decide +kernel
theorem dX5_init_27 : decode cX5_init 27 = .ok (.putfield 22, 3) := by decide +kernel
theorem dX5_init_30 : decode cX5_init 30 = .ok (.aload_n 0, 1) := by decide +kernel
theorem dX5_init_31 : decode cX5_init 31 = .ok (.bipush 24, 2) := by decide +kernel
theorem dX5_init_33 : decode cX5_init 33 = .ok (.newarray .int, 2) := by decide +kernel
theorem dX5_init_35 : decode cX5_init 35 = .ok (.putfield 25, 3) := by decide +kernel
theorem dX5_init_38 : decode cX5_init 38 = .ok (.aload_n 0, 1) := by decide +kernel
theorem dX5_init_39 : decode cX5_init 39 = .ok (.bipush 24, 2) := by decide +kernel
theorem dX5_init_41 : decode cX5_init 41 = .ok (.newarray .int, 2) := by decide +kernel
theorem dX5_init_43 : decode cX5_init 43 = .ok (.putfield 28, 3) := by decide +kernel
theorem dX5_init_46 : decode cX5_init 46 = .ok (.aload_n 0, 1) := by decide +kernel
theorem dX5_init_47 : decode cX5_init 47 = .ok (.bipush 24, 2) := by decide +kernel
theorem dX5_init_49 : decode cX5_init 49 = .ok (.newarray .boolean, 2) := by decide +kernel
theorem dX5_init_51 : decode cX5_init 51 = .ok (.putfield 31, 3) := by decide +kernel
theorem dX5_init_54 : decode cX5_init 54 = .ok (.aload_n 0, 1) := by decide +kernel
theorem dX5_init_55 : decode cX5_init 55 = .ok (.bipush 24, 2) := by decide +kernel
theorem dX5_init_57 : decode cX5_init 57 = .ok (.newarray .boolean, 2) := by decide +kernel
theorem dX5_init_59 : decode cX5_init 59 = .ok (.putfield 35, 3) := by decide +kernel
theorem dX5_init_62 : decode cX5_init 62 = .ok (.return_, 1) := by decide +kernel
theorem hd_X5_init : yX5_init.cls ≠ "java/lang/invoke/MethodHandle" ∧ yX5_init.cls ≠ "java/lang/invoke/VarHandle" ∧ (parseMethodDescriptor yX5_init.desc).map (fun d => d.parameters.length) = some 0 := by decide +kernel
def sx_X5_init_1 (sh : List xSh) : List xSh := sh ++ [.inr (.int, 24)]
theorem sx_X5_init_1_len (sh : List xSh) : (sx_X5_init_1 sh).length = sh.length + 1 := by
  unfold sx_X5_init_1
  rw [List.length_append]
  rfl
def sx_X5_init_2 (sh : List xSh) : List xSh := (sx_X5_init_1 sh) ++ [.inr (.int, 24)]
theorem sx_X5_init_2_len (sh : List xSh) : (sx_X5_init_2 sh).length = sh.length + 2 := by
  unfold sx_X5_init_2
  rw [List.length_append, sx_X5_init_1_len]
  rfl
def sx_X5_init_3 (sh : List xSh) : List xSh := (sx_X5_init_2 sh) ++ [.inr (.int, 24)]
theorem sx_X5_init_3_len (sh : List xSh) : (sx_X5_init_3 sh).length = sh.length + 3 := by
  unfold sx_X5_init_3
  rw [List.length_append, sx_X5_init_2_len]
  rfl
def sx_X5_init_4 (sh : List xSh) : List xSh := (sx_X5_init_3 sh) ++ [.inr (.int, 24)]
theorem sx_X5_init_4_len (sh : List xSh) : (sx_X5_init_4 sh).length = sh.length + 4 := by
  unfold sx_X5_init_4
  rw [List.length_append, sx_X5_init_3_len]
  rfl
def sx_X5_init_5 (sh : List xSh) : List xSh := (sx_X5_init_4 sh) ++ [.inr (.boolean, 24)]
theorem sx_X5_init_5_len (sh : List xSh) : (sx_X5_init_5 sh).length = sh.length + 5 := by
  unfold sx_X5_init_5
  rw [List.length_append, sx_X5_init_4_len]
  rfl
def sx_X5_init_6 (sh : List xSh) : List xSh := (sx_X5_init_5 sh) ++ [.inr (.boolean, 24)]
theorem sx_X5_init_6_len (sh : List xSh) : (sx_X5_init_6 sh).length = sh.length + 6 := by
  unfold sx_X5_init_6
  rw [List.length_append, sx_X5_init_5_len]
  rfl
def f_X5_init (sh : List xSh) (q0 : Nat) (d : xD) : Option xD :=
  (xpI 5 sh d q0 0 (0 : Int32)).bind fun d1 => (xpI 5 sh d1 q0 1 (-1 : Int32)).bind fun d2 => (xpR 5 (sx_X5_init_1 sh) (xnw d2 sh.length) q0 2 sh.length).bind fun d3 => (xpR 5 (sx_X5_init_2 sh) (xnw d3 (sh.length + 1)) q0 3 (sh.length + 1)).bind fun d4 => (xpR 5 (sx_X5_init_3 sh) (xnw d4 (sh.length + 2)) q0 4 (sh.length + 2)).bind fun d5 => (xpR 5 (sx_X5_init_4 sh) (xnw d5 (sh.length + 3)) q0 5 (sh.length + 3)).bind fun d6 => (xpR 5 (sx_X5_init_5 sh) (xnw d6 (sh.length + 4)) q0 6 (sh.length + 4)).bind fun d7 => (xpR 5 (sx_X5_init_6 sh) (xnw d7 (sh.length + 5)) q0 7 (sh.length + 5)).bind fun d8 => some d8
set_option maxHeartbeats 4000000 in
set_option maxRecDepth 100000 in
theorem mt_X5_init (l : Launch) (D : va_G) (cid : FieldType → ClassId) (b : Nat) (sa sv B0 : Nat) (sh : List xSh) (hsh : 0 < sh.length) (shz : List xSh) (hshz : (sx_X5_init_6 sh) = shz) (q0 : Nat) (d : xD) (dz : xD) (hf : f_X5_init sh q0 d = some dz) : xMet l yX5_init cX5_init 1 none 1 6 144 D cid b true sa sv B0 [.ref (b + q0)] sh d none shz dz := by
  subst hshz
  refine xMet.of (by decide) (Nat.le_of_ble_eq_true rfl) ?_
  intro p e s m below meth c ls A S hr hin G hl
  have hl : lv_has ls 1 [(0, .ref (b + q0))] := hl
  generalize ([.ref (b + q0)] : List Value).toArray = av at S ⊢
  have hx := S.1
  have hb := S.2.1
  have hml := S.2.2.1
  have hown := S.2.2.2.1
  have hts := S.2.2.2.2.1
  unfold f_X5_init at hf
  refine lv_aload_n hx hb dX5_init_0 rfl (lv_at hl 0 rfl) ?_
  refine W.objInit hx hb hown (hts _ kw_440) (hts _ kw_31) (hts _ kw_32) rfl (by rw [hml]; exact hl.1) rfl dX5_init_1 (Nat.le_of_ble_eq_true rfl) (Nat.le_of_ble_eq_true rfl) ?_
  refine W.eq (g2 := F0 m 4 ls []) rfl ?_
  refine lv_aload_n hx hb dX5_init_4 rfl (lv_at hl 0 rfl) ?_
  refine lv_iconst (v := (0 : Int32)) hx hb dX5_init_5 (by decide) ?_
  obtain ⟨d1, hd1, hf⟩ := x_ob hf
  refine xr_putI (ci := 5) (k := 0) S G hd1 rfl kw_441 dX5_init_6 (fun H locs G => ?_)
  refine lv_aload_n hx hb dX5_init_9 rfl (lv_at hl 0 rfl) ?_
  refine lv_iconst (v := (-1 : Int32)) hx hb dX5_init_10 (by decide) ?_
  obtain ⟨d2, hd2, hf⟩ := x_ob hf
  refine xr_putI (ci := 5) (k := 1) S G hd2 rfl kw_443 dX5_init_11 (fun H locs G => ?_)
  refine lv_aload_n hx hb dX5_init_14 rfl (lv_at hl 0 rfl) ?_
  refine lv_bipush (v := (24 : Int32)) hx hb dX5_init_15 (by decide) ?_
  refine xr_newa (atype := .int) (ty := .int) (q := sh.length) (N := 24) (sh' := (sx_X5_init_1 sh)) 0 S G rfl hsh rfl rfl rfl rfl kw_73 (by decide) (by decide) (Nat.le_of_ble_eq_true rfl) (Nat.le_of_ble_eq_true rfl) (Nat.le_of_ble_eq_true rfl) dX5_init_17 (fun H G => ?_)
  obtain ⟨d3, hd3, hf⟩ := x_ob hf
  refine xr_putRF (ci := 5) (k := 2) S (hin rfl) G hd3 rfl rfl kw_445 dX5_init_19 (fun H locs G => ?_)
  refine lv_aload_n hx hb dX5_init_22 rfl (lv_at hl 0 rfl) ?_
  refine lv_bipush (v := (24 : Int32)) hx hb dX5_init_23 (by decide) ?_
  refine xr_newa (atype := .int) (ty := .int) (q := (sh.length + 1)) (N := 24) (sh' := (sx_X5_init_2 sh)) 0 S G (sx_X5_init_1_len sh) (by rw [sx_X5_init_1_len]; omega) rfl rfl (sx_X5_init_1_len sh) rfl kw_73 (by decide) (by decide) (Nat.le_of_ble_eq_true rfl) (Nat.le_of_ble_eq_true rfl) (Nat.le_of_ble_eq_true rfl) dX5_init_25 (fun H G => ?_)
  obtain ⟨d4, hd4, hf⟩ := x_ob hf
  refine xr_putRF (ci := 5) (k := 3) S (hin rfl) G hd4 rfl rfl kw_446 dX5_init_27 (fun H locs G => ?_)
  refine lv_aload_n hx hb dX5_init_30 rfl (lv_at hl 0 rfl) ?_
  refine lv_bipush (v := (24 : Int32)) hx hb dX5_init_31 (by decide) ?_
  refine xr_newa (atype := .int) (ty := .int) (q := (sh.length + 2)) (N := 24) (sh' := (sx_X5_init_3 sh)) 0 S G (sx_X5_init_2_len sh) (by rw [sx_X5_init_2_len]; omega) rfl rfl (sx_X5_init_2_len sh) rfl kw_73 (by decide) (by decide) (Nat.le_of_ble_eq_true rfl) (Nat.le_of_ble_eq_true rfl) (Nat.le_of_ble_eq_true rfl) dX5_init_33 (fun H G => ?_)
  obtain ⟨d5, hd5, hf⟩ := x_ob hf
  refine xr_putRF (ci := 5) (k := 4) S (hin rfl) G hd5 rfl rfl kw_447 dX5_init_35 (fun H locs G => ?_)
  refine lv_aload_n hx hb dX5_init_38 rfl (lv_at hl 0 rfl) ?_
  refine lv_bipush (v := (24 : Int32)) hx hb dX5_init_39 (by decide) ?_
  refine xr_newa (atype := .int) (ty := .int) (q := (sh.length + 3)) (N := 24) (sh' := (sx_X5_init_4 sh)) 0 S G (sx_X5_init_3_len sh) (by rw [sx_X5_init_3_len]; omega) rfl rfl (sx_X5_init_3_len sh) rfl kw_73 (by decide) (by decide) (Nat.le_of_ble_eq_true rfl) (Nat.le_of_ble_eq_true rfl) (Nat.le_of_ble_eq_true rfl) dX5_init_41 (fun H G => ?_)
  obtain ⟨d6, hd6, hf⟩ := x_ob hf
  refine xr_putRF (ci := 5) (k := 5) S (hin rfl) G hd6 rfl rfl kw_448 dX5_init_43 (fun H locs G => ?_)
  refine lv_aload_n hx hb dX5_init_46 rfl (lv_at hl 0 rfl) ?_
  refine lv_bipush (v := (24 : Int32)) hx hb dX5_init_47 (by decide) ?_
  refine xr_newa (atype := .boolean) (ty := .boolean) (q := (sh.length + 4)) (N := 24) (sh' := (sx_X5_init_5 sh)) 2 S G (sx_X5_init_4_len sh) (by rw [sx_X5_init_4_len]; omega) rfl rfl (sx_X5_init_4_len sh) rfl kw_468 (by decide) (by decide) (Nat.le_of_ble_eq_true rfl) (Nat.le_of_ble_eq_true rfl) (Nat.le_of_ble_eq_true rfl) dX5_init_49 (fun H G => ?_)
  obtain ⟨d7, hd7, hf⟩ := x_ob hf
  refine xr_putRF (ci := 5) (k := 6) S (hin rfl) G hd7 rfl rfl kw_449 dX5_init_51 (fun H locs G => ?_)
  refine lv_aload_n hx hb dX5_init_54 rfl (lv_at hl 0 rfl) ?_
  refine lv_bipush (v := (24 : Int32)) hx hb dX5_init_55 (by decide) ?_
  refine xr_newa (atype := .boolean) (ty := .boolean) (q := (sh.length + 5)) (N := 24) (sh' := (sx_X5_init_6 sh)) 2 S G (sx_X5_init_5_len sh) (by rw [sx_X5_init_5_len]; omega) rfl rfl (sx_X5_init_5_len sh) rfl kw_468 (by decide) (by decide) (Nat.le_of_ble_eq_true rfl) (Nat.le_of_ble_eq_true rfl) (Nat.le_of_ble_eq_true rfl) dX5_init_57 (fun H G => ?_)
  obtain ⟨d8, hd8, hf⟩ := x_ob hf
  refine xr_putRF (ci := 5) (k := 7) S (hin rfl) G hd8 rfl rfl kw_450 dX5_init_59 (fun H locs G => ?_)
  cases hf
  exact xr_vret S G (fun _ => sx_X5_init_6_len sh) hr dX5_init_62
-- HalfLandings$Laws.<init>()V
theorem dX1_init_0 : decode cX1_init 0 = .ok (.aload_n 0, 1) := by decide +kernel
theorem dX1_init_1 : decode cX1_init 1 = .ok (.invokespecial 3, 3) := by decide +kernel
theorem dX1_init_4 : decode cX1_init 4 = .ok (.aload_n 0, 1) := by decide +kernel
theorem dX1_init_5 : decode cX1_init 5 = .ok (.iconst 0, 1) := by decide +kernel
theorem dX1_init_6 : decode cX1_init 6 = .ok (.putfield 9, 3) := by decide +kernel
theorem dX1_init_9 : decode cX1_init 9 = .ok (.aload_n 0, 1) := by decide +kernel
theorem dX1_init_10 : decode cX1_init 10 = .ok (.iconst 0, 1) := by decide +kernel
theorem dX1_init_11 : decode cX1_init 11 = .ok (.putfield 15, 3) := by decide +kernel
theorem dX1_init_14 : decode cX1_init 14 = .ok (.aload_n 0, 1) := by decide +kernel
theorem dX1_init_15 : decode cX1_init 15 = .ok (.bipush 64, 2) := by decide +kernel
theorem dX1_init_17 : decode cX1_init 17 = .ok (.newarray .int, 2) := by decide +kernel
theorem dX1_init_19 : decode cX1_init 19 = .ok (.putfield 18, 3) := by decide +kernel
theorem dX1_init_22 : decode cX1_init 22 = .ok (.aload_n 0, 1) := by decide +kernel
theorem dX1_init_23 : decode cX1_init 23 = .ok (.bipush 64, 2) := by decide +kernel
theorem dX1_init_25 : decode cX1_init 25 = .ok (.newarray .int, 2) := by decide +kernel
theorem dX1_init_27 : decode cX1_init 27 = .ok (.putfield 22, 3) := by decide +kernel
theorem dX1_init_30 : decode cX1_init 30 = .ok (.aload_n 0, 1) := by decide +kernel
theorem dX1_init_31 : decode cX1_init 31 = .ok (.iconst 0, 1) := by decide +kernel
theorem dX1_init_32 : decode cX1_init 32 = .ok (.putfield 25, 3) := by decide +kernel
theorem dX1_init_35 : decode cX1_init 35 = .ok (.aload_n 0, 1) := by decide +kernel
theorem dX1_init_36 : decode cX1_init 36 = .ok (.iconst 3, 1) := by decide +kernel
theorem dX1_init_37 : decode cX1_init 37 = .ok (.newarray .int, 2) := by decide +kernel
theorem dX1_init_39 : decode cX1_init 39 = .ok (.putfield 28, 3) := by decide +kernel
theorem dX1_init_42 : decode cX1_init 42 = .ok (.aload_n 0, 1) := by decide +kernel
theorem dX1_init_43 : decode cX1_init 43 = .ok (.iconst 3, 1) := by decide +kernel
theorem dX1_init_44 : decode cX1_init 44 = .ok (.newarray .int, 2) := by decide +kernel
theorem dX1_init_46 : decode cX1_init 46 = .ok (.putfield 31, 3) := by decide +kernel
theorem dX1_init_49 : decode cX1_init 49 = .ok (.aload_n 0, 1) := by decide +kernel
theorem dX1_init_50 : decode cX1_init 50 = .ok (.bipush 64, 2) := by decide +kernel
theorem dX1_init_52 : decode cX1_init 52 = .ok (.newarray .long, 2) := by decide +kernel
theorem dX1_init_54 : decode cX1_init 54 = .ok (.putfield 34, 3) := by decide +kernel
theorem dX1_init_57 : decode cX1_init 57 = .ok (.return_, 1) := by decide +kernel
theorem hd_X1_init : yX1_init.cls ≠ "java/lang/invoke/MethodHandle" ∧ yX1_init.cls ≠ "java/lang/invoke/VarHandle" ∧ (parseMethodDescriptor yX1_init.desc).map (fun d => d.parameters.length) = some 0 := by decide +kernel
def sx_X1_init_1 (sh : List xSh) : List xSh := sh ++ [.inr (.int, 64)]
theorem sx_X1_init_1_len (sh : List xSh) : (sx_X1_init_1 sh).length = sh.length + 1 := by
  unfold sx_X1_init_1
  rw [List.length_append]
  rfl
def sx_X1_init_2 (sh : List xSh) : List xSh := (sx_X1_init_1 sh) ++ [.inr (.int, 64)]
theorem sx_X1_init_2_len (sh : List xSh) : (sx_X1_init_2 sh).length = sh.length + 2 := by
  unfold sx_X1_init_2
  rw [List.length_append, sx_X1_init_1_len]
  rfl
def sx_X1_init_3 (sh : List xSh) : List xSh := (sx_X1_init_2 sh) ++ [.inr (.int, 3)]
theorem sx_X1_init_3_len (sh : List xSh) : (sx_X1_init_3 sh).length = sh.length + 3 := by
  unfold sx_X1_init_3
  rw [List.length_append, sx_X1_init_2_len]
  rfl
def sx_X1_init_4 (sh : List xSh) : List xSh := (sx_X1_init_3 sh) ++ [.inr (.int, 3)]
theorem sx_X1_init_4_len (sh : List xSh) : (sx_X1_init_4 sh).length = sh.length + 4 := by
  unfold sx_X1_init_4
  rw [List.length_append, sx_X1_init_3_len]
  rfl
def sx_X1_init_5 (sh : List xSh) : List xSh := (sx_X1_init_4 sh) ++ [.inr (.long, 64)]
theorem sx_X1_init_5_len (sh : List xSh) : (sx_X1_init_5 sh).length = sh.length + 5 := by
  unfold sx_X1_init_5
  rw [List.length_append, sx_X1_init_4_len]
  rfl
def f_X1_init (sh : List xSh) (q0 : Nat) (d : xD) : Option xD :=
  (xpI 1 sh d q0 0 (0 : Int32)).bind fun d1 => (xpI 1 sh d1 q0 1 (0 : Int32)).bind fun d2 => (xpR 1 (sx_X1_init_1 sh) (xnw d2 sh.length) q0 2 sh.length).bind fun d3 => (xpR 1 (sx_X1_init_2 sh) (xnw d3 (sh.length + 1)) q0 3 (sh.length + 1)).bind fun d4 => (xpI 1 (sx_X1_init_2 sh) d4 q0 4 (0 : Int32)).bind fun d5 => (xpR 1 (sx_X1_init_3 sh) (xnw d5 (sh.length + 2)) q0 5 (sh.length + 2)).bind fun d6 => (xpR 1 (sx_X1_init_4 sh) (xnw d6 (sh.length + 3)) q0 6 (sh.length + 3)).bind fun d7 => (xpR 1 (sx_X1_init_5 sh) (xnw d7 (sh.length + 4)) q0 7 (sh.length + 4)).bind fun d8 => some d8
set_option maxHeartbeats 4000000 in
set_option maxRecDepth 100000 in
theorem mt_X1_init (l : Launch) (D : va_G) (cid : FieldType → ClassId) (b : Nat) (sa sv B0 : Nat) (sh : List xSh) (hsh : 0 < sh.length) (shz : List xSh) (hshz : (sx_X1_init_5 sh) = shz) (q0 : Nat) (d : xD) (dz : xD) (hf : f_X1_init sh q0 d = some dz) : xMet l yX1_init cX1_init 1 none 1 5 198 D cid b true sa sv B0 [.ref (b + q0)] sh d none shz dz := by
  subst hshz
  refine xMet.of (by decide) (Nat.le_of_ble_eq_true rfl) ?_
  intro p e s m below meth c ls A S hr hin G hl
  have hl : lv_has ls 1 [(0, .ref (b + q0))] := hl
  generalize ([.ref (b + q0)] : List Value).toArray = av at S ⊢
  have hx := S.1
  have hb := S.2.1
  have hml := S.2.2.1
  have hown := S.2.2.2.1
  have hts := S.2.2.2.2.1
  unfold f_X1_init at hf
  refine lv_aload_n hx hb dX1_init_0 rfl (lv_at hl 0 rfl) ?_
  refine W.objInit hx hb hown (hts _ kw_44) (hts _ kw_31) (hts _ kw_32) rfl (by rw [hml]; exact hl.1) rfl dX1_init_1 (Nat.le_of_ble_eq_true rfl) (Nat.le_of_ble_eq_true rfl) ?_
  refine W.eq (g2 := F0 m 4 ls []) rfl ?_
  refine lv_aload_n hx hb dX1_init_4 rfl (lv_at hl 0 rfl) ?_
  refine lv_iconst (v := (0 : Int32)) hx hb dX1_init_5 (by decide) ?_
  obtain ⟨d1, hd1, hf⟩ := x_ob hf
  refine xr_putI (ci := 1) (k := 0) S G hd1 rfl kw_45 dX1_init_6 (fun H locs G => ?_)
  refine lv_aload_n hx hb dX1_init_9 rfl (lv_at hl 0 rfl) ?_
  refine lv_iconst (v := (0 : Int32)) hx hb dX1_init_10 (by decide) ?_
  obtain ⟨d2, hd2, hf⟩ := x_ob hf
  refine xr_putI (ci := 1) (k := 1) S G hd2 rfl kw_48 dX1_init_11 (fun H locs G => ?_)
  refine lv_aload_n hx hb dX1_init_14 rfl (lv_at hl 0 rfl) ?_
  refine lv_bipush (v := (64 : Int32)) hx hb dX1_init_15 (by decide) ?_
  refine xr_newa (atype := .int) (ty := .int) (q := sh.length) (N := 64) (sh' := (sx_X1_init_1 sh)) 0 S G rfl hsh rfl rfl rfl rfl kw_73 (by decide) (by decide) (Nat.le_of_ble_eq_true rfl) (Nat.le_of_ble_eq_true rfl) (Nat.le_of_ble_eq_true rfl) dX1_init_17 (fun H G => ?_)
  obtain ⟨d3, hd3, hf⟩ := x_ob hf
  refine xr_putRF (ci := 1) (k := 2) S (hin rfl) G hd3 rfl rfl kw_49 dX1_init_19 (fun H locs G => ?_)
  refine lv_aload_n hx hb dX1_init_22 rfl (lv_at hl 0 rfl) ?_
  refine lv_bipush (v := (64 : Int32)) hx hb dX1_init_23 (by decide) ?_
  refine xr_newa (atype := .int) (ty := .int) (q := (sh.length + 1)) (N := 64) (sh' := (sx_X1_init_2 sh)) 0 S G (sx_X1_init_1_len sh) (by rw [sx_X1_init_1_len]; omega) rfl rfl (sx_X1_init_1_len sh) rfl kw_73 (by decide) (by decide) (Nat.le_of_ble_eq_true rfl) (Nat.le_of_ble_eq_true rfl) (Nat.le_of_ble_eq_true rfl) dX1_init_25 (fun H G => ?_)
  obtain ⟨d4, hd4, hf⟩ := x_ob hf
  refine xr_putRF (ci := 1) (k := 3) S (hin rfl) G hd4 rfl rfl kw_50 dX1_init_27 (fun H locs G => ?_)
  refine lv_aload_n hx hb dX1_init_30 rfl (lv_at hl 0 rfl) ?_
  refine lv_iconst (v := (0 : Int32)) hx hb dX1_init_31 (by decide) ?_
  obtain ⟨d5, hd5, hf⟩ := x_ob hf
  refine xr_putI (ci := 1) (k := 4) S G hd5 rfl kw_51 dX1_init_32 (fun H locs G => ?_)
  refine lv_aload_n hx hb dX1_init_35 rfl (lv_at hl 0 rfl) ?_
  refine lv_iconst (v := (3 : Int32)) hx hb dX1_init_36 (by decide) ?_
  refine xr_newa (atype := .int) (ty := .int) (q := (sh.length + 2)) (N := 3) (sh' := (sx_X1_init_3 sh)) 0 S G (sx_X1_init_2_len sh) (by rw [sx_X1_init_2_len]; omega) rfl rfl (sx_X1_init_2_len sh) rfl kw_73 (by decide) (by decide) (Nat.le_of_ble_eq_true rfl) (Nat.le_of_ble_eq_true rfl) (Nat.le_of_ble_eq_true rfl) dX1_init_37 (fun H G => ?_)
  obtain ⟨d6, hd6, hf⟩ := x_ob hf
  refine xr_putRF (ci := 1) (k := 5) S (hin rfl) G hd6 rfl rfl kw_52 dX1_init_39 (fun H locs G => ?_)
  refine lv_aload_n hx hb dX1_init_42 rfl (lv_at hl 0 rfl) ?_
  refine lv_iconst (v := (3 : Int32)) hx hb dX1_init_43 (by decide) ?_
  refine xr_newa (atype := .int) (ty := .int) (q := (sh.length + 3)) (N := 3) (sh' := (sx_X1_init_4 sh)) 0 S G (sx_X1_init_3_len sh) (by rw [sx_X1_init_3_len]; omega) rfl rfl (sx_X1_init_3_len sh) rfl kw_73 (by decide) (by decide) (Nat.le_of_ble_eq_true rfl) (Nat.le_of_ble_eq_true rfl) (Nat.le_of_ble_eq_true rfl) dX1_init_44 (fun H G => ?_)
  obtain ⟨d7, hd7, hf⟩ := x_ob hf
  refine xr_putRF (ci := 1) (k := 6) S (hin rfl) G hd7 rfl rfl kw_53 dX1_init_46 (fun H locs G => ?_)
  refine lv_aload_n hx hb dX1_init_49 rfl (lv_at hl 0 rfl) ?_
  refine lv_bipush (v := (64 : Int32)) hx hb dX1_init_50 (by decide) ?_
  refine xr_newa (atype := .long) (ty := .long) (q := (sh.length + 4)) (N := 64) (sh' := (sx_X1_init_5 sh)) 3 S G (sx_X1_init_4_len sh) (by rw [sx_X1_init_4_len]; omega) rfl rfl (sx_X1_init_4_len sh) rfl kw_74 (by decide) (by decide) (Nat.le_of_ble_eq_true rfl) (Nat.le_of_ble_eq_true rfl) (Nat.le_of_ble_eq_true rfl) dX1_init_52 (fun H G => ?_)
  obtain ⟨d8, hd8, hf⟩ := x_ob hf
  refine xr_putRF (ci := 1) (k := 7) S (hin rfl) G hd8 rfl rfl kw_54 dX1_init_54 (fun H locs G => ?_)
  cases hf
  exact xr_vret S G (fun _ => sx_X1_init_5_len sh) hr dX1_init_57
-- HalfLandings$Scene.<init>()V
theorem dX4_init_0 : decode cX4_init 0 = .ok (.aload_n 0, 1) := by decide +kernel
theorem dX4_init_1 : decode cX4_init 1 = .ok (.invokespecial 3, 3) := by decide +kernel
theorem dX4_init_4 : decode cX4_init 4 = .ok (.aload_n 0, 1) := by decide +kernel
theorem dX4_init_5 : decode cX4_init 5 = .ok (.iconst 0, 1) := by decide +kernel
theorem dX4_init_6 : decode cX4_init 6 = .ok (.putfield 9, 3) := by decide +kernel
theorem dX4_init_9 : decode cX4_init 9 = .ok (.aload_n 0, 1) := by decide +kernel
theorem dX4_init_10 : decode cX4_init 10 = .ok (.iconst 0, 1) := by decide +kernel
theorem dX4_init_11 : decode cX4_init 11 = .ok (.putfield 15, 3) := by decide +kernel
theorem dX4_init_14 : decode cX4_init 14 = .ok (.aload_n 0, 1) := by decide +kernel
theorem dX4_init_15 : decode cX4_init 15 = .ok (.bipush (-2), 2) := by decide +kernel
theorem dX4_init_17 : decode cX4_init 17 = .ok (.putfield 18, 3) := by decide +kernel
theorem dX4_init_20 : decode cX4_init 20 = .ok (.aload_n 0, 1) := by decide +kernel
theorem dX4_init_21 : decode cX4_init 21 = .ok (.lconst 0, 1) := by decide +kernel
theorem dX4_init_22 : decode cX4_init 22 = .ok (.putfield 21, 3) := by decide +kernel
theorem dX4_init_25 : decode cX4_init 25 = .ok (.aload_n 0, 1) := by decide +kernel
theorem dX4_init_26 : decode cX4_init 26 = .ok (.iconst 0, 1) := by decide +kernel
theorem dX4_init_27 : decode cX4_init 27 = .ok (.putfield 25, 3) := by decide +kernel
theorem dX4_init_30 : decode cX4_init 30 = .ok (.aload_n 0, 1) := by decide +kernel
theorem dX4_init_31 : decode cX4_init 31 = .ok (.bipush 6, 2) := by decide +kernel
theorem dX4_init_33 : decode cX4_init 33 = .ok (.newarray .int, 2) := by decide +kernel
theorem dX4_init_35 : decode cX4_init 35 = .ok (.putfield 28, 3) := by decide +kernel
theorem dX4_init_38 : decode cX4_init 38 = .ok (.aload_n 0, 1) := by decide +kernel
theorem dX4_init_39 : decode cX4_init 39 = .ok (.bipush 6, 2) := by decide +kernel
theorem dX4_init_41 : decode cX4_init 41 = .ok (.newarray .int, 2) := by decide +kernel
theorem dX4_init_43 : decode cX4_init 43 = .ok (.putfield 32, 3) := by decide +kernel
theorem dX4_init_46 : decode cX4_init 46 = .ok (.aload_n 0, 1) := by decide +kernel
theorem dX4_init_47 : decode cX4_init 47 = .ok (.bipush 6, 2) := by decide +kernel
theorem dX4_init_49 : decode cX4_init 49 = .ok (.newarray .int, 2) := by decide +kernel
theorem dX4_init_51 : decode cX4_init 51 = .ok (.putfield 35, 3) := by decide +kernel
theorem dX4_init_54 : decode cX4_init 54 = .ok (.aload_n 0, 1) := by decide +kernel
theorem dX4_init_55 : decode cX4_init 55 = .ok (.bipush 6, 2) := by decide +kernel
theorem dX4_init_57 : decode cX4_init 57 = .ok (.newarray .int, 2) := by decide +kernel
theorem dX4_init_59 : decode cX4_init 59 = .ok (.putfield 38, 3) := by decide +kernel
theorem dX4_init_62 : decode cX4_init 62 = .ok (.aload_n 0, 1) := by decide +kernel
theorem dX4_init_63 : decode cX4_init 63 = .ok (.bipush 6, 2) := by decide +kernel
theorem dX4_init_65 : decode cX4_init 65 = .ok (.newarray .int, 2) := by decide +kernel
theorem dX4_init_67 : decode cX4_init 67 = .ok (.putfield 41, 3) := by decide +kernel
theorem dX4_init_70 : decode cX4_init 70 = .ok (.aload_n 0, 1) := by decide +kernel
theorem dX4_init_71 : decode cX4_init 71 = .ok (.bipush 6, 2) := by decide +kernel
theorem dX4_init_73 : decode cX4_init 73 = .ok (.newarray .int, 2) := by decide +kernel
theorem dX4_init_75 : decode cX4_init 75 = .ok (.putfield 44, 3) := by decide +kernel
theorem dX4_init_78 : decode cX4_init 78 = .ok (.aload_n 0, 1) := by decide +kernel
theorem dX4_init_79 : decode cX4_init 79 = .ok (.bipush 6, 2) := by decide +kernel
theorem dX4_init_81 : decode cX4_init 81 = .ok (.newarray .int, 2) := by decide +kernel
theorem dX4_init_83 : decode cX4_init 83 = .ok (.putfield 47, 3) := by decide +kernel
theorem dX4_init_86 : decode cX4_init 86 = .ok (.aload_n 0, 1) := by decide +kernel
theorem dX4_init_87 : decode cX4_init 87 = .ok (.bipush 8, 2) := by decide +kernel
theorem dX4_init_89 : decode cX4_init 89 = .ok (.newarray .int, 2) := by decide +kernel
theorem dX4_init_91 : decode cX4_init 91 = .ok (.putfield 50, 3) := by decide +kernel
theorem dX4_init_94 : decode cX4_init 94 = .ok (.aload_n 0, 1) := by decide +kernel
theorem dX4_init_95 : decode cX4_init 95 = .ok (.bipush 8, 2) := by decide +kernel
theorem dX4_init_97 : decode cX4_init 97 = .ok (.newarray .int, 2) := by decide +kernel
theorem dX4_init_99 : decode cX4_init 99 = .ok (.putfield 53, 3) := by decide +kernel
theorem dX4_init_102 : decode cX4_init 102 = .ok (.aload_n 0, 1) := by decide +kernel
theorem dX4_init_103 : decode cX4_init 103 = .ok (.iconst 0, 1) := by decide +kernel
theorem dX4_init_104 : decode cX4_init 104 = .ok (.putfield 56, 3) := by decide +kernel
theorem dX4_init_107 : decode cX4_init 107 = .ok (.aload_n 0, 1) := by decide +kernel
theorem dX4_init_108 : decode cX4_init 108 = .ok (.bipush 13, 2) := by decide +kernel
theorem dX4_init_110 : decode cX4_init 110 = .ok (.newarray .int, 2) := by decide +kernel
theorem dX4_init_112 : decode cX4_init 112 = .ok (.putfield 59, 3) := by decide +kernel
theorem dX4_init_115 : decode cX4_init 115 = .ok (.aload_n 0, 1) := by decide +kernel
theorem dX4_init_116 : decode cX4_init 116 = .ok (.bipush 13, 2) := by decide +kernel
theorem dX4_init_118 : decode cX4_init 118 = .ok (.newarray .int, 2) := by decide +kernel
theorem dX4_init_120 : decode cX4_init 120 = .ok (.putfield 62, 3) := by decide +kernel
theorem dX4_init_123 : decode cX4_init 123 = .ok (.aload_n 0, 1) := by decide +kernel
theorem dX4_init_124 : decode cX4_init 124 = .ok (.bipush 13, 2) := by decide +kernel
theorem dX4_init_126 : decode cX4_init 126 = .ok (.newarray .int, 2) := by decide +kernel
theorem dX4_init_128 : decode cX4_init 128 = .ok (.putfield 65, 3) := by decide +kernel
theorem dX4_init_131 : decode cX4_init 131 = .ok (.aload_n 0, 1) := by decide +kernel
theorem dX4_init_132 : decode cX4_init 132 = .ok (.bipush 13, 2) := by decide +kernel
theorem dX4_init_134 : decode cX4_init 134 = .ok (.newarray .int, 2) := by decide +kernel
theorem dX4_init_136 : decode cX4_init 136 = .ok (.putfield 68, 3) := by decide +kernel
theorem dX4_init_139 : decode cX4_init 139 = .ok (.return_, 1) := by decide +kernel
theorem hd_X4_init : yX4_init.cls ≠ "java/lang/invoke/MethodHandle" ∧ yX4_init.cls ≠ "java/lang/invoke/VarHandle" ∧ (parseMethodDescriptor yX4_init.desc).map (fun d => d.parameters.length) = some 0 := by decide +kernel
def sx_X4_init_1 (sh : List xSh) : List xSh := sh ++ [.inr (.int, 6)]
theorem sx_X4_init_1_len (sh : List xSh) : (sx_X4_init_1 sh).length = sh.length + 1 := by
  unfold sx_X4_init_1
  rw [List.length_append]
  rfl
def sx_X4_init_2 (sh : List xSh) : List xSh := (sx_X4_init_1 sh) ++ [.inr (.int, 6)]
theorem sx_X4_init_2_len (sh : List xSh) : (sx_X4_init_2 sh).length = sh.length + 2 := by
  unfold sx_X4_init_2
  rw [List.length_append, sx_X4_init_1_len]
  rfl
def sx_X4_init_3 (sh : List xSh) : List xSh := (sx_X4_init_2 sh) ++ [.inr (.int, 6)]
theorem sx_X4_init_3_len (sh : List xSh) : (sx_X4_init_3 sh).length = sh.length + 3 := by
  unfold sx_X4_init_3
  rw [List.length_append, sx_X4_init_2_len]
  rfl
def sx_X4_init_4 (sh : List xSh) : List xSh := (sx_X4_init_3 sh) ++ [.inr (.int, 6)]
theorem sx_X4_init_4_len (sh : List xSh) : (sx_X4_init_4 sh).length = sh.length + 4 := by
  unfold sx_X4_init_4
  rw [List.length_append, sx_X4_init_3_len]
  rfl
def sx_X4_init_5 (sh : List xSh) : List xSh := (sx_X4_init_4 sh) ++ [.inr (.int, 6)]
theorem sx_X4_init_5_len (sh : List xSh) : (sx_X4_init_5 sh).length = sh.length + 5 := by
  unfold sx_X4_init_5
  rw [List.length_append, sx_X4_init_4_len]
  rfl
def sx_X4_init_6 (sh : List xSh) : List xSh := (sx_X4_init_5 sh) ++ [.inr (.int, 6)]
theorem sx_X4_init_6_len (sh : List xSh) : (sx_X4_init_6 sh).length = sh.length + 6 := by
  unfold sx_X4_init_6
  rw [List.length_append, sx_X4_init_5_len]
  rfl
def sx_X4_init_7 (sh : List xSh) : List xSh := (sx_X4_init_6 sh) ++ [.inr (.int, 6)]
theorem sx_X4_init_7_len (sh : List xSh) : (sx_X4_init_7 sh).length = sh.length + 7 := by
  unfold sx_X4_init_7
  rw [List.length_append, sx_X4_init_6_len]
  rfl
def sx_X4_init_8 (sh : List xSh) : List xSh := (sx_X4_init_7 sh) ++ [.inr (.int, 8)]
theorem sx_X4_init_8_len (sh : List xSh) : (sx_X4_init_8 sh).length = sh.length + 8 := by
  unfold sx_X4_init_8
  rw [List.length_append, sx_X4_init_7_len]
  rfl
def sx_X4_init_9 (sh : List xSh) : List xSh := (sx_X4_init_8 sh) ++ [.inr (.int, 8)]
theorem sx_X4_init_9_len (sh : List xSh) : (sx_X4_init_9 sh).length = sh.length + 9 := by
  unfold sx_X4_init_9
  rw [List.length_append, sx_X4_init_8_len]
  rfl
def sx_X4_init_10 (sh : List xSh) : List xSh := (sx_X4_init_9 sh) ++ [.inr (.int, 13)]
theorem sx_X4_init_10_len (sh : List xSh) : (sx_X4_init_10 sh).length = sh.length + 10 := by
  unfold sx_X4_init_10
  rw [List.length_append, sx_X4_init_9_len]
  rfl
def sx_X4_init_11 (sh : List xSh) : List xSh := (sx_X4_init_10 sh) ++ [.inr (.int, 13)]
theorem sx_X4_init_11_len (sh : List xSh) : (sx_X4_init_11 sh).length = sh.length + 11 := by
  unfold sx_X4_init_11
  rw [List.length_append, sx_X4_init_10_len]
  rfl
def sx_X4_init_12 (sh : List xSh) : List xSh := (sx_X4_init_11 sh) ++ [.inr (.int, 13)]
theorem sx_X4_init_12_len (sh : List xSh) : (sx_X4_init_12 sh).length = sh.length + 12 := by
  unfold sx_X4_init_12
  rw [List.length_append, sx_X4_init_11_len]
  rfl
def sx_X4_init_13 (sh : List xSh) : List xSh := (sx_X4_init_12 sh) ++ [.inr (.int, 13)]
theorem sx_X4_init_13_len (sh : List xSh) : (sx_X4_init_13 sh).length = sh.length + 13 := by
  unfold sx_X4_init_13
  rw [List.length_append, sx_X4_init_12_len]
  rfl
def f_X4_init (sh : List xSh) (q0 : Nat) (d : xD) : Option xD :=
  (xpI 4 sh d q0 0 (0 : Int32)).bind fun d1 => (xpI 4 sh d1 q0 1 (0 : Int32)).bind fun d2 => (xpI 4 sh d2 q0 2 (-2 : Int32)).bind fun d3 => (xpL 4 sh d3 q0 3 (0 : Int64)).bind fun d4 => (xpI 4 sh d4 q0 4 (0 : Int32)).bind fun d5 => (xpR 4 (sx_X4_init_1 sh) (xnw d5 sh.length) q0 5 sh.length).bind fun d6 => (xpR 4 (sx_X4_init_2 sh) (xnw d6 (sh.length + 1)) q0 6 (sh.length + 1)).bind fun d7 => (xpR 4 (sx_X4_init_3 sh) (xnw d7 (sh.length + 2)) q0 7 (sh.length + 2)).bind fun d8 => (xpR 4 (sx_X4_init_4 sh) (xnw d8 (sh.length + 3)) q0 8 (sh.length + 3)).bind fun d9 => (xpR 4 (sx_X4_init_5 sh) (xnw d9 (sh.length + 4)) q0 9 (sh.length + 4)).bind fun d10 => (xpR 4 (sx_X4_init_6 sh) (xnw d10 (sh.length + 5)) q0 10 (sh.length + 5)).bind fun d11 => (xpR 4 (sx_X4_init_7 sh) (xnw d11 (sh.length + 6)) q0 11 (sh.length + 6)).bind fun d12 => (xpR 4 (sx_X4_init_8 sh) (xnw d12 (sh.length + 7)) q0 12 (sh.length + 7)).bind fun d13 => (xpR 4 (sx_X4_init_9 sh) (xnw d13 (sh.length + 8)) q0 13 (sh.length + 8)).bind fun d14 => (xpI 4 (sx_X4_init_9 sh) d14 q0 14 (0 : Int32)).bind fun d15 => (xpR 4 (sx_X4_init_10 sh) (xnw d15 (sh.length + 9)) q0 15 (sh.length + 9)).bind fun d16 => (xpR 4 (sx_X4_init_11 sh) (xnw d16 (sh.length + 10)) q0 16 (sh.length + 10)).bind fun d17 => (xpR 4 (sx_X4_init_12 sh) (xnw d17 (sh.length + 11)) q0 17 (sh.length + 11)).bind fun d18 => (xpR 4 (sx_X4_init_13 sh) (xnw d18 (sh.length + 12)) q0 18 (sh.length + 12)).bind fun d19 => some d19
set_option maxHeartbeats 4000000 in
set_option maxRecDepth 100000 in
theorem mt_X4_init (l : Launch) (D : va_G) (cid : FieldType → ClassId) (b : Nat) (sa sv B0 : Nat) (sh : List xSh) (hsh : 0 < sh.length) (shz : List xSh) (hshz : (sx_X4_init_13 sh) = shz) (q0 : Nat) (d : xD) (dz : xD) (hf : f_X4_init sh q0 d = some dz) : xMet l yX4_init cX4_init 1 none 1 13 110 D cid b true sa sv B0 [.ref (b + q0)] sh d none shz dz := by
  subst hshz
  refine xMet.of (by decide) (Nat.le_of_ble_eq_true rfl) ?_
  intro p e s m below meth c ls A S hr hin G hl
  have hl : lv_has ls 1 [(0, .ref (b + q0))] := hl
  generalize ([.ref (b + q0)] : List Value).toArray = av at S ⊢
  have hx := S.1
  have hb := S.2.1
  have hml := S.2.2.1
  have hown := S.2.2.2.1
  have hts := S.2.2.2.2.1
  unfold f_X4_init at hf
  refine lv_aload_n hx hb dX4_init_0 rfl (lv_at hl 0 rfl) ?_
  refine W.objInit hx hb hown (hts _ kw_312) (hts _ kw_31) (hts _ kw_32) rfl (by rw [hml]; exact hl.1) rfl dX4_init_1 (Nat.le_of_ble_eq_true rfl) (Nat.le_of_ble_eq_true rfl) ?_
  refine W.eq (g2 := F0 m 4 ls []) rfl ?_
  refine lv_aload_n hx hb dX4_init_4 rfl (lv_at hl 0 rfl) ?_
  refine lv_iconst (v := (0 : Int32)) hx hb dX4_init_5 (by decide) ?_
  obtain ⟨d1, hd1, hf⟩ := x_ob hf
  refine xr_putI (ci := 4) (k := 0) S G hd1 rfl kw_313 dX4_init_6 (fun H locs G => ?_)
  refine lv_aload_n hx hb dX4_init_9 rfl (lv_at hl 0 rfl) ?_
  refine lv_iconst (v := (0 : Int32)) hx hb dX4_init_10 (by decide) ?_
  obtain ⟨d2, hd2, hf⟩ := x_ob hf
  refine xr_putI (ci := 4) (k := 1) S G hd2 rfl kw_316 dX4_init_11 (fun H locs G => ?_)
  refine lv_aload_n hx hb dX4_init_14 rfl (lv_at hl 0 rfl) ?_
  refine lv_bipush (v := (-2 : Int32)) hx hb dX4_init_15 (by decide) ?_
  obtain ⟨d3, hd3, hf⟩ := x_ob hf
  refine xr_putI (ci := 4) (k := 2) S G hd3 rfl kw_319 dX4_init_17 (fun H locs G => ?_)
  refine lv_aload_n hx hb dX4_init_20 rfl (lv_at hl 0 rfl) ?_
  refine lv_lconst (v := (0 : Int64)) hx hb dX4_init_21 (by decide) ?_
  obtain ⟨d4, hd4, hf⟩ := x_ob hf
  refine xr_putL (ci := 4) (k := 3) S G hd4 rfl kw_323 dX4_init_22 (fun H locs G => ?_)
  refine lv_aload_n hx hb dX4_init_25 rfl (lv_at hl 0 rfl) ?_
  refine lv_iconst (v := (0 : Int32)) hx hb dX4_init_26 (by decide) ?_
  obtain ⟨d5, hd5, hf⟩ := x_ob hf
  refine xr_putI (ci := 4) (k := 4) S G hd5 rfl kw_326 dX4_init_27 (fun H locs G => ?_)
  refine lv_aload_n hx hb dX4_init_30 rfl (lv_at hl 0 rfl) ?_
  refine lv_bipush (v := (6 : Int32)) hx hb dX4_init_31 (by decide) ?_
  refine xr_newa (atype := .int) (ty := .int) (q := sh.length) (N := 6) (sh' := (sx_X4_init_1 sh)) 0 S G rfl hsh rfl rfl rfl rfl kw_73 (by decide) (by decide) (Nat.le_of_ble_eq_true rfl) (Nat.le_of_ble_eq_true rfl) (Nat.le_of_ble_eq_true rfl) dX4_init_33 (fun H G => ?_)
  obtain ⟨d6, hd6, hf⟩ := x_ob hf
  refine xr_putRF (ci := 4) (k := 5) S (hin rfl) G hd6 rfl rfl kw_327 dX4_init_35 (fun H locs G => ?_)
  refine lv_aload_n hx hb dX4_init_38 rfl (lv_at hl 0 rfl) ?_
  refine lv_bipush (v := (6 : Int32)) hx hb dX4_init_39 (by decide) ?_
  refine xr_newa (atype := .int) (ty := .int) (q := (sh.length + 1)) (N := 6) (sh' := (sx_X4_init_2 sh)) 0 S G (sx_X4_init_1_len sh) (by rw [sx_X4_init_1_len]; omega) rfl rfl (sx_X4_init_1_len sh) rfl kw_73 (by decide) (by decide) (Nat.le_of_ble_eq_true rfl) (Nat.le_of_ble_eq_true rfl) (Nat.le_of_ble_eq_true rfl) dX4_init_41 (fun H G => ?_)
  obtain ⟨d7, hd7, hf⟩ := x_ob hf
  refine xr_putRF (ci := 4) (k := 6) S (hin rfl) G hd7 rfl rfl kw_330 dX4_init_43 (fun H locs G => ?_)
  refine lv_aload_n hx hb dX4_init_46 rfl (lv_at hl 0 rfl) ?_
  refine lv_bipush (v := (6 : Int32)) hx hb dX4_init_47 (by decide) ?_
  refine xr_newa (atype := .int) (ty := .int) (q := (sh.length + 2)) (N := 6) (sh' := (sx_X4_init_3 sh)) 0 S G (sx_X4_init_2_len sh) (by rw [sx_X4_init_2_len]; omega) rfl rfl (sx_X4_init_2_len sh) rfl kw_73 (by decide) (by decide) (Nat.le_of_ble_eq_true rfl) (Nat.le_of_ble_eq_true rfl) (Nat.le_of_ble_eq_true rfl) dX4_init_49 (fun H G => ?_)
  obtain ⟨d8, hd8, hf⟩ := x_ob hf
  refine xr_putRF (ci := 4) (k := 7) S (hin rfl) G hd8 rfl rfl kw_333 dX4_init_51 (fun H locs G => ?_)
  refine lv_aload_n hx hb dX4_init_54 rfl (lv_at hl 0 rfl) ?_
  refine lv_bipush (v := (6 : Int32)) hx hb dX4_init_55 (by decide) ?_
  refine xr_newa (atype := .int) (ty := .int) (q := (sh.length + 3)) (N := 6) (sh' := (sx_X4_init_4 sh)) 0 S G (sx_X4_init_3_len sh) (by rw [sx_X4_init_3_len]; omega) rfl rfl (sx_X4_init_3_len sh) rfl kw_73 (by decide) (by decide) (Nat.le_of_ble_eq_true rfl) (Nat.le_of_ble_eq_true rfl) (Nat.le_of_ble_eq_true rfl) dX4_init_57 (fun H G => ?_)
  obtain ⟨d9, hd9, hf⟩ := x_ob hf
  refine xr_putRF (ci := 4) (k := 8) S (hin rfl) G hd9 rfl rfl kw_336 dX4_init_59 (fun H locs G => ?_)
  refine lv_aload_n hx hb dX4_init_62 rfl (lv_at hl 0 rfl) ?_
  refine lv_bipush (v := (6 : Int32)) hx hb dX4_init_63 (by decide) ?_
  refine xr_newa (atype := .int) (ty := .int) (q := (sh.length + 4)) (N := 6) (sh' := (sx_X4_init_5 sh)) 0 S G (sx_X4_init_4_len sh) (by rw [sx_X4_init_4_len]; omega) rfl rfl (sx_X4_init_4_len sh) rfl kw_73 (by decide) (by decide) (Nat.le_of_ble_eq_true rfl) (Nat.le_of_ble_eq_true rfl) (Nat.le_of_ble_eq_true rfl) dX4_init_65 (fun H G => ?_)
  obtain ⟨d10, hd10, hf⟩ := x_ob hf
  refine xr_putRF (ci := 4) (k := 9) S (hin rfl) G hd10 rfl rfl kw_339 dX4_init_67 (fun H locs G => ?_)
  refine lv_aload_n hx hb dX4_init_70 rfl (lv_at hl 0 rfl) ?_
  refine lv_bipush (v := (6 : Int32)) hx hb dX4_init_71 (by decide) ?_
  refine xr_newa (atype := .int) (ty := .int) (q := (sh.length + 5)) (N := 6) (sh' := (sx_X4_init_6 sh)) 0 S G (sx_X4_init_5_len sh) (by rw [sx_X4_init_5_len]; omega) rfl rfl (sx_X4_init_5_len sh) rfl kw_73 (by decide) (by decide) (Nat.le_of_ble_eq_true rfl) (Nat.le_of_ble_eq_true rfl) (Nat.le_of_ble_eq_true rfl) dX4_init_73 (fun H G => ?_)
  obtain ⟨d11, hd11, hf⟩ := x_ob hf
  refine xr_putRF (ci := 4) (k := 10) S (hin rfl) G hd11 rfl rfl kw_342 dX4_init_75 (fun H locs G => ?_)
  refine lv_aload_n hx hb dX4_init_78 rfl (lv_at hl 0 rfl) ?_
  refine lv_bipush (v := (6 : Int32)) hx hb dX4_init_79 (by decide) ?_
  refine xr_newa (atype := .int) (ty := .int) (q := (sh.length + 6)) (N := 6) (sh' := (sx_X4_init_7 sh)) 0 S G (sx_X4_init_6_len sh) (by rw [sx_X4_init_6_len]; omega) rfl rfl (sx_X4_init_6_len sh) rfl kw_73 (by decide) (by decide) (Nat.le_of_ble_eq_true rfl) (Nat.le_of_ble_eq_true rfl) (Nat.le_of_ble_eq_true rfl) dX4_init_81 (fun H G => ?_)
  obtain ⟨d12, hd12, hf⟩ := x_ob hf
  refine xr_putRF (ci := 4) (k := 11) S (hin rfl) G hd12 rfl rfl kw_345 dX4_init_83 (fun H locs G => ?_)
  refine lv_aload_n hx hb dX4_init_86 rfl (lv_at hl 0 rfl) ?_
  refine lv_bipush (v := (8 : Int32)) hx hb dX4_init_87 (by decide) ?_
  refine xr_newa (atype := .int) (ty := .int) (q := (sh.length + 7)) (N := 8) (sh' := (sx_X4_init_8 sh)) 0 S G (sx_X4_init_7_len sh) (by rw [sx_X4_init_7_len]; omega) rfl rfl (sx_X4_init_7_len sh) rfl kw_73 (by decide) (by decide) (Nat.le_of_ble_eq_true rfl) (Nat.le_of_ble_eq_true rfl) (Nat.le_of_ble_eq_true rfl) dX4_init_89 (fun H G => ?_)
  obtain ⟨d13, hd13, hf⟩ := x_ob hf
  refine xr_putRF (ci := 4) (k := 12) S (hin rfl) G hd13 rfl rfl kw_348 dX4_init_91 (fun H locs G => ?_)
  refine lv_aload_n hx hb dX4_init_94 rfl (lv_at hl 0 rfl) ?_
  refine lv_bipush (v := (8 : Int32)) hx hb dX4_init_95 (by decide) ?_
  refine xr_newa (atype := .int) (ty := .int) (q := (sh.length + 8)) (N := 8) (sh' := (sx_X4_init_9 sh)) 0 S G (sx_X4_init_8_len sh) (by rw [sx_X4_init_8_len]; omega) rfl rfl (sx_X4_init_8_len sh) rfl kw_73 (by decide) (by decide) (Nat.le_of_ble_eq_true rfl) (Nat.le_of_ble_eq_true rfl) (Nat.le_of_ble_eq_true rfl) dX4_init_97 (fun H G => ?_)
  obtain ⟨d14, hd14, hf⟩ := x_ob hf
  refine xr_putRF (ci := 4) (k := 13) S (hin rfl) G hd14 rfl rfl kw_350 dX4_init_99 (fun H locs G => ?_)
  refine lv_aload_n hx hb dX4_init_102 rfl (lv_at hl 0 rfl) ?_
  refine lv_iconst (v := (0 : Int32)) hx hb dX4_init_103 (by decide) ?_
  obtain ⟨d15, hd15, hf⟩ := x_ob hf
  refine xr_putI (ci := 4) (k := 14) S G hd15 rfl kw_353 dX4_init_104 (fun H locs G => ?_)
  refine lv_aload_n hx hb dX4_init_107 rfl (lv_at hl 0 rfl) ?_
  refine lv_bipush (v := (13 : Int32)) hx hb dX4_init_108 (by decide) ?_
  refine xr_newa (atype := .int) (ty := .int) (q := (sh.length + 9)) (N := 13) (sh' := (sx_X4_init_10 sh)) 0 S G (sx_X4_init_9_len sh) (by rw [sx_X4_init_9_len]; omega) rfl rfl (sx_X4_init_9_len sh) rfl kw_73 (by decide) (by decide) (Nat.le_of_ble_eq_true rfl) (Nat.le_of_ble_eq_true rfl) (Nat.le_of_ble_eq_true rfl) dX4_init_110 (fun H G => ?_)
  obtain ⟨d16, hd16, hf⟩ := x_ob hf
  refine xr_putRF (ci := 4) (k := 15) S (hin rfl) G hd16 rfl rfl kw_355 dX4_init_112 (fun H locs G => ?_)
  refine lv_aload_n hx hb dX4_init_115 rfl (lv_at hl 0 rfl) ?_
  refine lv_bipush (v := (13 : Int32)) hx hb dX4_init_116 (by decide) ?_
  refine xr_newa (atype := .int) (ty := .int) (q := (sh.length + 10)) (N := 13) (sh' := (sx_X4_init_11 sh)) 0 S G (sx_X4_init_10_len sh) (by rw [sx_X4_init_10_len]; omega) rfl rfl (sx_X4_init_10_len sh) rfl kw_73 (by decide) (by decide) (Nat.le_of_ble_eq_true rfl) (Nat.le_of_ble_eq_true rfl) (Nat.le_of_ble_eq_true rfl) dX4_init_118 (fun H G => ?_)
  obtain ⟨d17, hd17, hf⟩ := x_ob hf
  refine xr_putRF (ci := 4) (k := 16) S (hin rfl) G hd17 rfl rfl kw_357 dX4_init_120 (fun H locs G => ?_)
  refine lv_aload_n hx hb dX4_init_123 rfl (lv_at hl 0 rfl) ?_
  refine lv_bipush (v := (13 : Int32)) hx hb dX4_init_124 (by decide) ?_
  refine xr_newa (atype := .int) (ty := .int) (q := (sh.length + 11)) (N := 13) (sh' := (sx_X4_init_12 sh)) 0 S G (sx_X4_init_11_len sh) (by rw [sx_X4_init_11_len]; omega) rfl rfl (sx_X4_init_11_len sh) rfl kw_73 (by decide) (by decide) (Nat.le_of_ble_eq_true rfl) (Nat.le_of_ble_eq_true rfl) (Nat.le_of_ble_eq_true rfl) dX4_init_126 (fun H G => ?_)
  obtain ⟨d18, hd18, hf⟩ := x_ob hf
  refine xr_putRF (ci := 4) (k := 17) S (hin rfl) G hd18 rfl rfl kw_359 dX4_init_128 (fun H locs G => ?_)
  refine lv_aload_n hx hb dX4_init_131 rfl (lv_at hl 0 rfl) ?_
  refine lv_bipush (v := (13 : Int32)) hx hb dX4_init_132 (by decide) ?_
  refine xr_newa (atype := .int) (ty := .int) (q := (sh.length + 12)) (N := 13) (sh' := (sx_X4_init_13 sh)) 0 S G (sx_X4_init_12_len sh) (by rw [sx_X4_init_12_len]; omega) rfl rfl (sx_X4_init_12_len sh) rfl kw_73 (by decide) (by decide) (Nat.le_of_ble_eq_true rfl) (Nat.le_of_ble_eq_true rfl) (Nat.le_of_ble_eq_true rfl) dX4_init_134 (fun H G => ?_)
  obtain ⟨d19, hd19, hf⟩ := x_ob hf
  refine xr_putRF (ci := 4) (k := 18) S (hin rfl) G hd19 rfl rfl kw_362 dX4_init_136 (fun H locs G => ?_)
  cases hf
  exact xr_vret S G (fun _ => sx_X4_init_13_len sh) hr dX4_init_139
-- HalfLandings$Plan.<init>()V
theorem dX3_init_0 : decode cX3_init 0 = .ok (.aload_n 0, 1) := by decide +kernel
theorem dX3_init_1 : decode cX3_init 1 = .ok (.invokespecial 3, 3) := by decide +kernel
theorem dX3_init_4 : decode cX3_init 4 = .ok (.aload_n 0, 1) := by decide +kernel
theorem dX3_init_5 : decode cX3_init 5 = .ok (.bipush 20, 2) := by decide +kernel
theorem dX3_init_7 : decode cX3_init 7 = .ok (.putfield 9, 3) := by decide +kernel
theorem dX3_init_10 : decode cX3_init 10 = .ok (.aload_n 0, 1) := by decide +kernel
theorem dX3_init_11 : decode cX3_init 11 = .ok (.bipush (-2), 2) := by decide +kernel
theorem dX3_init_13 : decode cX3_init 13 = .ok (.putfield 15, 3) := by decide +kernel
theorem dX3_init_16 : decode cX3_init 16 = .ok (.aload_n 0, 1) := by decide +kernel
theorem dX3_init_17 : decode cX3_init 17 = .ok (.iconst 0, 1) := by decide +kernel
theorem dX3_init_18 : decode cX3_init 18 = .ok (.putfield 18, 3) := by decide +kernel
theorem dX3_init_21 : decode cX3_init 21 = .ok (.aload_n 0, 1) := by decide +kernel
theorem dX3_init_22 : decode cX3_init 22 = .ok (.iconst 0, 1) := by decide +kernel
theorem dX3_init_23 : decode cX3_init 23 = .ok (.putfield 21, 3) := by decide +kernel
theorem dX3_init_26 : decode cX3_init 26 = .ok (.aload_n 0, 1) := by decide +kernel
theorem dX3_init_27 : decode cX3_init 27 = .ok (.iconst 0, 1) := by decide +kernel
theorem dX3_init_28 : decode cX3_init 28 = .ok (.putfield 24, 3) := by decide +kernel
theorem dX3_init_31 : decode cX3_init 31 = .ok (.aload_n 0, 1) := by decide +kernel
theorem dX3_init_32 : decode cX3_init 32 = .ok (.bipush 8, 2) := by decide +kernel
theorem dX3_init_34 : decode cX3_init 34 = .ok (.newarray .int, 2) := by decide +kernel
theorem dX3_init_36 : decode cX3_init 36 = .ok (.putfield 27, 3) := by decide +kernel
theorem dX3_init_39 : decode cX3_init 39 = .ok (.aload_n 0, 1) := by decide +kernel
theorem dX3_init_40 : decode cX3_init 40 = .ok (.bipush 8, 2) := by decide +kernel
theorem dX3_init_42 : decode cX3_init 42 = .ok (.newarray .int, 2) := by decide +kernel
theorem dX3_init_44 : decode cX3_init 44 = .ok (.putfield 31, 3) := by decide +kernel
theorem dX3_init_47 : decode cX3_init 47 = .ok (.aload_n 0, 1) := by decide +kernel
theorem dX3_init_48 : decode cX3_init 48 = .ok (.bipush 8, 2) := by decide +kernel
theorem dX3_init_50 : decode cX3_init 50 = .ok (.newarray .int, 2) := by decide +kernel
theorem dX3_init_52 : decode cX3_init 52 = .ok (.putfield 34, 3) := by decide +kernel
theorem dX3_init_55 : decode cX3_init 55 = .ok (.aload_n 0, 1) := by decide +kernel
theorem dX3_init_56 : decode cX3_init 56 = .ok (.bipush 61, 2) := by decide +kernel
theorem dX3_init_58 : decode cX3_init 58 = .ok (.newarray .int, 2) := by decide +kernel
theorem dX3_init_60 : decode cX3_init 60 = .ok (.putfield 37, 3) := by decide +kernel
theorem dX3_init_63 : decode cX3_init 63 = .ok (.aload_n 0, 1) := by decide +kernel
theorem dX3_init_64 : decode cX3_init 64 = .ok (.iconst 0, 1) := by decide +kernel
theorem dX3_init_65 : decode cX3_init 65 = .ok (.putfield 40, 3) := by decide +kernel
theorem dX3_init_68 : decode cX3_init 68 = .ok (.aload_n 0, 1) := by decide +kernel
theorem dX3_init_69 : decode cX3_init 69 = .ok (.bipush 6, 2) := by decide +kernel
theorem dX3_init_71 : decode cX3_init 71 = .ok (.newarray .int, 2) := by decide +kernel
theorem dX3_init_73 : decode cX3_init 73 = .ok (.putfield 43, 3) := by decide +kernel
theorem dX3_init_76 : decode cX3_init 76 = .ok (.aload_n 0, 1) := by decide +kernel
theorem dX3_init_77 : decode cX3_init 77 = .ok (.bipush 6, 2) := by decide +kernel
theorem dX3_init_79 : decode cX3_init 79 = .ok (.newarray .int, 2) := by decide +kernel
theorem dX3_init_81 : decode cX3_init 81 = .ok (.putfield 46, 3) := by decide +kernel
theorem dX3_init_84 : decode cX3_init 84 = .ok (.aload_n 0, 1) := by decide +kernel
theorem dX3_init_85 : decode cX3_init 85 = .ok (.bipush 6, 2) := by decide +kernel
theorem dX3_init_87 : decode cX3_init 87 = .ok (.newarray .int, 2) := by decide +kernel
theorem dX3_init_89 : decode cX3_init 89 = .ok (.putfield 49, 3) := by decide +kernel
theorem dX3_init_92 : decode cX3_init 92 = .ok (.aload_n 0, 1) := by decide +kernel
theorem dX3_init_93 : decode cX3_init 93 = .ok (.bipush 6, 2) := by decide +kernel
theorem dX3_init_95 : decode cX3_init 95 = .ok (.newarray .int, 2) := by decide +kernel
theorem dX3_init_97 : decode cX3_init 97 = .ok (.putfield 52, 3) := by decide +kernel
theorem dX3_init_100 : decode cX3_init 100 = .ok (.aload_n 0, 1) := by decide +kernel
theorem dX3_init_101 : decode cX3_init 101 = .ok (.bipush 6, 2) := by decide +kernel
theorem dX3_init_103 : decode cX3_init 103 = .ok (.newarray .int, 2) := by decide +kernel
theorem dX3_init_105 : decode cX3_init 105 = .ok (.putfield 55, 3) := by decide +kernel
theorem dX3_init_108 : decode cX3_init 108 = .ok (.aload_n 0, 1) := by decide +kernel
theorem dX3_init_109 : decode cX3_init 109 = .ok (.iconst 0, 1) := by decide +kernel
theorem dX3_init_110 : decode cX3_init 110 = .ok (.putfield 58, 3) := by decide +kernel
theorem dX3_init_113 : decode cX3_init 113 = .ok (.aload_n 0, 1) := by decide +kernel
theorem dX3_init_114 : decode cX3_init 114 = .ok (.bipush 12, 2) := by decide +kernel
theorem dX3_init_116 : decode cX3_init 116 = .ok (.newarray .int, 2) := by decide +kernel
theorem dX3_init_118 : decode cX3_init 118 = .ok (.putfield 61, 3) := by decide +kernel
theorem dX3_init_121 : decode cX3_init 121 = .ok (.aload_n 0, 1) := by decide +kernel
theorem dX3_init_122 : decode cX3_init 122 = .ok (.bipush 12, 2) := by decide +kernel
theorem dX3_init_124 : decode cX3_init 124 = .ok (.newarray .int, 2) := by decide +kernel
theorem dX3_init_126 : decode cX3_init 126 = .ok (.putfield 64, 3) := by decide +kernel
theorem dX3_init_129 : decode cX3_init 129 = .ok (.aload_n 0, 1) := by decide +kernel
theorem dX3_init_130 : decode cX3_init 130 = .ok (.bipush 12, 2) := by decide +kernel
theorem dX3_init_132 : decode cX3_init 132 = .ok (.newarray .int, 2) := by decide +kernel
theorem dX3_init_134 : decode cX3_init 134 = .ok (.putfield 67, 3) := by decide +kernel
theorem dX3_init_137 : decode cX3_init 137 = .ok (.aload_n 0, 1) := by decide +kernel
theorem dX3_init_138 : decode cX3_init 138 = .ok (.new 70, 3) := by decide +kernel
theorem dX3_init_141 : decode cX3_init 141 = .ok (.dup, 1) := by decide +kernel
theorem dX3_init_142 : decode cX3_init 142 = .ok (.invokespecial 72, 3) := by decide +kernel
theorem dX3_init_145 : decode cX3_init 145 = .ok (.putfield 73, 3) := by decide +kernel
theorem dX3_init_148 : decode cX3_init 148 = .ok (.aload_n 0, 1) := by decide +kernel
theorem dX3_init_149 : decode cX3_init 149 = .ok (.getfield 37, 3) := by decide +kernel
theorem dX3_init_152 : decode cX3_init 152 = .ok (.iconst (-1), 1) := by decide +kernel
theorem dX3_init_153 : decode cX3_init 153 = .ok (.invokestatic 77, 3) := by decide +kernel
theorem dX3_init_156 : decode cX3_init 156 = .ok (.return_, 1) := by decide +kernel
theorem hd_X3_init : yX3_init.cls ≠ "java/lang/invoke/MethodHandle" ∧ yX3_init.cls ≠ "java/lang/invoke/VarHandle" ∧ (parseMethodDescriptor yX3_init.desc).map (fun d => d.parameters.length) = some 0 := by decide +kernel
def sx_X3_init_1 (sh : List xSh) : List xSh := sh ++ [.inr (.int, 8)]
theorem sx_X3_init_1_len (sh : List xSh) : (sx_X3_init_1 sh).length = sh.length + 1 := by
  unfold sx_X3_init_1
  rw [List.length_append]
  rfl
def sx_X3_init_2 (sh : List xSh) : List xSh := (sx_X3_init_1 sh) ++ [.inr (.int, 8)]
theorem sx_X3_init_2_len (sh : List xSh) : (sx_X3_init_2 sh).length = sh.length + 2 := by
  unfold sx_X3_init_2
  rw [List.length_append, sx_X3_init_1_len]
  rfl
def sx_X3_init_3 (sh : List xSh) : List xSh := (sx_X3_init_2 sh) ++ [.inr (.int, 8)]
theorem sx_X3_init_3_len (sh : List xSh) : (sx_X3_init_3 sh).length = sh.length + 3 := by
  unfold sx_X3_init_3
  rw [List.length_append, sx_X3_init_2_len]
  rfl
def sx_X3_init_4 (sh : List xSh) : List xSh := (sx_X3_init_3 sh) ++ [.inr (.int, 61)]
theorem sx_X3_init_4_len (sh : List xSh) : (sx_X3_init_4 sh).length = sh.length + 4 := by
  unfold sx_X3_init_4
  rw [List.length_append, sx_X3_init_3_len]
  rfl
def sx_X3_init_5 (sh : List xSh) : List xSh := (sx_X3_init_4 sh) ++ [.inr (.int, 6)]
theorem sx_X3_init_5_len (sh : List xSh) : (sx_X3_init_5 sh).length = sh.length + 5 := by
  unfold sx_X3_init_5
  rw [List.length_append, sx_X3_init_4_len]
  rfl
def sx_X3_init_6 (sh : List xSh) : List xSh := (sx_X3_init_5 sh) ++ [.inr (.int, 6)]
theorem sx_X3_init_6_len (sh : List xSh) : (sx_X3_init_6 sh).length = sh.length + 6 := by
  unfold sx_X3_init_6
  rw [List.length_append, sx_X3_init_5_len]
  rfl
def sx_X3_init_7 (sh : List xSh) : List xSh := (sx_X3_init_6 sh) ++ [.inr (.int, 6)]
theorem sx_X3_init_7_len (sh : List xSh) : (sx_X3_init_7 sh).length = sh.length + 7 := by
  unfold sx_X3_init_7
  rw [List.length_append, sx_X3_init_6_len]
  rfl
def sx_X3_init_8 (sh : List xSh) : List xSh := (sx_X3_init_7 sh) ++ [.inr (.int, 6)]
theorem sx_X3_init_8_len (sh : List xSh) : (sx_X3_init_8 sh).length = sh.length + 8 := by
  unfold sx_X3_init_8
  rw [List.length_append, sx_X3_init_7_len]
  rfl
def sx_X3_init_9 (sh : List xSh) : List xSh := (sx_X3_init_8 sh) ++ [.inr (.int, 6)]
theorem sx_X3_init_9_len (sh : List xSh) : (sx_X3_init_9 sh).length = sh.length + 9 := by
  unfold sx_X3_init_9
  rw [List.length_append, sx_X3_init_8_len]
  rfl
def sx_X3_init_10 (sh : List xSh) : List xSh := (sx_X3_init_9 sh) ++ [.inr (.int, 12)]
theorem sx_X3_init_10_len (sh : List xSh) : (sx_X3_init_10 sh).length = sh.length + 10 := by
  unfold sx_X3_init_10
  rw [List.length_append, sx_X3_init_9_len]
  rfl
def sx_X3_init_11 (sh : List xSh) : List xSh := (sx_X3_init_10 sh) ++ [.inr (.int, 12)]
theorem sx_X3_init_11_len (sh : List xSh) : (sx_X3_init_11 sh).length = sh.length + 11 := by
  unfold sx_X3_init_11
  rw [List.length_append, sx_X3_init_10_len]
  rfl
def sx_X3_init_12 (sh : List xSh) : List xSh := (sx_X3_init_11 sh) ++ [.inr (.int, 12)]
theorem sx_X3_init_12_len (sh : List xSh) : (sx_X3_init_12 sh).length = sh.length + 12 := by
  unfold sx_X3_init_12
  rw [List.length_append, sx_X3_init_11_len]
  rfl
def sx_X3_init_13 (sh : List xSh) : List xSh := (sx_X3_init_12 sh) ++ [.inl 1]
theorem sx_X3_init_13_len (sh : List xSh) : (sx_X3_init_13 sh).length = sh.length + 13 := by
  unfold sx_X3_init_13
  rw [List.length_append, sx_X3_init_12_len]
  rfl
def sx_X3_init_18 (sh : List xSh) : List xSh := sx_X1_init_5 (sx_X3_init_13 sh)
theorem sx_X3_init_18_len (sh : List xSh) : (sx_X3_init_18 sh).length = sh.length + 18 := by
  unfold sx_X3_init_18
  rw [sx_X1_init_5_len, sx_X3_init_13_len]
def f_X3_init (sh : List xSh) (q0 : Nat) (d : xD) : Option xD :=
  (xpI 3 sh d q0 0 (20 : Int32)).bind fun d1 => (xpI 3 sh d1 q0 1 (-2 : Int32)).bind fun d2 => (xpI 3 sh d2 q0 2 (0 : Int32)).bind fun d3 => (xpI 3 sh d3 q0 3 (0 : Int32)).bind fun d4 => (xpI 3 sh d4 q0 4 (0 : Int32)).bind fun d5 => (xpR 3 (sx_X3_init_1 sh) (xnw d5 sh.length) q0 5 sh.length).bind fun d6 => (xpR 3 (sx_X3_init_2 sh) (xnw d6 (sh.length + 1)) q0 6 (sh.length + 1)).bind fun d7 => (xpR 3 (sx_X3_init_3 sh) (xnw d7 (sh.length + 2)) q0 7 (sh.length + 2)).bind fun d8 => (xpR 3 (sx_X3_init_4 sh) (xnw d8 (sh.length + 3)) q0 8 (sh.length + 3)).bind fun d9 => (xpI 3 (sx_X3_init_4 sh) d9 q0 9 (0 : Int32)).bind fun d10 => (xpR 3 (sx_X3_init_5 sh) (xnw d10 (sh.length + 4)) q0 10 (sh.length + 4)).bind fun d11 => (xpR 3 (sx_X3_init_6 sh) (xnw d11 (sh.length + 5)) q0 11 (sh.length + 5)).bind fun d12 => (xpR 3 (sx_X3_init_7 sh) (xnw d12 (sh.length + 6)) q0 12 (sh.length + 6)).bind fun d13 => (xpR 3 (sx_X3_init_8 sh) (xnw d13 (sh.length + 7)) q0 13 (sh.length + 7)).bind fun d14 => (xpR 3 (sx_X3_init_9 sh) (xnw d14 (sh.length + 8)) q0 14 (sh.length + 8)).bind fun d15 => (xpI 3 (sx_X3_init_9 sh) d15 q0 15 (0 : Int32)).bind fun d16 => (xpR 3 (sx_X3_init_10 sh) (xnw d16 (sh.length + 9)) q0 16 (sh.length + 9)).bind fun d17 => (xpR 3 (sx_X3_init_11 sh) (xnw d17 (sh.length + 10)) q0 17 (sh.length + 10)).bind fun d18 => (xpR 3 (sx_X3_init_12 sh) (xnw d18 (sh.length + 11)) q0 18 (sh.length + 11)).bind fun d19 => (f_X1_init (sx_X3_init_13 sh) (sh.length + 12) (xnw d19 (sh.length + 12))).bind fun d20 => (xpR 3 (sx_X3_init_18 sh) d20 q0 19 (sh.length + 12)).bind fun d21 => (xgR 3 (sx_X3_init_18 sh) d21 q0 8).bind fun v22 => (f_J7_fill_53178 (sx_X3_init_18 sh) v22 (-1 : Int32) d21).bind fun d23 => some d23
set_option maxHeartbeats 4000000 in
set_option maxRecDepth 100000 in
theorem mt_X3_init (l : Launch) (D : va_G) (cid : FieldType → ClassId) (b : Nat) (sa sv B0 : Nat) (sh : List xSh) (hsh : 0 < sh.length) (shz : List xSh) (hshz : (sx_X3_init_18 sh) = shz) (q0 : Nat) (d : xD) (dz : xD) (hf : f_X3_init sh q0 d = some dz) : xMet l yX3_init cX3_init 1 none 2 18 357 D cid b true sa sv B0 [.ref (b + q0)] sh d none shz dz := by
  subst hshz
  refine xMet.of (by decide) (Nat.le_of_ble_eq_true rfl) ?_
  intro p e s m below meth c ls A S hr hin G hl
  have hl : lv_has ls 1 [(0, .ref (b + q0))] := hl
  generalize ([.ref (b + q0)] : List Value).toArray = av at S ⊢
  have hx := S.1
  have hb := S.2.1
  have hml := S.2.2.1
  have hown := S.2.2.2.1
  have hts := S.2.2.2.2.1
  unfold f_X3_init at hf
  refine lv_aload_n hx hb dX3_init_0 rfl (lv_at hl 0 rfl) ?_
  refine W.objInit hx hb hown (hts _ kw_38) (hts _ kw_31) (hts _ kw_32) rfl (by rw [hml]; exact hl.1) rfl dX3_init_1 (Nat.le_of_ble_eq_true rfl) (Nat.le_of_ble_eq_true rfl) ?_
  refine W.eq (g2 := F0 m 4 ls []) rfl ?_
  refine lv_aload_n hx hb dX3_init_4 rfl (lv_at hl 0 rfl) ?_
  refine lv_bipush (v := (20 : Int32)) hx hb dX3_init_5 (by decide) ?_
  obtain ⟨d1, hd1, hf⟩ := x_ob hf
  refine xr_putI (ci := 3) (k := 0) S G hd1 rfl kw_78 dX3_init_7 (fun H locs G => ?_)
  refine lv_aload_n hx hb dX3_init_10 rfl (lv_at hl 0 rfl) ?_
  refine lv_bipush (v := (-2 : Int32)) hx hb dX3_init_11 (by decide) ?_
  obtain ⟨d2, hd2, hf⟩ := x_ob hf
  refine xr_putI (ci := 3) (k := 1) S G hd2 rfl kw_82 dX3_init_13 (fun H locs G => ?_)
  refine lv_aload_n hx hb dX3_init_16 rfl (lv_at hl 0 rfl) ?_
  refine lv_iconst (v := (0 : Int32)) hx hb dX3_init_17 (by decide) ?_
  obtain ⟨d3, hd3, hf⟩ := x_ob hf
  refine xr_putI (ci := 3) (k := 2) S G hd3 rfl kw_85 dX3_init_18 (fun H locs G => ?_)
  refine lv_aload_n hx hb dX3_init_21 rfl (lv_at hl 0 rfl) ?_
  refine lv_iconst (v := (0 : Int32)) hx hb dX3_init_22 (by decide) ?_
  obtain ⟨d4, hd4, hf⟩ := x_ob hf
  refine xr_putI (ci := 3) (k := 3) S G hd4 rfl kw_89 dX3_init_23 (fun H locs G => ?_)
  refine lv_aload_n hx hb dX3_init_26 rfl (lv_at hl 0 rfl) ?_
  refine lv_iconst (v := (0 : Int32)) hx hb dX3_init_27 (by decide) ?_
  obtain ⟨d5, hd5, hf⟩ := x_ob hf
  refine xr_putI (ci := 3) (k := 4) S G hd5 rfl kw_92 dX3_init_28 (fun H locs G => ?_)
  refine lv_aload_n hx hb dX3_init_31 rfl (lv_at hl 0 rfl) ?_
  refine lv_bipush (v := (8 : Int32)) hx hb dX3_init_32 (by decide) ?_
  refine xr_newa (atype := .int) (ty := .int) (q := sh.length) (N := 8) (sh' := (sx_X3_init_1 sh)) 0 S G rfl hsh rfl rfl rfl rfl kw_73 (by decide) (by decide) (Nat.le_of_ble_eq_true rfl) (Nat.le_of_ble_eq_true rfl) (Nat.le_of_ble_eq_true rfl) dX3_init_34 (fun H G => ?_)
  obtain ⟨d6, hd6, hf⟩ := x_ob hf
  refine xr_putRF (ci := 3) (k := 5) S (hin rfl) G hd6 rfl rfl kw_95 dX3_init_36 (fun H locs G => ?_)
  refine lv_aload_n hx hb dX3_init_39 rfl (lv_at hl 0 rfl) ?_
  refine lv_bipush (v := (8 : Int32)) hx hb dX3_init_40 (by decide) ?_
  refine xr_newa (atype := .int) (ty := .int) (q := (sh.length + 1)) (N := 8) (sh' := (sx_X3_init_2 sh)) 0 S G (sx_X3_init_1_len sh) (by rw [sx_X3_init_1_len]; omega) rfl rfl (sx_X3_init_1_len sh) rfl kw_73 (by decide) (by decide) (Nat.le_of_ble_eq_true rfl) (Nat.le_of_ble_eq_true rfl) (Nat.le_of_ble_eq_true rfl) dX3_init_42 (fun H G => ?_)
  obtain ⟨d7, hd7, hf⟩ := x_ob hf
  refine xr_putRF (ci := 3) (k := 6) S (hin rfl) G hd7 rfl rfl kw_96 dX3_init_44 (fun H locs G => ?_)
  refine lv_aload_n hx hb dX3_init_47 rfl (lv_at hl 0 rfl) ?_
  refine lv_bipush (v := (8 : Int32)) hx hb dX3_init_48 (by decide) ?_
  refine xr_newa (atype := .int) (ty := .int) (q := (sh.length + 2)) (N := 8) (sh' := (sx_X3_init_3 sh)) 0 S G (sx_X3_init_2_len sh) (by rw [sx_X3_init_2_len]; omega) rfl rfl (sx_X3_init_2_len sh) rfl kw_73 (by decide) (by decide) (Nat.le_of_ble_eq_true rfl) (Nat.le_of_ble_eq_true rfl) (Nat.le_of_ble_eq_true rfl) dX3_init_50 (fun H G => ?_)
  obtain ⟨d8, hd8, hf⟩ := x_ob hf
  refine xr_putRF (ci := 3) (k := 7) S (hin rfl) G hd8 rfl rfl kw_99 dX3_init_52 (fun H locs G => ?_)
  refine lv_aload_n hx hb dX3_init_55 rfl (lv_at hl 0 rfl) ?_
  refine lv_bipush (v := (61 : Int32)) hx hb dX3_init_56 (by decide) ?_
  refine xr_newa (atype := .int) (ty := .int) (q := (sh.length + 3)) (N := 61) (sh' := (sx_X3_init_4 sh)) 0 S G (sx_X3_init_3_len sh) (by rw [sx_X3_init_3_len]; omega) rfl rfl (sx_X3_init_3_len sh) rfl kw_73 (by decide) (by decide) (Nat.le_of_ble_eq_true rfl) (Nat.le_of_ble_eq_true rfl) (Nat.le_of_ble_eq_true rfl) dX3_init_58 (fun H G => ?_)
  obtain ⟨d9, hd9, hf⟩ := x_ob hf
  refine xr_putRF (ci := 3) (k := 8) S (hin rfl) G hd9 rfl rfl kw_101 dX3_init_60 (fun H locs G => ?_)
  refine lv_aload_n hx hb dX3_init_63 rfl (lv_at hl 0 rfl) ?_
  refine lv_iconst (v := (0 : Int32)) hx hb dX3_init_64 (by decide) ?_
  obtain ⟨d10, hd10, hf⟩ := x_ob hf
  refine xr_putI (ci := 3) (k := 9) S G hd10 rfl kw_102 dX3_init_65 (fun H locs G => ?_)
  refine lv_aload_n hx hb dX3_init_68 rfl (lv_at hl 0 rfl) ?_
  refine lv_bipush (v := (6 : Int32)) hx hb dX3_init_69 (by decide) ?_
  refine xr_newa (atype := .int) (ty := .int) (q := (sh.length + 4)) (N := 6) (sh' := (sx_X3_init_5 sh)) 0 S G (sx_X3_init_4_len sh) (by rw [sx_X3_init_4_len]; omega) rfl rfl (sx_X3_init_4_len sh) rfl kw_73 (by decide) (by decide) (Nat.le_of_ble_eq_true rfl) (Nat.le_of_ble_eq_true rfl) (Nat.le_of_ble_eq_true rfl) dX3_init_71 (fun H G => ?_)
  obtain ⟨d11, hd11, hf⟩ := x_ob hf
  refine xr_putRF (ci := 3) (k := 10) S (hin rfl) G hd11 rfl rfl kw_107 dX3_init_73 (fun H locs G => ?_)
  refine lv_aload_n hx hb dX3_init_76 rfl (lv_at hl 0 rfl) ?_
  refine lv_bipush (v := (6 : Int32)) hx hb dX3_init_77 (by decide) ?_
  refine xr_newa (atype := .int) (ty := .int) (q := (sh.length + 5)) (N := 6) (sh' := (sx_X3_init_6 sh)) 0 S G (sx_X3_init_5_len sh) (by rw [sx_X3_init_5_len]; omega) rfl rfl (sx_X3_init_5_len sh) rfl kw_73 (by decide) (by decide) (Nat.le_of_ble_eq_true rfl) (Nat.le_of_ble_eq_true rfl) (Nat.le_of_ble_eq_true rfl) dX3_init_79 (fun H G => ?_)
  obtain ⟨d12, hd12, hf⟩ := x_ob hf
  refine xr_putRF (ci := 3) (k := 11) S (hin rfl) G hd12 rfl rfl kw_108 dX3_init_81 (fun H locs G => ?_)
  refine lv_aload_n hx hb dX3_init_84 rfl (lv_at hl 0 rfl) ?_
  refine lv_bipush (v := (6 : Int32)) hx hb dX3_init_85 (by decide) ?_
  refine xr_newa (atype := .int) (ty := .int) (q := (sh.length + 6)) (N := 6) (sh' := (sx_X3_init_7 sh)) 0 S G (sx_X3_init_6_len sh) (by rw [sx_X3_init_6_len]; omega) rfl rfl (sx_X3_init_6_len sh) rfl kw_73 (by decide) (by decide) (Nat.le_of_ble_eq_true rfl) (Nat.le_of_ble_eq_true rfl) (Nat.le_of_ble_eq_true rfl) dX3_init_87 (fun H G => ?_)
  obtain ⟨d13, hd13, hf⟩ := x_ob hf
  refine xr_putRF (ci := 3) (k := 12) S (hin rfl) G hd13 rfl rfl kw_110 dX3_init_89 (fun H locs G => ?_)
  refine lv_aload_n hx hb dX3_init_92 rfl (lv_at hl 0 rfl) ?_
  refine lv_bipush (v := (6 : Int32)) hx hb dX3_init_93 (by decide) ?_
  refine xr_newa (atype := .int) (ty := .int) (q := (sh.length + 7)) (N := 6) (sh' := (sx_X3_init_8 sh)) 0 S G (sx_X3_init_7_len sh) (by rw [sx_X3_init_7_len]; omega) rfl rfl (sx_X3_init_7_len sh) rfl kw_73 (by decide) (by decide) (Nat.le_of_ble_eq_true rfl) (Nat.le_of_ble_eq_true rfl) (Nat.le_of_ble_eq_true rfl) dX3_init_95 (fun H G => ?_)
  obtain ⟨d14, hd14, hf⟩ := x_ob hf
  refine xr_putRF (ci := 3) (k := 13) S (hin rfl) G hd14 rfl rfl kw_112 dX3_init_97 (fun H locs G => ?_)
  refine lv_aload_n hx hb dX3_init_100 rfl (lv_at hl 0 rfl) ?_
  refine lv_bipush (v := (6 : Int32)) hx hb dX3_init_101 (by decide) ?_
  refine xr_newa (atype := .int) (ty := .int) (q := (sh.length + 8)) (N := 6) (sh' := (sx_X3_init_9 sh)) 0 S G (sx_X3_init_8_len sh) (by rw [sx_X3_init_8_len]; omega) rfl rfl (sx_X3_init_8_len sh) rfl kw_73 (by decide) (by decide) (Nat.le_of_ble_eq_true rfl) (Nat.le_of_ble_eq_true rfl) (Nat.le_of_ble_eq_true rfl) dX3_init_103 (fun H G => ?_)
  obtain ⟨d15, hd15, hf⟩ := x_ob hf
  refine xr_putRF (ci := 3) (k := 14) S (hin rfl) G hd15 rfl rfl kw_114 dX3_init_105 (fun H locs G => ?_)
  refine lv_aload_n hx hb dX3_init_108 rfl (lv_at hl 0 rfl) ?_
  refine lv_iconst (v := (0 : Int32)) hx hb dX3_init_109 (by decide) ?_
  obtain ⟨d16, hd16, hf⟩ := x_ob hf
  refine xr_putI (ci := 3) (k := 15) S G hd16 rfl kw_116 dX3_init_110 (fun H locs G => ?_)
  refine lv_aload_n hx hb dX3_init_113 rfl (lv_at hl 0 rfl) ?_
  refine lv_bipush (v := (12 : Int32)) hx hb dX3_init_114 (by decide) ?_
  refine xr_newa (atype := .int) (ty := .int) (q := (sh.length + 9)) (N := 12) (sh' := (sx_X3_init_10 sh)) 0 S G (sx_X3_init_9_len sh) (by rw [sx_X3_init_9_len]; omega) rfl rfl (sx_X3_init_9_len sh) rfl kw_73 (by decide) (by decide) (Nat.le_of_ble_eq_true rfl) (Nat.le_of_ble_eq_true rfl) (Nat.le_of_ble_eq_true rfl) dX3_init_116 (fun H G => ?_)
  obtain ⟨d17, hd17, hf⟩ := x_ob hf
  refine xr_putRF (ci := 3) (k := 16) S (hin rfl) G hd17 rfl rfl kw_120 dX3_init_118 (fun H locs G => ?_)
  refine lv_aload_n hx hb dX3_init_121 rfl (lv_at hl 0 rfl) ?_
  refine lv_bipush (v := (12 : Int32)) hx hb dX3_init_122 (by decide) ?_
  refine xr_newa (atype := .int) (ty := .int) (q := (sh.length + 10)) (N := 12) (sh' := (sx_X3_init_11 sh)) 0 S G (sx_X3_init_10_len sh) (by rw [sx_X3_init_10_len]; omega) rfl rfl (sx_X3_init_10_len sh) rfl kw_73 (by decide) (by decide) (Nat.le_of_ble_eq_true rfl) (Nat.le_of_ble_eq_true rfl) (Nat.le_of_ble_eq_true rfl) dX3_init_124 (fun H G => ?_)
  obtain ⟨d18, hd18, hf⟩ := x_ob hf
  refine xr_putRF (ci := 3) (k := 17) S (hin rfl) G hd18 rfl rfl kw_122 dX3_init_126 (fun H locs G => ?_)
  refine lv_aload_n hx hb dX3_init_129 rfl (lv_at hl 0 rfl) ?_
  refine lv_bipush (v := (12 : Int32)) hx hb dX3_init_130 (by decide) ?_
  refine xr_newa (atype := .int) (ty := .int) (q := (sh.length + 11)) (N := 12) (sh' := (sx_X3_init_12 sh)) 0 S G (sx_X3_init_11_len sh) (by rw [sx_X3_init_11_len]; omega) rfl rfl (sx_X3_init_11_len sh) rfl kw_73 (by decide) (by decide) (Nat.le_of_ble_eq_true rfl) (Nat.le_of_ble_eq_true rfl) (Nat.le_of_ble_eq_true rfl) dX3_init_132 (fun H G => ?_)
  obtain ⟨d19, hd19, hf⟩ := x_ob hf
  refine xr_putRF (ci := 3) (k := 18) S (hin rfl) G hd19 rfl rfl kw_124 dX3_init_134 (fun H locs G => ?_)
  refine lv_aload_n hx hb dX3_init_137 rfl (lv_at hl 0 rfl) ?_
  refine xr_new (ci := 1) (q := (sh.length + 12)) (sh' := (sx_X3_init_13 sh)) S G (sx_X3_init_12_len sh) (by rw [sx_X3_init_12_len]; omega) (by decide) (sx_X3_init_12_len sh) rfl kw_39 kw_40 kw_3 (Nat.le_of_ble_eq_true rfl) (Nat.le_of_ble_eq_true rfl) dX3_init_138 (fun H G => ?_)
  refine lv_dup hx hb dX3_init_141 rfl ?_
  obtain ⟨d20, hd20, hf⟩ := x_ob hf
  refine xr_callIN (As := []) (rest := [.ref (b + (sh.length + 12)), .ref (b + q0)]) (st1 := [.ref (b + (sh.length + 12)), .ref (b + q0)]) (sh' := (sx_X3_init_18 sh)) S G hl.1 (fun _ => sx_X3_init_13_len sh) (mt_X1_init l D cid b sa sv B0 (sx_X3_init_13 sh) (by rw [sx_X3_init_13_len]; omega) (sx_X3_init_18 sh) rfl (sh.length + 12) (xnw d19 (sh.length + 12)) _ hd20) (xS_nest41 S) kw_42 kw_3 kw_43 rfl hd_X1_init ⟨Nat.le_of_ble_eq_true rfl, Nat.le_of_ble_eq_true rfl⟩ rfl rfl rfl (Nat.le_of_ble_eq_true rfl) ⟨Nat.le_of_ble_eq_true rfl, Nat.le_of_ble_eq_true rfl⟩ dX3_init_142 (fun H locs G => ?_)
  obtain ⟨d21, hd21, hf⟩ := x_ob hf
  refine xr_putRF (ci := 3) (k := 19) S (hin rfl) G hd21 rfl rfl kw_126 dX3_init_145 (fun H locs G => ?_)
  refine lv_aload_n hx hb dX3_init_148 rfl (lv_at hl 0 rfl) ?_
  obtain ⟨v22, hv22, hf⟩ := x_ob hf
  refine xr_getR (ci := 3) (k := 8) S G hv22 rfl kw_101 dX3_init_149 ?_
  refine lv_iconst (v := (-1 : Int32)) hx hb dX3_init_152 (by decide) ?_
  obtain ⟨d23, hd23, hf⟩ := x_ob hf
  refine xr_callS (As := [.ref (b + v22), .int (-1 : Int32)]) (rest := []) (st1 := []) S G hl.1 (fun _ => sx_X3_init_18_len sh) (mt_J7_fill_53178 l D cid b true sa sv B0 (sx_X3_init_18 sh) v22 (-1 : Int32) d21 _ hd23) kw_75 kw_76 kw_4 kw_77 hd_J7_fill_53178 ⟨Nat.le_of_ble_eq_true rfl, Nat.le_of_ble_eq_true rfl⟩ rfl rfl rfl (Nat.le_of_ble_eq_true rfl) ⟨Nat.le_of_ble_eq_true rfl, Nat.le_of_ble_eq_true rfl⟩ dX3_init_153 (fun H locs G => ?_)
  cases hf
  exact xr_vret S G (fun _ => sx_X3_init_18_len sh) hr dX3_init_156

-- HalfLandings$Undone.<init>()V
theorem dX8_init_0 : decode cX8_init 0 = .ok (.aload_n 0, 1) := by decide +kernel
theorem dX8_init_1 : decode cX8_init 1 = .ok (.invokespecial 3, 3) := by decide +kernel
theorem dX8_init_4 : decode cX8_init 4 = .ok (.aload_n 0, 1) := by decide +kernel
theorem dX8_init_5 : decode cX8_init 5 = .ok (.iconst 0, 1) := by decide +kernel
theorem dX8_init_6 : decode cX8_init 6 = .ok (.putfield 9, 3) := by decide +kernel
theorem dX8_init_9 : decode cX8_init 9 = .ok (.aload_n 0, 1) := by decide +kernel
theorem dX8_init_10 : decode cX8_init 10 = .ok (.bipush 20, 2) := by decide +kernel
theorem dX8_init_12 : decode cX8_init 12 = .ok (.newarray .int, 2) := by decide +kernel
theorem dX8_init_14 : decode cX8_init 14 = .ok (.putfield 15, 3) := by decide +kernel
theorem dX8_init_17 : decode cX8_init 17 = .ok (.aload_n 0, 1) := by decide +kernel
theorem dX8_init_18 : decode cX8_init 18 = .ok (.bipush 20, 2) := by decide +kernel
theorem dX8_init_20 : decode cX8_init 20 = .ok (.newarray .int, 2) := by decide +kernel
theorem dX8_init_22 : decode cX8_init 22 = .ok (.putfield 19, 3) := by decide +kernel
theorem dX8_init_25 : decode cX8_init 25 = .ok (.return_, 1) := by decide +kernel
theorem hd_X8_init : yX8_init.cls ≠ "java/lang/invoke/MethodHandle" ∧ yX8_init.cls ≠ "java/lang/invoke/VarHandle" ∧ (parseMethodDescriptor yX8_init.desc).map (fun d => d.parameters.length) = some 0 := by decide +kernel
def f_X8_init (sh : List xSh) (q0 : Nat) (d : xD) : Option xD :=
  (xpI 8 sh d q0 0 (0 : Int32)).bind fun d1 => (xpR 8 (sh ++ [.inr (.int, 20)]) (xnw d1 sh.length) q0 1 sh.length).bind fun d2 => (xpR 8 (sh ++ [.inr (.int, 20), .inr (.int, 20)]) (xnw d2 (sh.length + 1)) q0 2 (sh.length + 1)).bind fun d3 => some d3
set_option maxHeartbeats 4000000 in
set_option maxRecDepth 100000 in
theorem mt_X8_init (l : Launch) (D : va_G) (cid : FieldType → ClassId) (b : Nat) (sa sv B0 : Nat) (sh : List xSh) (hsh : 0 < sh.length) (shz : List xSh) (hshz : (sh ++ [.inr (.int, 20), .inr (.int, 20)]) = shz) (q0 : Nat) (d : xD) (dz : xD) (hf : f_X8_init sh q0 d = some dz) : xMet l yX8_init cX8_init 1 none 1 2 40 D cid b true sa sv B0 [.ref (b + q0)] sh d none shz dz := by
  subst hshz
  refine xMet.of (by decide) (Nat.le_of_ble_eq_true rfl) ?_
  intro p e s m below meth c ls A S hr hin G hl
  have hl : lv_has ls 1 [(0, .ref (b + q0))] := hl
  generalize ([.ref (b + q0)] : List Value).toArray = av at S ⊢
  have hx := S.1
  have hb := S.2.1
  have hml := S.2.2.1
  have hown := S.2.2.2.1
  have hts := S.2.2.2.2.1
  unfold f_X8_init at hf
  refine lv_aload_n hx hb dX8_init_0 rfl (lv_at hl 0 rfl) ?_
  refine W.objInit hx hb hown (hts _ kw_423) (hts _ kw_31) (hts _ kw_32) rfl (by rw [hml]; exact hl.1) rfl dX8_init_1 (Nat.le_of_ble_eq_true rfl) (Nat.le_of_ble_eq_true rfl) ?_
  refine W.eq (g2 := F0 m 4 ls []) rfl ?_
  refine lv_aload_n hx hb dX8_init_4 rfl (lv_at hl 0 rfl) ?_
  refine lv_iconst (v := (0 : Int32)) hx hb dX8_init_5 (by decide) ?_
  obtain ⟨d1, hd1, hf⟩ := x_ob hf
  refine xr_putI (ci := 8) (k := 0) S G hd1 rfl kw_424 dX8_init_6 (fun H locs G => ?_)
  refine lv_aload_n hx hb dX8_init_9 rfl (lv_at hl 0 rfl) ?_
  refine lv_bipush (v := (20 : Int32)) hx hb dX8_init_10 (by decide) ?_
  refine xr_newa (atype := .int) (ty := .int) (q := sh.length) (N := 20) (sh' := (sh ++ [.inr (.int, 20)])) 0 S G rfl hsh rfl rfl rfl (rfl) kw_73 (by decide) (by decide) (Nat.le_of_ble_eq_true rfl) (Nat.le_of_ble_eq_true rfl) (Nat.le_of_ble_eq_true rfl) dX8_init_12 (fun H G => ?_)
  obtain ⟨d2, hd2, hf⟩ := x_ob hf
  refine xr_putRF (ci := 8) (k := 1) S (hin rfl) G hd2 rfl rfl kw_426 dX8_init_14 (fun H locs G => ?_)
  refine lv_aload_n hx hb dX8_init_17 rfl (lv_at hl 0 rfl) ?_
  refine lv_bipush (v := (20 : Int32)) hx hb dX8_init_18 (by decide) ?_
  refine xr_newa (atype := .int) (ty := .int) (q := (sh.length + 1)) (N := 20) (sh' := (sh ++ [.inr (.int, 20), .inr (.int, 20)])) 0 S G List.length_append (x_pos0 hsh) rfl rfl List.length_append (List.append_assoc _ _ _) kw_73 (by decide) (by decide) (Nat.le_of_ble_eq_true rfl) (Nat.le_of_ble_eq_true rfl) (Nat.le_of_ble_eq_true rfl) dX8_init_20 (fun H G => ?_)
  obtain ⟨d3, hd3, hf⟩ := x_ob hf
  refine xr_putRF (ci := 8) (k := 2) S (hin rfl) G hd3 rfl rfl kw_427 dX8_init_22 (fun H locs G => ?_)
  cases hf
  exact xr_vret S G (fun _ => List.length_append) hr dX8_init_25
-- HalfLandings$Seen.<init>()V
theorem dX5_init_0 : decode cX5_init 0 = .ok (.aload_n 0, 1) := by decide +kernel
theorem dX5_init_1 : decode cX5_init 1 = .ok (.invokespecial 3, 3) := by decide +kernel
theorem dX5_init_4 : decode cX5_init 4 = .ok (.aload_n 0, 1) := by decide +kernel
theorem dX5_init_5 : decode cX5_init 5 = .ok (.iconst 0, 1) := by decide +kernel
theorem dX5_init_6 : decode cX5_init 6 = .ok (.putfield 9, 3) := by decide +kernel
theorem dX5_init_9 : decode cX5_init 9 = .ok (.aload_n 0, 1) := by decide +kernel
theorem dX5_init_10 : decode cX5_init 10 = .ok (.iconst (-1), 1) := by decide +kernel
theorem dX5_init_11 : decode cX5_init 11 = .ok (.putfield 15, 3) := by decide +kernel
theorem dX5_init_14 : decode cX5_init 14 = .ok (.aload_n 0, 1) := by decide +kernel
theorem dX5_init_15 : decode cX5_init 15 = .ok (.bipush 24, 2) := by decide +kernel
theorem dX5_init_17 : decode cX5_init 17 = .ok (.newarray .int, 2) := by decide +kernel
theorem dX5_init_19 : decode cX5_init 19 = .ok (.putfield 18, 3) := by decide +kernel
theorem dX5_init_22 : decode cX5_init 22 = .ok (.aload_n 0, 1) := by decide +kernel
theorem dX5_init_23 : decode cX5_init 23 = .ok (.bipush 24, 2) := by decide +kernel
theorem dX5_init_25 : decode cX5_init 25 = .ok (.newarray .int, 2) := by decide +kernel
theorem dX5_init_27 : decode cX5_init 27 = .ok (.putfield 22, 3) := by decide +kernel
theorem dX5_init_30 : decode cX5_init 30 = .ok (.aload_n 0, 1) := by decide +kernel
theorem dX5_init_31 : decode cX5_init 31 = .ok (.bipush 24, 2) := by decide +kernel
theorem dX5_init_33 : decode cX5_init 33 = .ok (.newarray .int, 2) := by decide +kernel
theorem dX5_init_35 : decode cX5_init 35 = .ok (.putfield 25, 3) := by decide +kernel
theorem dX5_init_38 : decode cX5_init 38 = .ok (.aload_n 0, 1) := by decide +kernel
theorem dX5_init_39 : decode cX5_init 39 = .ok (.bipush 24, 2) := by decide +kernel
theorem dX5_init_41 : decode cX5_init 41 = .ok (.newarray .int, 2) := by decide +kernel
theorem dX5_init_43 : decode cX5_init 43 = .ok (.putfield 28, 3) := by decide +kernel
theorem dX5_init_46 : decode cX5_init 46 = .ok (.aload_n 0, 1) := by decide +kernel
theorem dX5_init_47 : decode cX5_init 47 = .ok (.bipush 24, 2) := by decide +kernel
theorem dX5_init_49 : decode cX5_init 49 = .ok (.newarray .boolean, 2) := by decide +kernel
theorem dX5_init_51 : decode cX5_init 51 = .ok (.putfield 31, 3) := by decide +kernel
theorem dX5_init_54 : decode cX5_init 54 = .ok (.aload_n 0, 1) := by decide +kernel
theorem dX5_init_55 : decode cX5_init 55 = .ok (.bipush 24, 2) := by decide +kernel
theorem dX5_init_57 : decode cX5_init 57 = .ok (.newarray .boolean, 2) := by decide +kernel
theorem dX5_init_59 : decode cX5_init 59 = .ok (.putfield 35, 3) := by decide +kernel
theorem dX5_init_62 : decode cX5_init 62 = .ok (.return_, 1) := by decide +kernel
theorem hd_X5_init : yX5_init.cls ≠ "java/lang/invoke/MethodHandle" ∧ yX5_init.cls ≠ "java/lang/invoke/VarHandle" ∧ (parseMethodDescriptor yX5_init.desc).map (fun d => d.parameters.length) = some 0 := by decide +kernel
def f_X5_init (sh : List xSh) (q0 : Nat) (d : xD) : Option xD :=
  (xpI 5 sh d q0 0 (0 : Int32)).bind fun d1 => (xpI 5 sh d1 q0 1 (-1 : Int32)).bind fun d2 => (xpR 5 (sh ++ [.inr (.int, 24)]) (xnw d2 sh.length) q0 2 sh.length).bind fun d3 => (xpR 5 (sh ++ [.inr (.int, 24), .inr (.int, 24)]) (xnw d3 (sh.length + 1)) q0 3 (sh.length + 1)).bind fun d4 => (xpR 5 (sh ++ [.inr (.int, 24), .inr (.int, 24), .inr (.int, 24)]) (xnw d4 (sh.length + 2)) q0 4 (sh.length + 2)).bind fun d5 => (xpR 5 (sh ++ [.inr (.int, 24), .inr (.int, 24), .inr (.int, 24), .inr (.int, 24)]) (xnw d5 (sh.length + 3)) q0 5 (sh.length + 3)).bind fun d6 => (xpR 5 (sh ++ [.inr (.int, 24), .inr (.int, 24), .inr (.int, 24), .inr (.int, 24), .inr (.boolean, 24)]) (xnw d6 (sh.length + 4)) q0 6 (sh.length + 4)).bind fun d7 => (xpR 5 (sh ++ [.inr (.int, 24), .inr (.int, 24), .inr (.int, 24), .inr (.int, 24), .inr (.boolean, 24), .inr (.boolean, 24)]) (xnw d7 (sh.length + 5)) q0 7 (sh.length + 5)).bind fun d8 => some d8
set_option maxHeartbeats 4000000 in
set_option maxRecDepth 100000 in
theorem mt_X5_init (l : Launch) (D : va_G) (cid : FieldType → ClassId) (b : Nat) (sa sv B0 : Nat) (sh : List xSh) (hsh : 0 < sh.length) (shz : List xSh) (hshz : (sh ++ [.inr (.int, 24), .inr (.int, 24), .inr (.int, 24), .inr (.int, 24), .inr (.boolean, 24), .inr (.boolean, 24)]) = shz) (q0 : Nat) (d : xD) (dz : xD) (hf : f_X5_init sh q0 d = some dz) : xMet l yX5_init cX5_init 1 none 1 6 144 D cid b true sa sv B0 [.ref (b + q0)] sh d none shz dz := by
  subst hshz
  refine xMet.of (by decide) (Nat.le_of_ble_eq_true rfl) ?_
  intro p e s m below meth c ls A S hr hin G hl
  have hl : lv_has ls 1 [(0, .ref (b + q0))] := hl
  generalize ([.ref (b + q0)] : List Value).toArray = av at S ⊢
  have hx := S.1
  have hb := S.2.1
  have hml := S.2.2.1
  have hown := S.2.2.2.1
  have hts := S.2.2.2.2.1
  unfold f_X5_init at hf
  refine lv_aload_n hx hb dX5_init_0 rfl (lv_at hl 0 rfl) ?_
  refine W.objInit hx hb hown (hts _ kw_440) (hts _ kw_31) (hts _ kw_32) rfl (by rw [hml]; exact hl.1) rfl dX5_init_1 (Nat.le_of_ble_eq_true rfl) (Nat.le_of_ble_eq_true rfl) ?_
  refine W.eq (g2 := F0 m 4 ls []) rfl ?_
  refine lv_aload_n hx hb dX5_init_4 rfl (lv_at hl 0 rfl) ?_
  refine lv_iconst (v := (0 : Int32)) hx hb dX5_init_5 (by decide) ?_
  obtain ⟨d1, hd1, hf⟩ := x_ob hf
  refine xr_putI (ci := 5) (k := 0) S G hd1 rfl kw_441 dX5_init_6 (fun H locs G => ?_)
  refine lv_aload_n hx hb dX5_init_9 rfl (lv_at hl 0 rfl) ?_
  refine lv_iconst (v := (-1 : Int32)) hx hb dX5_init_10 (by decide) ?_
  obtain ⟨d2, hd2, hf⟩ := x_ob hf
  refine xr_putI (ci := 5) (k := 1) S G hd2 rfl kw_443 dX5_init_11 (fun H locs G => ?_)
  refine lv_aload_n hx hb dX5_init_14 rfl (lv_at hl 0 rfl) ?_
  refine lv_bipush (v := (24 : Int32)) hx hb dX5_init_15 (by decide) ?_
  refine xr_newa (atype := .int) (ty := .int) (q := sh.length) (N := 24) (sh' := (sh ++ [.inr (.int, 24)])) 0 S G rfl hsh rfl rfl rfl (rfl) kw_73 (by decide) (by decide) (Nat.le_of_ble_eq_true rfl) (Nat.le_of_ble_eq_true rfl) (Nat.le_of_ble_eq_true rfl) dX5_init_17 (fun H G => ?_)
  obtain ⟨d3, hd3, hf⟩ := x_ob hf
  refine xr_putRF (ci := 5) (k := 2) S (hin rfl) G hd3 rfl rfl kw_445 dX5_init_19 (fun H locs G => ?_)
  refine lv_aload_n hx hb dX5_init_22 rfl (lv_at hl 0 rfl) ?_
  refine lv_bipush (v := (24 : Int32)) hx hb dX5_init_23 (by decide) ?_
  refine xr_newa (atype := .int) (ty := .int) (q := (sh.length + 1)) (N := 24) (sh' := (sh ++ [.inr (.int, 24), .inr (.int, 24)])) 0 S G List.length_append (x_pos0 hsh) rfl rfl List.length_append (List.append_assoc _ _ _) kw_73 (by decide) (by decide) (Nat.le_of_ble_eq_true rfl) (Nat.le_of_ble_eq_true rfl) (Nat.le_of_ble_eq_true rfl) dX5_init_25 (fun H G => ?_)
  obtain ⟨d4, hd4, hf⟩ := x_ob hf
  refine xr_putRF (ci := 5) (k := 3) S (hin rfl) G hd4 rfl rfl kw_446 dX5_init_27 (fun H locs G => ?_)
  refine lv_aload_n hx hb dX5_init_30 rfl (lv_at hl 0 rfl) ?_
  refine lv_bipush (v := (24 : Int32)) hx hb dX5_init_31 (by decide) ?_
  refine xr_newa (atype := .int) (ty := .int) (q := (sh.length + 2)) (N := 24) (sh' := (sh ++ [.inr (.int, 24), .inr (.int, 24), .inr (.int, 24)])) 0 S G List.length_append (x_pos0 hsh) rfl rfl List.length_append (List.append_assoc _ _ _) kw_73 (by decide) (by decide) (Nat.le_of_ble_eq_true rfl) (Nat.le_of_ble_eq_true rfl) (Nat.le_of_ble_eq_true rfl) dX5_init_33 (fun H G => ?_)
  obtain ⟨d5, hd5, hf⟩ := x_ob hf
  refine xr_putRF (ci := 5) (k := 4) S (hin rfl) G hd5 rfl rfl kw_447 dX5_init_35 (fun H locs G => ?_)
  refine lv_aload_n hx hb dX5_init_38 rfl (lv_at hl 0 rfl) ?_
  refine lv_bipush (v := (24 : Int32)) hx hb dX5_init_39 (by decide) ?_
  refine xr_newa (atype := .int) (ty := .int) (q := (sh.length + 3)) (N := 24) (sh' := (sh ++ [.inr (.int, 24), .inr (.int, 24), .inr (.int, 24), .inr (.int, 24)])) 0 S G List.length_append (x_pos0 hsh) rfl rfl List.length_append (List.append_assoc _ _ _) kw_73 (by decide) (by decide) (Nat.le_of_ble_eq_true rfl) (Nat.le_of_ble_eq_true rfl) (Nat.le_of_ble_eq_true rfl) dX5_init_41 (fun H G => ?_)
  obtain ⟨d6, hd6, hf⟩ := x_ob hf
  refine xr_putRF (ci := 5) (k := 5) S (hin rfl) G hd6 rfl rfl kw_448 dX5_init_43 (fun H locs G => ?_)
  refine lv_aload_n hx hb dX5_init_46 rfl (lv_at hl 0 rfl) ?_
  refine lv_bipush (v := (24 : Int32)) hx hb dX5_init_47 (by decide) ?_
  refine xr_newa (atype := .boolean) (ty := .boolean) (q := (sh.length + 4)) (N := 24) (sh' := (sh ++ [.inr (.int, 24), .inr (.int, 24), .inr (.int, 24), .inr (.int, 24), .inr (.boolean, 24)])) 2 S G List.length_append (x_pos0 hsh) rfl rfl List.length_append (List.append_assoc _ _ _) kw_468 (by decide) (by decide) (Nat.le_of_ble_eq_true rfl) (Nat.le_of_ble_eq_true rfl) (Nat.le_of_ble_eq_true rfl) dX5_init_49 (fun H G => ?_)
  obtain ⟨d7, hd7, hf⟩ := x_ob hf
  refine xr_putRF (ci := 5) (k := 6) S (hin rfl) G hd7 rfl rfl kw_449 dX5_init_51 (fun H locs G => ?_)
  refine lv_aload_n hx hb dX5_init_54 rfl (lv_at hl 0 rfl) ?_
  refine lv_bipush (v := (24 : Int32)) hx hb dX5_init_55 (by decide) ?_
  refine xr_newa (atype := .boolean) (ty := .boolean) (q := (sh.length + 5)) (N := 24) (sh' := (sh ++ [.inr (.int, 24), .inr (.int, 24), .inr (.int, 24), .inr (.int, 24), .inr (.boolean, 24), .inr (.boolean, 24)])) 2 S G List.length_append (x_pos0 hsh) rfl rfl List.length_append (List.append_assoc _ _ _) kw_468 (by decide) (by decide) (Nat.le_of_ble_eq_true rfl) (Nat.le_of_ble_eq_true rfl) (Nat.le_of_ble_eq_true rfl) dX5_init_57 (fun H G => ?_)
  obtain ⟨d8, hd8, hf⟩ := x_ob hf
  refine xr_putRF (ci := 5) (k := 7) S (hin rfl) G hd8 rfl rfl kw_450 dX5_init_59 (fun H locs G => ?_)
  cases hf
  exact xr_vret S G (fun _ => List.length_append) hr dX5_init_62
-- HalfLandings$Laws.<init>()V
theorem dX1_init_0 : decode cX1_init 0 = .ok (.aload_n 0, 1) := by decide +kernel
theorem dX1_init_1 : decode cX1_init 1 = .ok (.invokespecial 3, 3) := by decide +kernel
theorem dX1_init_4 : decode cX1_init 4 = .ok (.aload_n 0, 1) := by decide +kernel
theorem dX1_init_5 : decode cX1_init 5 = .ok (.iconst 0, 1) := by decide +kernel
theorem dX1_init_6 : decode cX1_init 6 = .ok (.putfield 9, 3) := by decide +kernel
theorem dX1_init_9 : decode cX1_init 9 = .ok (.aload_n 0, 1) := by decide +kernel
theorem dX1_init_10 : decode cX1_init 10 = .ok (.iconst 0, 1) := by decide +kernel
theorem dX1_init_11 : decode cX1_init 11 = .ok (.putfield 15, 3) := by decide +kernel
theorem dX1_init_14 : decode cX1_init 14 = .ok (.aload_n 0, 1) := by decide +kernel
theorem dX1_init_15 : decode cX1_init 15 = .ok (.bipush 64, 2) := by decide +kernel
theorem dX1_init_17 : decode cX1_init 17 = .ok (.newarray .int, 2) := by decide +kernel
theorem dX1_init_19 : decode cX1_init 19 = .ok (.putfield 18, 3) := by decide +kernel
theorem dX1_init_22 : decode cX1_init 22 = .ok (.aload_n 0, 1) := by decide +kernel
theorem dX1_init_23 : decode cX1_init 23 = .ok (.bipush 64, 2) := by decide +kernel
theorem dX1_init_25 : decode cX1_init 25 = .ok (.newarray .int, 2) := by decide +kernel
theorem dX1_init_27 : decode cX1_init 27 = .ok (.putfield 22, 3) := by decide +kernel
theorem dX1_init_30 : decode cX1_init 30 = .ok (.aload_n 0, 1) := by decide +kernel
theorem dX1_init_31 : decode cX1_init 31 = .ok (.iconst 0, 1) := by decide +kernel
theorem dX1_init_32 : decode cX1_init 32 = .ok (.putfield 25, 3) := by decide +kernel
theorem dX1_init_35 : decode cX1_init 35 = .ok (.aload_n 0, 1) := by decide +kernel
theorem dX1_init_36 : decode cX1_init 36 = .ok (.iconst 3, 1) := by decide +kernel
theorem dX1_init_37 : decode cX1_init 37 = .ok (.newarray .int, 2) := by decide +kernel
theorem dX1_init_39 : decode cX1_init 39 = .ok (.putfield 28, 3) := by decide +kernel
theorem dX1_init_42 : decode cX1_init 42 = .ok (.aload_n 0, 1) := by decide +kernel
theorem dX1_init_43 : decode cX1_init 43 = .ok (.iconst 3, 1) := by decide +kernel
theorem dX1_init_44 : decode cX1_init 44 = .ok (.newarray .int, 2) := by decide +kernel
theorem dX1_init_46 : decode cX1_init 46 = .ok (.putfield 31, 3) := by decide +kernel
theorem dX1_init_49 : decode cX1_init 49 = .ok (.aload_n 0, 1) := by decide +kernel
theorem dX1_init_50 : decode cX1_init 50 = .ok (.bipush 64, 2) := by decide +kernel
theorem dX1_init_52 : decode cX1_init 52 = .ok (.newarray .long, 2) := by decide +kernel
theorem dX1_init_54 : decode cX1_init 54 = .ok (.putfield 34, 3) := by decide +kernel
theorem dX1_init_57 : decode cX1_init 57 = .ok (.return_, 1) := by decide +kernel
theorem hd_X1_init : yX1_init.cls ≠ "java/lang/invoke/MethodHandle" ∧ yX1_init.cls ≠ "java/lang/invoke/VarHandle" ∧ (parseMethodDescriptor yX1_init.desc).map (fun d => d.parameters.length) = some 0 := by decide +kernel
def f_X1_init (sh : List xSh) (q0 : Nat) (d : xD) : Option xD :=
  (xpI 1 sh d q0 0 (0 : Int32)).bind fun d1 => (xpI 1 sh d1 q0 1 (0 : Int32)).bind fun d2 => (xpR 1 (sh ++ [.inr (.int, 64)]) (xnw d2 sh.length) q0 2 sh.length).bind fun d3 => (xpR 1 (sh ++ [.inr (.int, 64), .inr (.int, 64)]) (xnw d3 (sh.length + 1)) q0 3 (sh.length + 1)).bind fun d4 => (xpI 1 (sh ++ [.inr (.int, 64), .inr (.int, 64)]) d4 q0 4 (0 : Int32)).bind fun d5 => (xpR 1 (sh ++ [.inr (.int, 64), .inr (.int, 64), .inr (.int, 3)]) (xnw d5 (sh.length + 2)) q0 5 (sh.length + 2)).bind fun d6 => (xpR 1 (sh ++ [.inr (.int, 64), .inr (.int, 64), .inr (.int, 3), .inr (.int, 3)]) (xnw d6 (sh.length + 3)) q0 6 (sh.length + 3)).bind fun d7 => (xpR 1 (sh ++ [.inr (.int, 64), .inr (.int, 64), .inr (.int, 3), .inr (.int, 3), .inr (.long, 64)]) (xnw d7 (sh.length + 4)) q0 7 (sh.length + 4)).bind fun d8 => some d8
set_option maxHeartbeats 4000000 in
set_option maxRecDepth 100000 in
theorem mt_X1_init (l : Launch) (D : va_G) (cid : FieldType → ClassId) (b : Nat) (sa sv B0 : Nat) (sh : List xSh) (hsh : 0 < sh.length) (shz : List xSh) (hshz : (sh ++ [.inr (.int, 64), .inr (.int, 64), .inr (.int, 3), .inr (.int, 3), .inr (.long, 64)]) = shz) (q0 : Nat) (d : xD) (dz : xD) (hf : f_X1_init sh q0 d = some dz) : xMet l yX1_init cX1_init 1 none 1 5 198 D cid b true sa sv B0 [.ref (b + q0)] sh d none shz dz := by
  subst hshz
  refine xMet.of (by decide) (Nat.le_of_ble_eq_true rfl) ?_
  intro p e s m below meth c ls A S hr hin G hl
  have hl : lv_has ls 1 [(0, .ref (b + q0))] := hl
  generalize ([.ref (b + q0)] : List Value).toArray = av at S ⊢
  have hx := S.1
  have hb := S.2.1
  have hml := S.2.2.1
  have hown := S.2.2.2.1
  have hts := S.2.2.2.2.1
  unfold f_X1_init at hf
  refine lv_aload_n hx hb dX1_init_0 rfl (lv_at hl 0 rfl) ?_
  refine W.objInit hx hb hown (hts _ kw_44) (hts _ kw_31) (hts _ kw_32) rfl (by rw [hml]; exact hl.1) rfl dX1_init_1 (Nat.le_of_ble_eq_true rfl) (Nat.le_of_ble_eq_true rfl) ?_
  refine W.eq (g2 := F0 m 4 ls []) rfl ?_
  refine lv_aload_n hx hb dX1_init_4 rfl (lv_at hl 0 rfl) ?_
  refine lv_iconst (v := (0 : Int32)) hx hb dX1_init_5 (by decide) ?_
  obtain ⟨d1, hd1, hf⟩ := x_ob hf
  refine xr_putI (ci := 1) (k := 0) S G hd1 rfl kw_45 dX1_init_6 (fun H locs G => ?_)
  refine lv_aload_n hx hb dX1_init_9 rfl (lv_at hl 0 rfl) ?_
  refine lv_iconst (v := (0 : Int32)) hx hb dX1_init_10 (by decide) ?_
  obtain ⟨d2, hd2, hf⟩ := x_ob hf
  refine xr_putI (ci := 1) (k := 1) S G hd2 rfl kw_48 dX1_init_11 (fun H locs G => ?_)
  refine lv_aload_n hx hb dX1_init_14 rfl (lv_at hl 0 rfl) ?_
  refine lv_bipush (v := (64 : Int32)) hx hb dX1_init_15 (by decide) ?_
  refine xr_newa (atype := .int) (ty := .int) (q := sh.length) (N := 64) (sh' := (sh ++ [.inr (.int, 64)])) 0 S G rfl hsh rfl rfl rfl (rfl) kw_73 (by decide) (by decide) (Nat.le_of_ble_eq_true rfl) (Nat.le_of_ble_eq_true rfl) (Nat.le_of_ble_eq_true rfl) dX1_init_17 (fun H G => ?_)
  obtain ⟨d3, hd3, hf⟩ := x_ob hf
  refine xr_putRF (ci := 1) (k := 2) S (hin rfl) G hd3 rfl rfl kw_49 dX1_init_19 (fun H locs G => ?_)
  refine lv_aload_n hx hb dX1_init_22 rfl (lv_at hl 0 rfl) ?_
  refine lv_bipush (v := (64 : Int32)) hx hb dX1_init_23 (by decide) ?_
  refine xr_newa (atype := .int) (ty := .int) (q := (sh.length + 1)) (N := 64) (sh' := (sh ++ [.inr (.int, 64), .inr (.int, 64)])) 0 S G List.length_append (x_pos0 hsh) rfl rfl List.length_append (List.append_assoc _ _ _) kw_73 (by decide) (by decide) (Nat.le_of_ble_eq_true rfl) (Nat.le_of_ble_eq_true rfl) (Nat.le_of_ble_eq_true rfl) dX1_init_25 (fun H G => ?_)
  obtain ⟨d4, hd4, hf⟩ := x_ob hf
  refine xr_putRF (ci := 1) (k := 3) S (hin rfl) G hd4 rfl rfl kw_50 dX1_init_27 (fun H locs G => ?_)
  refine lv_aload_n hx hb dX1_init_30 rfl (lv_at hl 0 rfl) ?_
  refine lv_iconst (v := (0 : Int32)) hx hb dX1_init_31 (by decide) ?_
  obtain ⟨d5, hd5, hf⟩ := x_ob hf
  refine xr_putI (ci := 1) (k := 4) S G hd5 rfl kw_51 dX1_init_32 (fun H locs G => ?_)
  refine lv_aload_n hx hb dX1_init_35 rfl (lv_at hl 0 rfl) ?_
  refine lv_iconst (v := (3 : Int32)) hx hb dX1_init_36 (by decide) ?_
  refine xr_newa (atype := .int) (ty := .int) (q := (sh.length + 2)) (N := 3) (sh' := (sh ++ [.inr (.int, 64), .inr (.int, 64), .inr (.int, 3)])) 0 S G List.length_append (x_pos0 hsh) rfl rfl List.length_append (List.append_assoc _ _ _) kw_73 (by decide) (by decide) (Nat.le_of_ble_eq_true rfl) (Nat.le_of_ble_eq_true rfl) (Nat.le_of_ble_eq_true rfl) dX1_init_37 (fun H G => ?_)
  obtain ⟨d6, hd6, hf⟩ := x_ob hf
  refine xr_putRF (ci := 1) (k := 5) S (hin rfl) G hd6 rfl rfl kw_52 dX1_init_39 (fun H locs G => ?_)
  refine lv_aload_n hx hb dX1_init_42 rfl (lv_at hl 0 rfl) ?_
  refine lv_iconst (v := (3 : Int32)) hx hb dX1_init_43 (by decide) ?_
  refine xr_newa (atype := .int) (ty := .int) (q := (sh.length + 3)) (N := 3) (sh' := (sh ++ [.inr (.int, 64), .inr (.int, 64), .inr (.int, 3), .inr (.int, 3)])) 0 S G List.length_append (x_pos0 hsh) rfl rfl List.length_append (List.append_assoc _ _ _) kw_73 (by decide) (by decide) (Nat.le_of_ble_eq_true rfl) (Nat.le_of_ble_eq_true rfl) (Nat.le_of_ble_eq_true rfl) dX1_init_44 (fun H G => ?_)
  obtain ⟨d7, hd7, hf⟩ := x_ob hf
  refine xr_putRF (ci := 1) (k := 6) S (hin rfl) G hd7 rfl rfl kw_53 dX1_init_46 (fun H locs G => ?_)
  refine lv_aload_n hx hb dX1_init_49 rfl (lv_at hl 0 rfl) ?_
  refine lv_bipush (v := (64 : Int32)) hx hb dX1_init_50 (by decide) ?_
  refine xr_newa (atype := .long) (ty := .long) (q := (sh.length + 4)) (N := 64) (sh' := (sh ++ [.inr (.int, 64), .inr (.int, 64), .inr (.int, 3), .inr (.int, 3), .inr (.long, 64)])) 3 S G List.length_append (x_pos0 hsh) rfl rfl List.length_append (List.append_assoc _ _ _) kw_74 (by decide) (by decide) (Nat.le_of_ble_eq_true rfl) (Nat.le_of_ble_eq_true rfl) (Nat.le_of_ble_eq_true rfl) dX1_init_52 (fun H G => ?_)
  obtain ⟨d8, hd8, hf⟩ := x_ob hf
  refine xr_putRF (ci := 1) (k := 7) S (hin rfl) G hd8 rfl rfl kw_54 dX1_init_54 (fun H locs G => ?_)
  cases hf
  exact xr_vret S G (fun _ => List.length_append) hr dX1_init_57

-- HalfLandings$LawReader.<init>(LHalfLandings$Tokens;)V
theorem dX0_init_0 : decode cX0_init 0 = .ok (.aload_n 0, 1) := by decide +kernel
theorem dX0_init_1 : decode cX0_init 1 = .ok (.invokespecial 3, 3) := by decide +kernel
theorem dX0_init_4 : decode cX0_init 4 = .ok (.aload_n 0, 1) := by decide +kernel
theorem dX0_init_5 : decode cX0_init 5 = .ok (.bipush 72, 2) := by decide +kernel
theorem dX0_init_7 : decode cX0_init 7 = .ok (.newarray .int, 2) := by decide +kernel
theorem dX0_init_9 : decode cX0_init 9 = .ok (.putfield 9, 3) := by decide +kernel
theorem dX0_init_12 : decode cX0_init 12 = .ok (.aload_n 0, 1) := by decide +kernel
theorem dX0_init_13 : decode cX0_init 13 = .ok (.iconst 0, 1) := by decide +kernel
theorem dX0_init_14 : decode cX0_init 14 = .ok (.putfield 15, 3) := by decide +kernel
theorem dX0_init_17 : decode cX0_init 17 = .ok (.aload_n 0, 1) := by decide +kernel
theorem dX0_init_18 : decode cX0_init 18 = .ok (.iconst 0, 1) := by decide +kernel
theorem dX0_init_19 : decode cX0_init 19 = .ok (.putfield 19, 3) := by decide +kernel
theorem dX0_init_22 : decode cX0_init 22 = .ok (.aload_n 0, 1) := by decide +kernel
theorem dX0_init_23 : decode cX0_init 23 = .ok (.iconst 1, 1) := by decide +kernel
theorem dX0_init_24 : decode cX0_init 24 = .ok (.putfield 22, 3) := by decide +kernel
theorem dX0_init_27 : decode cX0_init 27 = .ok (.aload_n 0, 1) := by decide +kernel
theorem dX0_init_28 : decode cX0_init 28 = .ok (.iconst 1, 1) := by decide +kernel
theorem dX0_init_29 : decode cX0_init 29 = .ok (.putfield 26, 3) := by decide +kernel
theorem dX0_init_32 : decode cX0_init 32 = .ok (.aload_n 0, 1) := by decide +kernel
theorem dX0_init_33 : decode cX0_init 33 = .ok (.aload_n 1, 1) := by decide +kernel
theorem dX0_init_34 : decode cX0_init 34 = .ok (.putfield 29, 3) := by decide +kernel
theorem dX0_init_37 : decode cX0_init 37 = .ok (.return_, 1) := by decide +kernel
theorem hd_X0_init : yX0_init.cls ≠ "java/lang/invoke/MethodHandle" ∧ yX0_init.cls ≠ "java/lang/invoke/VarHandle" ∧ (parseMethodDescriptor yX0_init.desc).map (fun d => d.parameters.length) = some 1 := by decide +kernel
def sx_X0_init_1 (sh : List xSh) : List xSh := sh ++ [.inr (.int, 72)]
theorem sx_X0_init_1_len (sh : List xSh) : (sx_X0_init_1 sh).length = sh.length + 1 := by
  unfold sx_X0_init_1
  rw [List.length_append]
  rfl
def f_X0_init (sh : List xSh) (q0 : Nat) (q1 : Nat) (d : xD) : Option xD :=
  (xpR 0 (sx_X0_init_1 sh) (xnw d sh.length) q0 1 sh.length).bind fun d1 => (xpI 0 (sx_X0_init_1 sh) d1 q0 2 (0 : Int32)).bind fun d2 => (xpI 0 (sx_X0_init_1 sh) d2 q0 3 (0 : Int32)).bind fun d3 => (xpI 0 (sx_X0_init_1 sh) d3 q0 4 (1 : Int32)).bind fun d4 => (xpI 0 (sx_X0_init_1 sh) d4 q0 5 (1 : Int32)).bind fun d5 => (xpR 0 (sx_X0_init_1 sh) d5 q0 0 q1).bind fun d6 => some d6
set_option maxHeartbeats 4000000 in
set_option maxRecDepth 100000 in
theorem mt_X0_init (l : Launch) (D : va_G) (cid : FieldType → ClassId) (b : Nat) (sa sv B0 : Nat) (sh : List xSh) (hsh : 0 < sh.length) (shz : List xSh) (hshz : (sx_X0_init_1 sh) = shz) (q0 : Nat) (q1 : Nat) (d : xD) (dz : xD) (hf : f_X0_init sh q0 q1 d = some dz) : xMet l yX0_init cX0_init 2 none 1 1 72 D cid b true sa sv B0 [.ref (b + q0), .ref (b + q1)] sh d none shz dz := by
  subst hshz
  refine xMet.of (by decide) (Nat.le_of_ble_eq_true rfl) ?_
  intro p e s m below meth c ls A S hr hin G hl
  have hl : lv_has ls 2 [(0, .ref (b + q0)), (1, .ref (b + q1))] := hl
  generalize ([.ref (b + q0), .ref (b + q1)] : List Value).toArray = av at S ⊢
  have hx := S.1
  have hb := S.2.1
  have hml := S.2.2.1
  have hown := S.2.2.2.1
  have hts := S.2.2.2.2.1
  unfold f_X0_init at hf
  refine lv_aload_n hx hb dX0_init_0 rfl (lv_at hl 0 rfl) ?_
  refine W.objInit hx hb hown (hts _ kw_274) (hts _ kw_31) (hts _ kw_32) rfl (by rw [hml]; exact hl.1) rfl dX0_init_1 (Nat.le_of_ble_eq_true rfl) (Nat.le_of_ble_eq_true rfl) ?_
  refine W.eq (g2 := F0 m 4 ls []) rfl ?_
  refine lv_aload_n hx hb dX0_init_4 rfl (lv_at hl 0 rfl) ?_
  refine lv_bipush (v := (72 : Int32)) hx hb dX0_init_5 (by decide) ?_
  refine xr_newa (atype := .int) (ty := .int) (q := sh.length) (N := 72) (sh' := (sx_X0_init_1 sh)) 0 S G rfl hsh rfl rfl rfl rfl kw_73 (by decide) (by decide) (Nat.le_of_ble_eq_true rfl) (Nat.le_of_ble_eq_true rfl) (Nat.le_of_ble_eq_true rfl) dX0_init_7 (fun H G => ?_)
  obtain ⟨d1, hd1, hf⟩ := x_ob hf
  refine xr_putRF (ci := 0) (k := 1) S (hin rfl) G hd1 rfl rfl kw_276 dX0_init_9 (fun H locs G => ?_)
  refine lv_aload_n hx hb dX0_init_12 rfl (lv_at hl 0 rfl) ?_
  refine lv_iconst (v := (0 : Int32)) hx hb dX0_init_13 (by decide) ?_
  obtain ⟨d2, hd2, hf⟩ := x_ob hf
  refine xr_putI (ci := 0) (k := 2) S G hd2 rfl kw_277 dX0_init_14 (fun H locs G => ?_)
  refine lv_aload_n hx hb dX0_init_17 rfl (lv_at hl 0 rfl) ?_
  refine lv_iconst (v := (0 : Int32)) hx hb dX0_init_18 (by decide) ?_
  obtain ⟨d3, hd3, hf⟩ := x_ob hf
  refine xr_putI (ci := 0) (k := 3) S G hd3 rfl kw_278 dX0_init_19 (fun H locs G => ?_)
  refine lv_aload_n hx hb dX0_init_22 rfl (lv_at hl 0 rfl) ?_
  refine lv_iconst (v := (1 : Int32)) hx hb dX0_init_23 (by decide) ?_
  obtain ⟨d4, hd4, hf⟩ := x_ob hf
  refine xr_putI (ci := 0) (k := 4) S G hd4 rfl kw_279 dX0_init_24 (fun H locs G => ?_)
  refine lv_aload_n hx hb dX0_init_27 rfl (lv_at hl 0 rfl) ?_
  refine lv_iconst (v := (1 : Int32)) hx hb dX0_init_28 (by decide) ?_
  obtain ⟨d5, hd5, hf⟩ := x_ob hf
  refine xr_putI (ci := 0) (k := 5) S G hd5 rfl kw_280 dX0_init_29 (fun H locs G => ?_)
  refine lv_aload_n hx hb dX0_init_32 rfl (lv_at hl 0 rfl) ?_
  refine lv_aload_n hx hb dX0_init_33 rfl (lv_at hl 1 rfl) ?_
  obtain ⟨d6, hd6, hf⟩ := x_ob hf
  refine xr_putRF (ci := 0) (k := 0) S (hin rfl) G hd6 rfl rfl kw_275 dX0_init_34 (fun H locs G => ?_)
  cases hf
  exact xr_vret S G (fun _ => sx_X0_init_1_len sh) hr dX0_init_37
-- HalfLandings$TextReader.<init>(LHalfLandings$Tokens;LHalfLandings$Plan;)V
theorem dX6_init_0 : decode cX6_init 0 = .ok (.aload_n 0, 1) := by decide +kernel
theorem dX6_init_1 : decode cX6_init 1 = .ok (.invokespecial 3, 3) := by decide +kernel
theorem dX6_init_4 : decode cX6_init 4 = .ok (.aload_n 0, 1) := by decide +kernel
theorem dX6_init_5 : decode cX6_init 5 = .ok (.iconst 0, 1) := by decide +kernel
theorem dX6_init_6 : decode cX6_init 6 = .ok (.putfield 9, 3) := by decide +kernel
theorem dX6_init_9 : decode cX6_init 9 = .ok (.aload_n 0, 1) := by decide +kernel
theorem dX6_init_10 : decode cX6_init 10 = .ok (.aload_n 1, 1) := by decide +kernel
theorem dX6_init_11 : decode cX6_init 11 = .ok (.putfield 15, 3) := by decide +kernel
theorem dX6_init_14 : decode cX6_init 14 = .ok (.aload_n 0, 1) := by decide +kernel
theorem dX6_init_15 : decode cX6_init 15 = .ok (.aload_n 2, 1) := by decide +kernel
theorem dX6_init_16 : decode cX6_init 16 = .ok (.putfield 19, 3) := by decide +kernel
theorem dX6_init_19 : decode cX6_init 19 = .ok (.aload_n 0, 1) := by decide +kernel
theorem dX6_init_20 : decode cX6_init 20 = .ok (.new 23, 3) := by decide +kernel
theorem dX6_init_23 : decode cX6_init 23 = .ok (.dup, 1) := by decide +kernel
theorem dX6_init_24 : decode cX6_init 24 = .ok (.aload_n 1, 1) := by decide +kernel
theorem dX6_init_25 : decode cX6_init 25 = .ok (.invokespecial 25, 3) := by decide +kernel
theorem dX6_init_28 : decode cX6_init 28 = .ok (.putfield 28, 3) := by decide +kernel
theorem dX6_init_31 : decode cX6_init 31 = .ok (.return_, 1) := by decide +kernel
theorem hd_X6_init : yX6_init.cls ≠ "java/lang/invoke/MethodHandle" ∧ yX6_init.cls ≠ "java/lang/invoke/VarHandle" ∧ (parseMethodDescriptor yX6_init.desc).map (fun d => d.parameters.length) = some 2 := by decide +kernel
def sx_X6_init_1 (sh : List xSh) : List xSh := sh ++ [.inl 0]
theorem sx_X6_init_1_len (sh : List xSh) : (sx_X6_init_1 sh).length = sh.length + 1 := by
  unfold sx_X6_init_1
  rw [List.length_append]
  rfl
def sx_X6_init_2 (sh : List xSh) : List xSh := sx_X0_init_1 (sx_X6_init_1 sh)
theorem sx_X6_init_2_len (sh : List xSh) : (sx_X6_init_2 sh).length = sh.length + 2 := by
  unfold sx_X6_init_2
  rw [sx_X0_init_1_len, sx_X6_init_1_len]
def f_X6_init (sh : List xSh) (q0 : Nat) (q1 : Nat) (q2 : Nat) (d : xD) : Option xD :=
  (xpI 6 sh d q0 3 (0 : Int32)).bind fun d1 => (xpR 6 sh d1 q0 0 q1).bind fun d2 => (xpR 6 sh d2 q0 2 q2).bind fun d3 => (f_X0_init (sx_X6_init_1 sh) sh.length q1 (xnw d3 sh.length)).bind fun d4 => (xpR 6 (sx_X6_init_2 sh) d4 q0 1 sh.length).bind fun d5 => some d5
set_option maxHeartbeats 4000000 in
set_option maxRecDepth 100000 in
theorem mt_X6_init (l : Launch) (D : va_G) (cid : FieldType → ClassId) (b : Nat) (sa sv B0 : Nat) (sh : List xSh) (hsh : 0 < sh.length) (shz : List xSh) (hshz : (sx_X6_init_2 sh) = shz) (q0 : Nat) (q1 : Nat) (q2 : Nat) (d : xD) (dz : xD) (hf : f_X6_init sh q0 q1 q2 d = some dz) : xMet l yX6_init cX6_init 3 none 2 2 78 D cid b true sa sv B0 [.ref (b + q0), .ref (b + q1), .ref (b + q2)] sh d none shz dz := by
  subst hshz
  refine xMet.of (by decide) (Nat.le_of_ble_eq_true rfl) ?_
  intro p e s m below meth c ls A S hr hin G hl
  have hl : lv_has ls 3 [(0, .ref (b + q0)), (1, .ref (b + q1)), (2, .ref (b + q2))] := hl
  generalize ([.ref (b + q0), .ref (b + q1), .ref (b + q2)] : List Value).toArray = av at S ⊢
  have hx := S.1
  have hb := S.2.1
  have hml := S.2.2.1
  have hown := S.2.2.2.1
  have hts := S.2.2.2.2.1
  unfold f_X6_init at hf
  refine lv_aload_n hx hb dX6_init_0 rfl (lv_at hl 0 rfl) ?_
  refine W.objInit hx hb hown (hts _ kw_268) (hts _ kw_31) (hts _ kw_32) rfl (by rw [hml]; exact hl.1) rfl dX6_init_1 (Nat.le_of_ble_eq_true rfl) (Nat.le_of_ble_eq_true rfl) ?_
  refine W.eq (g2 := F0 m 4 ls []) rfl ?_
  refine lv_aload_n hx hb dX6_init_4 rfl (lv_at hl 0 rfl) ?_
  refine lv_iconst (v := (0 : Int32)) hx hb dX6_init_5 (by decide) ?_
  obtain ⟨d1, hd1, hf⟩ := x_ob hf
  refine xr_putI (ci := 6) (k := 3) S G hd1 rfl kw_297 dX6_init_6 (fun H locs G => ?_)
  refine lv_aload_n hx hb dX6_init_9 rfl (lv_at hl 0 rfl) ?_
  refine lv_aload_n hx hb dX6_init_10 rfl (lv_at hl 1 rfl) ?_
  obtain ⟨d2, hd2, hf⟩ := x_ob hf
  refine xr_putRF (ci := 6) (k := 0) S (hin rfl) G hd2 rfl rfl kw_294 dX6_init_11 (fun H locs G => ?_)
  refine lv_aload_n hx hb dX6_init_14 rfl (lv_at hl 0 rfl) ?_
  refine lv_aload_n hx hb dX6_init_15 rfl (lv_at hl 2 rfl) ?_
  obtain ⟨d3, hd3, hf⟩ := x_ob hf
  refine xr_putR (ci := 6) (k := 2) S G hd3 rfl kw_296 dX6_init_16 (fun H locs G => ?_)
  refine lv_aload_n hx hb dX6_init_19 rfl (lv_at hl 0 rfl) ?_
  refine xr_new (ci := 0) (q := sh.length) (sh' := (sx_X6_init_1 sh)) S G rfl hsh (by decide) rfl rfl kw_269 kw_270 kw_11 (Nat.le_of_ble_eq_true rfl) (Nat.le_of_ble_eq_true rfl) dX6_init_20 (fun H G => ?_)
  refine lv_dup hx hb dX6_init_23 rfl ?_
  refine lv_aload_n hx hb dX6_init_24 rfl (lv_at hl 1 rfl) ?_
  obtain ⟨d4, hd4, hf⟩ := x_ob hf
  refine xr_callI (As := [.ref (b + q1)]) (rest := [.ref (b + sh.length), .ref (b + q0)]) (st1 := [.ref (b + sh.length), .ref (b + q0)]) (sh' := (sx_X6_init_2 sh)) S G hl.1 (fun _ => sx_X6_init_1_len sh) (mt_X0_init l D cid b sa sv B0 (sx_X6_init_1 sh) (by rw [sx_X6_init_1_len]; omega) (sx_X6_init_2 sh) rfl sh.length q1 (xnw d3 sh.length) _ hd4) kw_271 kw_272 kw_11 kw_273 rfl hd_X0_init ⟨Nat.le_of_ble_eq_true rfl, Nat.le_of_ble_eq_true rfl⟩ rfl rfl rfl (Nat.le_of_ble_eq_true rfl) ⟨Nat.le_of_ble_eq_true rfl, Nat.le_of_ble_eq_true rfl⟩ dX6_init_25 (fun H locs G => ?_)
  obtain ⟨d5, hd5, hf⟩ := x_ob hf
  refine xr_putRF (ci := 6) (k := 1) S (hin rfl) G hd5 rfl rfl kw_295 dX6_init_28 (fun H locs G => ?_)
  cases hf
  exact xr_vret S G (fun _ => sx_X6_init_2_len sh) hr dX6_init_31
-- HalfLandings$Minutes.<init>(LHalfLandings$Plan;)V
theorem dX2_init_0 : decode cX2_init 0 = .ok (.aload_n 0, 1) := by decide +kernel
theorem dX2_init_1 : decode cX2_init 1 = .ok (.invokespecial 3, 3) := by decide +kernel
theorem dX2_init_4 : decode cX2_init 4 = .ok (.aload_n 0, 1) := by decide +kernel
theorem dX2_init_5 : decode cX2_init 5 = .ok (.bipush 7, 2) := by decide +kernel
theorem dX2_init_7 : decode cX2_init 7 = .ok (.newarray .long, 2) := by decide +kernel
theorem dX2_init_9 : decode cX2_init 9 = .ok (.putfield 11, 3) := by decide +kernel
theorem dX2_init_12 : decode cX2_init 12 = .ok (.aload_n 0, 1) := by decide +kernel
theorem dX2_init_13 : decode cX2_init 13 = .ok (.aload_n 1, 1) := by decide +kernel
theorem dX2_init_14 : decode cX2_init 14 = .ok (.putfield 17, 3) := by decide +kernel
theorem dX2_init_17 : decode cX2_init 17 = .ok (.return_, 1) := by decide +kernel
theorem hd_X2_init : yX2_init.cls ≠ "java/lang/invoke/MethodHandle" ∧ yX2_init.cls ≠ "java/lang/invoke/VarHandle" ∧ (parseMethodDescriptor yX2_init.desc).map (fun d => d.parameters.length) = some 1 := by decide +kernel
def sx_X2_init_1 (sh : List xSh) : List xSh := sh ++ [.inr (.long, 7)]
theorem sx_X2_init_1_len (sh : List xSh) : (sx_X2_init_1 sh).length = sh.length + 1 := by
  unfold sx_X2_init_1
  rw [List.length_append]
  rfl
def f_X2_init (sh : List xSh) (q0 : Nat) (q1 : Nat) (d : xD) : Option xD :=
  (xpR 2 (sx_X2_init_1 sh) (xnw d sh.length) q0 1 sh.length).bind fun d1 => (xpR 2 (sx_X2_init_1 sh) d1 q0 0 q1).bind fun d2 => some d2
set_option maxHeartbeats 4000000 in
set_option maxRecDepth 100000 in
theorem mt_X2_init (l : Launch) (D : va_G) (cid : FieldType → ClassId) (b : Nat) (sa sv B0 : Nat) (sh : List xSh) (hsh : 0 < sh.length) (shz : List xSh) (hshz : (sx_X2_init_1 sh) = shz) (q0 : Nat) (q1 : Nat) (d : xD) (dz : xD) (hf : f_X2_init sh q0 q1 d = some dz) : xMet l yX2_init cX2_init 2 none 1 1 7 D cid b true sa sv B0 [.ref (b + q0), .ref (b + q1)] sh d none shz dz := by
  subst hshz
  refine xMet.of (by decide) (Nat.le_of_ble_eq_true rfl) ?_
  intro p e s m below meth c ls A S hr hin G hl
  have hl : lv_has ls 2 [(0, .ref (b + q0)), (1, .ref (b + q1))] := hl
  generalize ([.ref (b + q0), .ref (b + q1)] : List Value).toArray = av at S ⊢
  have hx := S.1
  have hb := S.2.1
  have hml := S.2.2.1
  have hown := S.2.2.2.1
  have hts := S.2.2.2.2.1
  unfold f_X2_init at hf
  refine lv_aload_n hx hb dX2_init_0 rfl (lv_at hl 0 rfl) ?_
  refine W.objInit hx hb hown (hts _ kw_409) (hts _ kw_31) (hts _ kw_32) rfl (by rw [hml]; exact hl.1) rfl dX2_init_1 (Nat.le_of_ble_eq_true rfl) (Nat.le_of_ble_eq_true rfl) ?_
  refine W.eq (g2 := F0 m 4 ls []) rfl ?_
  refine lv_aload_n hx hb dX2_init_4 rfl (lv_at hl 0 rfl) ?_
  refine lv_bipush (v := (7 : Int32)) hx hb dX2_init_5 (by decide) ?_
  refine xr_newa (atype := .long) (ty := .long) (q := sh.length) (N := 7) (sh' := (sx_X2_init_1 sh)) 3 S G rfl hsh rfl rfl rfl rfl kw_74 (by decide) (by decide) (Nat.le_of_ble_eq_true rfl) (Nat.le_of_ble_eq_true rfl) (Nat.le_of_ble_eq_true rfl) dX2_init_7 (fun H G => ?_)
  obtain ⟨d1, hd1, hf⟩ := x_ob hf
  refine xr_putRF (ci := 2) (k := 1) S (hin rfl) G hd1 rfl rfl kw_412 dX2_init_9 (fun H locs G => ?_)
  refine lv_aload_n hx hb dX2_init_12 rfl (lv_at hl 0 rfl) ?_
  refine lv_aload_n hx hb dX2_init_13 rfl (lv_at hl 1 rfl) ?_
  obtain ⟨d2, hd2, hf⟩ := x_ob hf
  refine xr_putR (ci := 2) (k := 0) S G hd2 rfl kw_410 dX2_init_14 (fun H locs G => ?_)
  cases hf
  exact xr_vret S G (fun _ => sx_X2_init_1_len sh) hr dX2_init_17
-- HalfLandings$Tokens.<init>([B)V
theorem dX7_init_0 : decode cX7_init 0 = .ok (.aload_n 0, 1) := by decide +kernel
theorem dX7_init_1 : decode cX7_init 1 = .ok (.invokespecial 3, 3) := by decide +kernel
theorem dX7_init_4 : decode cX7_init 4 = .ok (.aload_n 0, 1) := by decide +kernel
theorem dX7_init_5 : decode cX7_init 5 = .ok (.bipush 36, 2) := by decide +kernel
theorem dX7_init_7 : decode cX7_init 7 = .ok (.putfield 11, 3) := by decide +kernel
theorem dX7_init_10 : decode cX7_init 10 = .ok (.aload_n 0, 1) := by decide +kernel
theorem dX7_init_11 : decode cX7_init 11 = .ok (.iconst 0, 1) := by decide +kernel
theorem dX7_init_12 : decode cX7_init 12 = .ok (.putfield 15, 3) := by decide +kernel
theorem dX7_init_15 : decode cX7_init 15 = .ok (.aload_n 0, 1) := by decide +kernel
theorem dX7_init_16 : decode cX7_init 16 = .ok (.iconst 0, 1) := by decide +kernel
theorem dX7_init_17 : decode cX7_init 17 = .ok (.putfield 18, 3) := by decide +kernel
theorem dX7_init_20 : decode cX7_init 20 = .ok (.aload_n 0, 1) := by decide +kernel
theorem dX7_init_21 : decode cX7_init 21 = .ok (.iconst 0, 1) := by decide +kernel
theorem dX7_init_22 : decode cX7_init 22 = .ok (.putfield 21, 3) := by decide +kernel
theorem dX7_init_25 : decode cX7_init 25 = .ok (.aload_n 0, 1) := by decide +kernel
theorem dX7_init_26 : decode cX7_init 26 = .ok (.iconst (-1), 1) := by decide +kernel
theorem dX7_init_27 : decode cX7_init 27 = .ok (.putfield 24, 3) := by decide +kernel
theorem dX7_init_30 : decode cX7_init 30 = .ok (.aload_n 0, 1) := by decide +kernel
theorem dX7_init_31 : decode cX7_init 31 = .ok (.bipush 21, 2) := by decide +kernel
theorem dX7_init_33 : decode cX7_init 33 = .ok (.newarray .int, 2) := by decide +kernel
theorem dX7_init_35 : decode cX7_init 35 = .ok (.putfield 27, 3) := by decide +kernel
theorem dX7_init_38 : decode cX7_init 38 = .ok (.aload_n 0, 1) := by decide +kernel
theorem dX7_init_39 : decode cX7_init 39 = .ok (.iconst 0, 1) := by decide +kernel
theorem dX7_init_40 : decode cX7_init 40 = .ok (.putfield 31, 3) := by decide +kernel
theorem dX7_init_43 : decode cX7_init 43 = .ok (.aload_n 0, 1) := by decide +kernel
theorem dX7_init_44 : decode cX7_init 44 = .ok (.iconst 0, 1) := by decide +kernel
theorem dX7_init_45 : decode cX7_init 45 = .ok (.putfield 34, 3) := by decide +kernel
theorem dX7_init_48 : decode cX7_init 48 = .ok (.aload_n 0, 1) := by decide +kernel
theorem dX7_init_49 : decode cX7_init 49 = .ok (.aload_n 1, 1) := by decide +kernel
theorem dX7_init_50 : decode cX7_init 50 = .ok (.putfield 37, 3) := by decide +kernel
theorem dX7_init_53 : decode cX7_init 53 = .ok (.iconst 0, 1) := by decide +kernel
theorem dX7_init_54 : decode cX7_init 54 = .ok (.istore_n 2, 1) := by decide +kernel
theorem dX7_init_55 : decode cX7_init 55 = .ok (.iconst 0, 1) := by decide +kernel
theorem dX7_init_56 : decode cX7_init 56 = .ok (.istore_n 3, 1) := by decide +kernel
theorem dX7_init_57 : decode cX7_init 57 = .ok (.iconst 0, 1) := by decide +kernel
theorem dX7_init_58 : decode cX7_init 58 = .ok (.istore 4, 2) := by decide +kernel
theorem dX7_init_60 : decode cX7_init 60 = .ok (.iload 4, 2) := by decide +kernel
theorem dX7_init_62 : decode cX7_init 62 = .ok (.ldc 41, 2) := by decide +kernel
theorem dX7_init_64 : decode cX7_init 64 = .ok (.invokevirtual 43, 3) := by decide +kernel
theorem dX7_init_67 : decode cX7_init 67 = .ok (.if_icmp .ge 57, 3) := by decide +kernel
theorem dX7_init_70 : decode cX7_init 70 = .ok (.iload_n 2, 1) := by decide +kernel
theorem dX7_init_71 : decode cX7_init 71 = .ok (.bipush 21, 2) := by decide +kernel
theorem dX7_init_73 : decode cX7_init 73 = .ok (.if_icmp .ge 51, 3) := by decide +kernel
theorem dX7_init_76 : decode cX7_init 76 = .ok (.ldc 41, 2) := by decide +kernel
theorem dX7_init_78 : decode cX7_init 78 = .ok (.iload 4, 2) := by decide +kernel
theorem dX7_init_80 : decode cX7_init 80 = .ok (.invokevirtual 48, 3) := by decide +kernel
theorem dX7_init_83 : decode cX7_init 83 = .ok (.istore 5, 2) := by decide +kernel
theorem dX7_init_85 : decode cX7_init 85 = .ok (.iload 5, 2) := by decide +kernel
theorem dX7_init_87 : decode cX7_init 87 = .ok (.bipush 32, 2) := by decide +kernel
theorem dX7_init_89 : decode cX7_init 89 = .ok (.if_icmp .ne 11, 3) := by decide +kernel
theorem dX7_init_92 : decode cX7_init 92 = .ok (.iinc 2 1, 3) := by decide +kernel
theorem dX7_init_95 : decode cX7_init 95 = .ok (.iconst 0, 1) := by decide +kernel
theorem dX7_init_96 : decode cX7_init 96 = .ok (.istore_n 3, 1) := by decide +kernel
theorem dX7_init_97 : decode cX7_init 97 = .ok (.goto 21, 3) := by decide +kernel
theorem dX7_init_100 : decode cX7_init 100 = .ok (.aload_n 0, 1) := by decide +kernel
theorem dX7_init_101 : decode cX7_init 101 = .ok (.getfield 27, 3) := by decide +kernel
theorem dX7_init_104 : decode cX7_init 104 = .ok (.iload_n 2, 1) := by decide +kernel
theorem dX7_init_105 : decode cX7_init 105 = .ok (.dup2, 1) := by decide +kernel
theorem dX7_init_106 : decode cX7_init 106 = .ok (.iaload, 1) := by decide +kernel
theorem dX7_init_107 : decode cX7_init 107 = .ok (.iload 5, 2) := by decide +kernel
theorem dX7_init_109 : decode cX7_init 109 = .ok (.iload_n 3, 1) := by decide +kernel
theorem dX7_init_110 : decode cX7_init 110 = .ok (.invokestatic 52, 3) := by decide +kernel
theorem dX7_init_113 : decode cX7_init 113 = .ok (.ior, 1) := by decide +kernel
theorem dX7_init_114 : decode cX7_init 114 = .ok (.iastore, 1) := by decide +kernel
theorem dX7_init_115 : decode cX7_init 115 = .ok (.iinc 3 1, 3) := by decide +kernel
theorem dX7_init_118 : decode cX7_init 118 = .ok (.iinc 4 1, 3) := by decide +kernel
theorem dX7_init_121 : decode cX7_init 121 = .ok (.goto (-61), 3) := by decide +kernel
theorem dX7_init_124 : decode cX7_init 124 = .ok (.return_, 1) := by decide +kernel
theorem hd_X7_init : yX7_init.cls ≠ "java/lang/invoke/MethodHandle" ∧ yX7_init.cls ≠ "java/lang/invoke/VarHandle" ∧ (parseMethodDescriptor yX7_init.desc).map (fun d => d.parameters.length) = some 1 := by decide +kernel
def sx_X7_init_1 (sh : List xSh) : List xSh := sh ++ [.inr (.int, 21)]
theorem sx_X7_init_1_len (sh : List xSh) : (sx_X7_init_1 sh).length = sh.length + 1 := by
  unfold sx_X7_init_1
  rw [List.length_append]
  rfl
def k_X7_init_124 (sh : List xSh) (d : xD) : Option xD :=
  some d
def k_X7_init_118 (sh : List xSh) (rec60 : Nat → Int32 → Int32 → Int32 → xD → Option xD) (q0 : Nat) (x2 : Int32) (x3 : Int32) (x4 : Int32) (d : xD) : Option xD :=
  rec60 q0 x2 x3 (x4 + 1) d
def b_X7_init_60 (sh : List xSh) (rec60 : Nat → Int32 → Int32 → Int32 → xD → Option xD) (q0 : Nat) (x2 : Int32) (x3 : Int32) (x4 : Int32) (d : xD) : Option xD :=
  if (104 : Int32) ≤ x4 then (k_X7_init_124 sh d) else (if (21 : Int32) ≤ x2 then (k_X7_init_124 sh d) else ((xch x4).bind fun v1 => if v1 = (32 : Int32) then (k_X7_init_118 sh rec60 q0 (x2 + 1) (0 : Int32) x4 d) else ((xgR 7 (sx_X7_init_1 sh) d q0 6).bind fun v2 => (xaI .int (sx_X7_init_1 sh) d v2 x2).bind fun v3 => (f_X7_bitsOfLetter (sx_X7_init_1 sh) v1 x3 d).bind fun z4 => (xsI .int (sx_X7_init_1 sh) z4.2 v2 x2 (v3 ||| z4.1)).bind fun d5 => k_X7_init_118 sh rec60 q0 x2 (x3 + 1) x4 d5)))
def f_X7_init (sh : List xSh) (q0 : Nat) (q1 : Nat) (d : xD) : Option xD :=
  (xpI 7 sh d q0 0 (36 : Int32)).bind fun d6 => (xpI 7 sh d6 q0 1 (0 : Int32)).bind fun d7 => (xpI 7 sh d7 q0 2 (0 : Int32)).bind fun d8 => (xpI 7 sh d8 q0 3 (0 : Int32)).bind fun d9 => (xpI 7 sh d9 q0 4 (-1 : Int32)).bind fun d10 => (xpR 7 (sx_X7_init_1 sh) (xnw d10 sh.length) q0 6 sh.length).bind fun d11 => (xpI 7 (sx_X7_init_1 sh) d11 q0 7 (0 : Int32)).bind fun d12 => (xpI 7 (sx_X7_init_1 sh) d12 q0 8 (0 : Int32)).bind fun d13 => (xpR 7 (sx_X7_init_1 sh) d13 q0 5 q1).bind fun d14 => xloop (fun _ _ _ _ _ => none) (b_X7_init_60 sh) xF q0 (0 : Int32) (0 : Int32) (0 : Int32) d14
set_option maxHeartbeats 4000000 in
set_option maxRecDepth 100000 in
theorem mt_X7_init (l : Launch) (D : va_G) (cid : FieldType → ClassId) (b : Nat) (sa sv B0 : Nat) (sh : List xSh) (hsh : 0 < sh.length) (shz : List xSh) (hshz : (sx_X7_init_1 sh) = shz) (q0 : Nat) (q1 : Nat) (d : xD) (dz : xD) (hf : f_X7_init sh q0 q1 d = some dz) : xMet l yX7_init cX7_init 6 none 4 1 21 D cid b true sa sv B0 [.ref (b + q0), .ref (b + q1)] sh d none shz dz := by
  subst hshz
  refine xMet.of (by decide) (Nat.le_of_ble_eq_true rfl) ?_
  intro p e s m below meth c ls A S hr hin G hl
  have hl : lv_has ls 6 [(0, .ref (b + q0)), (1, .ref (b + q1))] := hl
  generalize ([.ref (b + q0), .ref (b + q1)] : List Value).toArray = av at S ⊢
  have hx := S.1
  have hb := S.2.1
  have hml := S.2.2.1
  have hown := S.2.2.2.1
  have hts := S.2.2.2.2.1
  have hstrT := S.2.2.2.2.2.2.2.2.1.1
  have hstrM := S.2.2.2.2.2.2.2.2.1.2.1
  have K124 : ∀ (d : xD), k_X7_init_124 sh d = some dz → ∀ (H : Heap) (locs : List Loc) (ls : Array Slot), lv_has ls 6 [] → xG D cid b A (sx_X7_init_1 sh) d s H locs → W p l e (xRm 4 1 21) s m av below meth c H locs 1 21 (MQ below (xQ D cid b true A none (sx_X7_init_1 sh) dz) av s 1 21 A) (F0 m 124 ls []) := by
    intro d hf H locs ls hl G
    unfold k_X7_init_124 at hf
    cases hf
    exact xr_vret S G (fun _ => sx_X7_init_1_len sh) hr dX7_init_124
  have K118 : ∀ (rec60 : Nat → Int32 → Int32 → Int32 → xD → Option xD) (hrec60 : ∀ (q0 : Nat) (x2 : Int32) (x3 : Int32) (x4 : Int32) (d : xD), rec60 q0 x2 x3 x4 d = some dz → ∀ (H : Heap) (locs : List Loc) (ls : Array Slot), lv_has ls 6 [(0, .ref (b + q0)), (2, .int x2), (3, .int x3), (4, .int x4)] → xG D cid b A (sx_X7_init_1 sh) d s H locs → W p l e (xRm 4 1 21) s m av below meth c H locs 1 21 (MQ below (xQ D cid b true A none (sx_X7_init_1 sh) dz) av s 1 21 A) (F0 m 60 ls [])) (q0 : Nat) (x2 : Int32) (x3 : Int32) (x4 : Int32) (d : xD), k_X7_init_118 sh rec60 q0 x2 x3 x4 d = some dz → ∀ (H : Heap) (locs : List Loc) (ls : Array Slot), lv_has ls 6 [(0, .ref (b + q0)), (2, .int x2), (3, .int x3), (4, .int x4)] → xG D cid b A (sx_X7_init_1 sh) d s H locs → W p l e (xRm 4 1 21) s m av below meth c H locs 1 21 (MQ below (xQ D cid b true A none (sx_X7_init_1 sh) dz) av s 1 21 A) (F0 m 118 ls []) := by
    intro rec60 hrec60 q0 x2 x3 x4 d hf H locs ls hl G
    unfold k_X7_init_118 at hf
    refine lv_iinc (v := (x4 + 1)) (lv' := [(4, .int (x4 + 1)), (0, .ref (b + q0)), (2, .int x2), (3, .int x3)]) hx hb dX7_init_118 hl (k := 3) rfl rfl (by decide) rfl (fun ls hl => ?_)
    refine lv_goto (tgt := 60) hx hb dX7_init_121 (by decide) ?_
    exact hrec60 q0 x2 x3 (x4 + 1) d hf _ _ ls (lv_sub hl [1, 2, 3, 0] rfl) G
  have K60 : ∀ (n : Nat) (q0 : Nat) (x2 : Int32) (x3 : Int32) (x4 : Int32) (d : xD), xloop (fun _ _ _ _ _ => none) (b_X7_init_60 sh) n q0 x2 x3 x4 d = some dz → ∀ (H : Heap) (locs : List Loc) (ls : Array Slot), lv_has ls 6 [(0, .ref (b + q0)), (2, .int x2), (3, .int x3), (4, .int x4)] → xG D cid b A (sx_X7_init_1 sh) d s H locs → W p l e (xRm 4 1 21) s m av below meth c H locs 1 21 (MQ below (xQ D cid b true A none (sx_X7_init_1 sh) dz) av s 1 21 A) (F0 m 60 ls []) := by
    intro n
    induction n with
    | zero =>
      intro q0 x2 x3 x4 d hf
      have hf : (none : Option xD) = some dz := hf
      cases hf
    | succ n hrec60 =>
      intro q0 x2 x3 x4 d hf H locs ls hl G
      have hf : b_X7_init_60 sh (xloop (fun _ _ _ _ _ => none) (b_X7_init_60 sh) n) q0 x2 x3 x4 d = some dz := hf
      unfold b_X7_init_60 at hf
      refine lv_iload hx hb dX7_init_60 (lv_at hl 3 rfl) ?_
      refine va_ldcS hx hb hown hstrT dX7_init_62 ?_
      refine xr_strlen S G hl.1 (fun _ => sx_X7_init_1_len sh) kw_178 ⟨Nat.le_of_ble_eq_true rfl, Nat.le_of_ble_eq_true rfl⟩ (Nat.le_of_ble_eq_true rfl) ⟨Nat.le_refl _, Nat.le_refl _⟩ dX7_init_64 (fun H locs G => ?_)
      refine lv_icmp_ge (tgt := 124) hx hb dX7_init_67 (by decide) (fun c => ?_) (fun c => ?_)
      · have hf := x_pos c hf
        exact K124 d hf _ _ ls (lv_sub hl [] rfl) G
      · have hf := x_neg c hf
        refine lv_iload_n hx hb dX7_init_70 rfl (lv_at hl 1 rfl) ?_
        refine lv_bipush (v := (21 : Int32)) hx hb dX7_init_71 (by decide) ?_
        refine lv_icmp_ge (tgt := 124) hx hb dX7_init_73 (by decide) (fun c => ?_) (fun c => ?_)
        · have hf := x_pos c hf
          exact K124 d hf _ _ ls (lv_sub hl [] rfl) G
        · have hf := x_neg c hf
          refine va_ldcS hx hb hown hstrT dX7_init_76 ?_
          refine lv_iload hx hb dX7_init_78 (lv_at hl 3 rfl) ?_
          obtain ⟨v1, hv1, hf⟩ := x_ob hf
          refine xr_charAt S G hl.1 (fun _ => sx_X7_init_1_len sh) hv1 kw_188 ⟨Nat.le_of_ble_eq_true rfl, Nat.le_of_ble_eq_true rfl⟩ (Nat.le_of_ble_eq_true rfl) ⟨Nat.le_refl _, Nat.le_refl _⟩ dX7_init_80 (fun H locs G => ?_)
          refine lv_istore (lv' := [(5, .int v1), (0, .ref (b + q0)), (2, .int x2), (3, .int x3), (4, .int x4)]) hx hb dX7_init_83 hl (by decide) rfl (fun ls hl => ?_)
          refine lv_iload hx hb dX7_init_85 (lv_at hl 0 rfl) ?_
          refine lv_bipush (v := (32 : Int32)) hx hb dX7_init_87 (by decide) ?_
          refine lv_icmp_ne (tgt := 100) hx hb dX7_init_89 (by decide) (fun c => ?_) (fun c => ?_)
          · have hf := x_neg c hf
            refine lv_aload_n hx hb dX7_init_100 rfl (lv_at hl 1 rfl) ?_
            obtain ⟨v2, hv2, hf⟩ := x_ob hf
            refine xr_getR (ci := 7) (k := 6) S G hv2 rfl kw_241 dX7_init_101 ?_
            refine lv_iload_n hx hb dX7_init_104 rfl (lv_at hl 2 rfl) ?_
            refine lv_dup2_11 hx hb dX7_init_105 rfl rfl ?_
            obtain ⟨v3, hv3, hf⟩ := x_ob hf
            refine xr_iald S G hv3 dX7_init_106 ?_
            refine lv_iload hx hb dX7_init_107 (lv_at hl 0 rfl) ?_
            refine lv_iload_n hx hb dX7_init_109 rfl (lv_at hl 3 rfl) ?_
            obtain ⟨z4, hz4, hf⟩ := x_ob hf
            refine xr_callS (As := [.int v1, .int x3]) (rest := [.int v3, .int x2, .ref (b + v2)]) (st1 := [.int z4.1, .int v3, .int x2, .ref (b + v2)]) S G hl.1 (fun _ => sx_X7_init_1_len sh) (mt_X7_bitsOfLetter l D cid b true sa sv B0 (sx_X7_init_1 sh) v1 x3 d _ _ hz4) kw_226 kw_227 kw_5 kw_228 hd_X7_bitsOfLetter ⟨Nat.le_of_ble_eq_true rfl, Nat.le_of_ble_eq_true rfl⟩ rfl rfl rfl (Nat.le_of_ble_eq_true rfl) ⟨Nat.le_of_ble_eq_true rfl, Nat.le_of_ble_eq_true rfl⟩ dX7_init_110 (fun H locs G => ?_)
            refine lv_ior hx hb dX7_init_113 ?_
            obtain ⟨d5, hd5, hf⟩ := x_ob hf
            refine xr_iast S G hd5 dX7_init_114 (fun H locs G => ?_)
            refine lv_iinc (v := (x3 + 1)) (lv' := [(3, .int (x3 + 1)), (5, .int v1), (0, .ref (b + q0)), (2, .int x2), (4, .int x4)]) hx hb dX7_init_115 hl (k := 3) rfl rfl (by decide) rfl (fun ls hl => ?_)
            exact K118 _ hrec60 q0 x2 (x3 + 1) x4 d5 hf _ _ ls (lv_sub hl [2, 3, 0, 4] rfl) G
          · have hf := x_pos c hf
            refine lv_iinc (v := (x2 + 1)) (lv' := [(2, .int (x2 + 1)), (5, .int v1), (0, .ref (b + q0)), (3, .int x3), (4, .int x4)]) hx hb dX7_init_92 hl (k := 2) rfl rfl (by decide) rfl (fun ls hl => ?_)
            refine lv_iconst (v := (0 : Int32)) hx hb dX7_init_95 (by decide) ?_
            refine lv_istore_n (lv' := [(3, .int (0 : Int32)), (2, .int (x2 + 1)), (5, .int v1), (0, .ref (b + q0)), (4, .int x4)]) hx hb dX7_init_96 rfl hl (by decide) rfl (fun ls hl => ?_)
            refine lv_goto (tgt := 118) hx hb dX7_init_97 (by decide) ?_
            exact K118 _ hrec60 q0 (x2 + 1) (0 : Int32) x4 d hf _ _ ls (lv_sub hl [3, 1, 0, 4] rfl) G
  unfold f_X7_init at hf
  refine lv_aload_n hx hb dX7_init_0 rfl (lv_at hl 0 rfl) ?_
  refine W.objInit hx hb hown (hts _ kw_176) (hts _ kw_31) (hts _ kw_32) rfl (by rw [hml]; exact hl.1) rfl dX7_init_1 (Nat.le_of_ble_eq_true rfl) (Nat.le_of_ble_eq_true rfl) ?_
  refine W.eq (g2 := F0 m 4 ls []) rfl ?_
  refine lv_aload_n hx hb dX7_init_4 rfl (lv_at hl 0 rfl) ?_
  refine lv_bipush (v := (36 : Int32)) hx hb dX7_init_5 (by decide) ?_
  obtain ⟨d6, hd6, hf⟩ := x_ob hf
  refine xr_putI (ci := 7) (k := 0) S G hd6 rfl kw_229 dX7_init_7 (fun H locs G => ?_)
  refine lv_aload_n hx hb dX7_init_10 rfl (lv_at hl 0 rfl) ?_
  refine lv_iconst (v := (0 : Int32)) hx hb dX7_init_11 (by decide) ?_
  obtain ⟨d7, hd7, hf⟩ := x_ob hf
  refine xr_putI (ci := 7) (k := 1) S G hd7 rfl kw_232 dX7_init_12 (fun H locs G => ?_)
  refine lv_aload_n hx hb dX7_init_15 rfl (lv_at hl 0 rfl) ?_
  refine lv_iconst (v := (0 : Int32)) hx hb dX7_init_16 (by decide) ?_
  obtain ⟨d8, hd8, hf⟩ := x_ob hf
  refine xr_putI (ci := 7) (k := 2) S G hd8 rfl kw_233 dX7_init_17 (fun H locs G => ?_)
  refine lv_aload_n hx hb dX7_init_20 rfl (lv_at hl 0 rfl) ?_
  refine lv_iconst (v := (0 : Int32)) hx hb dX7_init_21 (by decide) ?_
  obtain ⟨d9, hd9, hf⟩ := x_ob hf
  refine xr_putI (ci := 7) (k := 3) S G hd9 rfl kw_236 dX7_init_22 (fun H locs G => ?_)
  refine lv_aload_n hx hb dX7_init_25 rfl (lv_at hl 0 rfl) ?_
  refine lv_iconst (v := (-1 : Int32)) hx hb dX7_init_26 (by decide) ?_
  obtain ⟨d10, hd10, hf⟩ := x_ob hf
  refine xr_putI (ci := 7) (k := 4) S G hd10 rfl kw_238 dX7_init_27 (fun H locs G => ?_)
  refine lv_aload_n hx hb dX7_init_30 rfl (lv_at hl 0 rfl) ?_
  refine lv_bipush (v := (21 : Int32)) hx hb dX7_init_31 (by decide) ?_
  refine xr_newa (atype := .int) (ty := .int) (q := sh.length) (N := 21) (sh' := (sx_X7_init_1 sh)) 0 S G rfl hsh rfl rfl rfl rfl kw_73 (by decide) (by decide) (Nat.le_of_ble_eq_true rfl) (Nat.le_of_ble_eq_true rfl) (Nat.le_of_ble_eq_true rfl) dX7_init_33 (fun H G => ?_)
  obtain ⟨d11, hd11, hf⟩ := x_ob hf
  refine xr_putRF (ci := 7) (k := 6) S (hin rfl) G hd11 rfl rfl kw_241 dX7_init_35 (fun H locs G => ?_)
  refine lv_aload_n hx hb dX7_init_38 rfl (lv_at hl 0 rfl) ?_
  refine lv_iconst (v := (0 : Int32)) hx hb dX7_init_39 (by decide) ?_
  obtain ⟨d12, hd12, hf⟩ := x_ob hf
  refine xr_putI (ci := 7) (k := 7) S G hd12 rfl kw_242 dX7_init_40 (fun H locs G => ?_)
  refine lv_aload_n hx hb dX7_init_43 rfl (lv_at hl 0 rfl) ?_
  refine lv_iconst (v := (0 : Int32)) hx hb dX7_init_44 (by decide) ?_
  obtain ⟨d13, hd13, hf⟩ := x_ob hf
  refine xr_putI (ci := 7) (k := 8) S G hd13 rfl kw_243 dX7_init_45 (fun H locs G => ?_)
  refine lv_aload_n hx hb dX7_init_48 rfl (lv_at hl 0 rfl) ?_
  refine lv_aload_n hx hb dX7_init_49 rfl (lv_at hl 1 rfl) ?_
  obtain ⟨d14, hd14, hf⟩ := x_ob hf
  refine xr_putRF (ci := 7) (k := 5) S (hin rfl) G hd14 rfl rfl kw_240 dX7_init_50 (fun H locs G => ?_)
  refine lv_iconst (v := (0 : Int32)) hx hb dX7_init_53 (by decide) ?_
  refine lv_istore_n (lv' := [(2, .int (0 : Int32)), (0, .ref (b + q0)), (1, .ref (b + q1))]) hx hb dX7_init_54 rfl hl (by decide) rfl (fun ls hl => ?_)
  refine lv_iconst (v := (0 : Int32)) hx hb dX7_init_55 (by decide) ?_
  refine lv_istore_n (lv' := [(3, .int (0 : Int32)), (2, .int (0 : Int32)), (0, .ref (b + q0)), (1, .ref (b + q1))]) hx hb dX7_init_56 rfl hl (by decide) rfl (fun ls hl => ?_)
  refine lv_iconst (v := (0 : Int32)) hx hb dX7_init_57 (by decide) ?_
  refine lv_istore (lv' := [(4, .int (0 : Int32)), (3, .int (0 : Int32)), (2, .int (0 : Int32)), (0, .ref (b + q0)), (1, .ref (b + q1))]) hx hb dX7_init_58 hl (by decide) rfl (fun ls hl => ?_)
  exact K60 xF q0 (0 : Int32) (0 : Int32) (0 : Int32) d14 hf _ _ ls (lv_sub hl [3, 2, 1, 0] rfl) G

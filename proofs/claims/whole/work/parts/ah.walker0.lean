/-! THE CLASS'S walker WHERE IT RETURNS -/
theorem dX9_walker_0 : decode cX9_walker 0 = .ok (.aload_n 0, 1) := by decide +kernel
theorem dX9_walker_1 : decode cX9_walker 1 = .ok (.getfield 28, 3) := by decide +kernel
theorem dX9_walker_4 : decode cX9_walker 4 = .ok (.iload_n 1, 1) := by decide +kernel
theorem dX9_walker_5 : decode cX9_walker 5 = .ok (.invokevirtual 121, 3) := by decide +kernel
theorem dX9_walker_8 : decode cX9_walker 8 = .ok (.ifCond .ne 13, 3) := by decide +kernel
theorem dX9_walker_11 : decode cX9_walker 11 = .ok (.new 125, 3) := by decide +kernel
theorem dX9_walker_14 : decode cX9_walker 14 = .ok (.dup, 1) := by decide +kernel
theorem dX9_walker_15 : decode cX9_walker 15 = .ok (.ldc 127, 2) := by decide +kernel
theorem dX9_walker_17 : decode cX9_walker 17 = .ok (.invokespecial 129, 3) := by decide +kernel
theorem dX9_walker_20 : decode cX9_walker 20 = .ok (.athrow, 1) := by decide +kernel
theorem dX9_walker_21 : decode cX9_walker 21 = .ok (.iload_n 2, 1) := by decide +kernel
theorem dX9_walker_22 : decode cX9_walker 22 = .ok (.tableswitch 112 0 6 #[42, 52, 62, 72, 82, 92, 102], 42) := by decide +kernel
theorem dX9_walker_64 : decode cX9_walker 64 = .ok (.aload_n 0, 1) := by decide +kernel
theorem dX9_walker_65 : decode cX9_walker 65 = .ok (.getfield 56, 3) := by decide +kernel
theorem dX9_walker_68 : decode cX9_walker 68 = .ok (.getfield 132, 3) := by decide +kernel
theorem dX9_walker_71 : decode cX9_walker 71 = .ok (.iload_n 1, 1) := by decide +kernel
theorem dX9_walker_72 : decode cX9_walker 72 = .ok (.iaload, 1) := by decide +kernel
theorem dX9_walker_73 : decode cX9_walker 73 = .ok (.ireturn, 1) := by decide +kernel
theorem dX9_walker_74 : decode cX9_walker 74 = .ok (.aload_n 0, 1) := by decide +kernel
theorem dX9_walker_75 : decode cX9_walker 75 = .ok (.getfield 56, 3) := by decide +kernel
theorem dX9_walker_78 : decode cX9_walker 78 = .ok (.getfield 136, 3) := by decide +kernel
theorem dX9_walker_81 : decode cX9_walker 81 = .ok (.iload_n 1, 1) := by decide +kernel
theorem dX9_walker_82 : decode cX9_walker 82 = .ok (.iaload, 1) := by decide +kernel
theorem dX9_walker_83 : decode cX9_walker 83 = .ok (.ireturn, 1) := by decide +kernel
theorem dX9_walker_84 : decode cX9_walker 84 = .ok (.aload_n 0, 1) := by decide +kernel
theorem dX9_walker_85 : decode cX9_walker 85 = .ok (.getfield 56, 3) := by decide +kernel
theorem dX9_walker_88 : decode cX9_walker 88 = .ok (.getfield 139, 3) := by decide +kernel
theorem dX9_walker_91 : decode cX9_walker 91 = .ok (.iload_n 1, 1) := by decide +kernel
theorem dX9_walker_92 : decode cX9_walker 92 = .ok (.iaload, 1) := by decide +kernel
theorem dX9_walker_93 : decode cX9_walker 93 = .ok (.ireturn, 1) := by decide +kernel
theorem dX9_walker_94 : decode cX9_walker 94 = .ok (.aload_n 0, 1) := by decide +kernel
theorem dX9_walker_95 : decode cX9_walker 95 = .ok (.getfield 56, 3) := by decide +kernel
theorem dX9_walker_98 : decode cX9_walker 98 = .ok (.getfield 142, 3) := by decide +kernel
theorem dX9_walker_101 : decode cX9_walker 101 = .ok (.iload_n 1, 1) := by decide +kernel
theorem dX9_walker_102 : decode cX9_walker 102 = .ok (.iaload, 1) := by decide +kernel
theorem dX9_walker_103 : decode cX9_walker 103 = .ok (.ireturn, 1) := by decide +kernel
theorem dX9_walker_104 : decode cX9_walker 104 = .ok (.aload_n 0, 1) := by decide +kernel
theorem dX9_walker_105 : decode cX9_walker 105 = .ok (.getfield 56, 3) := by decide +kernel
theorem dX9_walker_108 : decode cX9_walker 108 = .ok (.getfield 145, 3) := by decide +kernel
theorem dX9_walker_111 : decode cX9_walker 111 = .ok (.iload_n 1, 1) := by decide +kernel
theorem dX9_walker_112 : decode cX9_walker 112 = .ok (.iaload, 1) := by decide +kernel
theorem dX9_walker_113 : decode cX9_walker 113 = .ok (.ireturn, 1) := by decide +kernel
theorem dX9_walker_114 : decode cX9_walker 114 = .ok (.aload_n 0, 1) := by decide +kernel
theorem dX9_walker_115 : decode cX9_walker 115 = .ok (.getfield 56, 3) := by decide +kernel
theorem dX9_walker_118 : decode cX9_walker 118 = .ok (.getfield 148, 3) := by decide +kernel
theorem dX9_walker_121 : decode cX9_walker 121 = .ok (.iload_n 1, 1) := by decide +kernel
theorem dX9_walker_122 : decode cX9_walker 122 = .ok (.iaload, 1) := by decide +kernel
theorem dX9_walker_123 : decode cX9_walker 123 = .ok (.ireturn, 1) := by decide +kernel
theorem dX9_walker_124 : decode cX9_walker 124 = .ok (.aload_n 0, 1) := by decide +kernel
theorem dX9_walker_125 : decode cX9_walker 125 = .ok (.getfield 56, 3) := by decide +kernel
theorem dX9_walker_128 : decode cX9_walker 128 = .ok (.getfield 151, 3) := by decide +kernel
theorem dX9_walker_131 : decode cX9_walker 131 = .ok (.iload_n 1, 1) := by decide +kernel
theorem dX9_walker_132 : decode cX9_walker 132 = .ok (.iaload, 1) := by decide +kernel
theorem dX9_walker_133 : decode cX9_walker 133 = .ok (.ireturn, 1) := by decide +kernel
theorem dX9_walker_134 : decode cX9_walker 134 = .ok (.new 154, 3) := by decide +kernel
theorem dX9_walker_137 : decode cX9_walker 137 = .ok (.dup, 1) := by decide +kernel
theorem dX9_walker_138 : decode cX9_walker 138 = .ok (.ldc 156, 2) := by decide +kernel
theorem dX9_walker_140 : decode cX9_walker 140 = .ok (.invokespecial 158, 3) := by decide +kernel
theorem dX9_walker_143 : decode cX9_walker 143 = .ok (.athrow, 1) := by decide +kernel
theorem hd_X9_walker : yX9_walker.cls = xCn 9 ∧ yX9_walker.cls ≠ "java/lang/invoke/MethodHandle" ∧ yX9_walker.cls ≠ "java/lang/invoke/VarHandle" ∧ (parseMethodDescriptor yX9_walker.desc).map (fun d => d.parameters.length) = some 2 := by decide +kernel
theorem xk_no {a r : Int32} {z : xD} {b : Int32} {dz : xD} (h : (some (a, b, z) : Option (Int32 × Int32 × xD)) = some (0, r, dz)) (ha : a ≠ 0) : False := ha (congrArg Prod.fst (Option.some.inj h))
set_option maxHeartbeats 4000000 in
set_option maxRecDepth 100000 in
theorem mt_X9_walker0 (l : Launch) (D : va_G) (cid : FieldType → ClassId) (b : Nat) (ex : Bool) (sa sv B0 : Nat) (sh : List xSh) (q0 : Nat) (x1 : Int32) (x2 : Int32) (d : xD) (r : Int32) (dz : xD) (hf : f_X9_walkerX sh q0 x1 x2 d = some (0, r, dz)) : xMet l yX9_walker cX9_walker 3 (some .int) 1 0 0 D cid b ex sa sv B0 [.ref (b + q0), .int x1, .int x2] sh d (some (.int r)) sh dz := by
  refine xMet.of (by decide) (Nat.le_of_ble_eq_true rfl) ?_
  intro p e s m below meth c ls A S hr hin G hl
  have hl : lv_has ls 3 [(0, .ref (b + q0)), (1, .int x1), (2, .int x2)] := hl
  generalize ([.ref (b + q0), .int x1, .int x2] : List Value).toArray = av at S ⊢
  have hx := S.1
  have hb := S.2.1
  unfold f_X9_walkerX at hf
  refine lv_aload_n hx hb dX9_walker_0 rfl (lv_at hl 0 rfl) ?_
  obtain ⟨v7, hv7, hf⟩ := x_ob hf
  refine xr_getR (ci := 9) (k := 4) S G hv7 rfl kw_485 dX9_walker_1 ?_
  refine lv_iload_n hx hb dX9_walker_4 rfl (lv_at hl 1 rfl) ?_
  obtain ⟨z8, hz8, hf⟩ := x_ob hf
  obtain ⟨hqz8, hz8⟩ := xon_of hz8
  refine xr_callV (ci := 3) (As := [.int x1]) (rest := []) (st1 := [.int z8.1]) S G hl.1 (fun _ => rfl) (mt_X3_hasWalker l D cid b ex sa sv B0 sh v7 x1 d _ _ hz8) hqz8 (by decide) kw_758 kw_759 kw_760 kw_2 kw_761 hd_X3_hasWalker ⟨Nat.le_of_ble_eq_true rfl, Nat.le_of_ble_eq_true rfl⟩ rfl rfl rfl (Nat.le_of_ble_eq_true rfl) ⟨Nat.le_of_ble_eq_true rfl, Nat.le_of_ble_eq_true rfl⟩ dX9_walker_5 (fun H locs G => ?_)
  refine lv_if_ne (tgt := 21) hx hb dX9_walker_8 (by decide) (fun c => ?_) (fun c => ?_)
  · have hf := x_neg c hf
    refine lv_iload_n hx hb dX9_walker_21 rfl (lv_at hl 2 rfl) ?_
    by_cases c0 : x2 = (0 : Int32)
    · have hf := x_pos c0 hf
      refine xr_tab (k := (0 : Int32)) (tgt := 64) hx hb c0 dX9_walker_22 (by decide) (by decide) rfl (by decide) ?_
      refine lv_aload_n hx hb dX9_walker_64 rfl (lv_at hl 0 rfl) ?_
      obtain ⟨v4, hv4, hf⟩ := x_ob hf
      refine xr_getR (ci := 9) (k := 8) S G hv4 rfl kw_489 dX9_walker_65 ?_
      obtain ⟨v5, hv5, hf⟩ := x_ob hf
      refine xr_getR (ci := 4) (k := 5) S G hv5 rfl kw_329 dX9_walker_68 ?_
      refine lv_iload_n hx hb dX9_walker_71 rfl (lv_at hl 1 rfl) ?_
      obtain ⟨v6, hv6, hf⟩ := x_ob hf
      refine xr_iald S G hv6 dX9_walker_72 ?_
      cases hf
      exact xr_iret S G (fun _ => rfl) hr dX9_walker_73
    have hf := x_neg c0 hf
    by_cases c1 : x2 = (1 : Int32)
    · have hf := x_pos c1 hf
      refine xr_tab (k := (1 : Int32)) (tgt := 74) hx hb c1 dX9_walker_22 (by decide) (by decide) rfl (by decide) ?_
      refine lv_aload_n hx hb dX9_walker_74 rfl (lv_at hl 0 rfl) ?_
      obtain ⟨v4, hv4, hf⟩ := x_ob hf
      refine xr_getR (ci := 9) (k := 8) S G hv4 rfl kw_489 dX9_walker_75 ?_
      obtain ⟨v5, hv5, hf⟩ := x_ob hf
      refine xr_getR (ci := 4) (k := 6) S G hv5 rfl kw_332 dX9_walker_78 ?_
      refine lv_iload_n hx hb dX9_walker_81 rfl (lv_at hl 1 rfl) ?_
      obtain ⟨v6, hv6, hf⟩ := x_ob hf
      refine xr_iald S G hv6 dX9_walker_82 ?_
      cases hf
      exact xr_iret S G (fun _ => rfl) hr dX9_walker_83
    have hf := x_neg c1 hf
    by_cases c2 : x2 = (2 : Int32)
    · have hf := x_pos c2 hf
      refine xr_tab (k := (2 : Int32)) (tgt := 84) hx hb c2 dX9_walker_22 (by decide) (by decide) rfl (by decide) ?_
      refine lv_aload_n hx hb dX9_walker_84 rfl (lv_at hl 0 rfl) ?_
      obtain ⟨v4, hv4, hf⟩ := x_ob hf
      refine xr_getR (ci := 9) (k := 8) S G hv4 rfl kw_489 dX9_walker_85 ?_
      obtain ⟨v5, hv5, hf⟩ := x_ob hf
      refine xr_getR (ci := 4) (k := 7) S G hv5 rfl kw_335 dX9_walker_88 ?_
      refine lv_iload_n hx hb dX9_walker_91 rfl (lv_at hl 1 rfl) ?_
      obtain ⟨v6, hv6, hf⟩ := x_ob hf
      refine xr_iald S G hv6 dX9_walker_92 ?_
      cases hf
      exact xr_iret S G (fun _ => rfl) hr dX9_walker_93
    have hf := x_neg c2 hf
    by_cases c3 : x2 = (3 : Int32)
    · have hf := x_pos c3 hf
      refine xr_tab (k := (3 : Int32)) (tgt := 94) hx hb c3 dX9_walker_22 (by decide) (by decide) rfl (by decide) ?_
      refine lv_aload_n hx hb dX9_walker_94 rfl (lv_at hl 0 rfl) ?_
      obtain ⟨v4, hv4, hf⟩ := x_ob hf
      refine xr_getR (ci := 9) (k := 8) S G hv4 rfl kw_489 dX9_walker_95 ?_
      obtain ⟨v5, hv5, hf⟩ := x_ob hf
      refine xr_getR (ci := 4) (k := 8) S G hv5 rfl kw_338 dX9_walker_98 ?_
      refine lv_iload_n hx hb dX9_walker_101 rfl (lv_at hl 1 rfl) ?_
      obtain ⟨v6, hv6, hf⟩ := x_ob hf
      refine xr_iald S G hv6 dX9_walker_102 ?_
      cases hf
      exact xr_iret S G (fun _ => rfl) hr dX9_walker_103
    have hf := x_neg c3 hf
    by_cases c4 : x2 = (4 : Int32)
    · have hf := x_pos c4 hf
      refine xr_tab (k := (4 : Int32)) (tgt := 104) hx hb c4 dX9_walker_22 (by decide) (by decide) rfl (by decide) ?_
      refine lv_aload_n hx hb dX9_walker_104 rfl (lv_at hl 0 rfl) ?_
      obtain ⟨v4, hv4, hf⟩ := x_ob hf
      refine xr_getR (ci := 9) (k := 8) S G hv4 rfl kw_489 dX9_walker_105 ?_
      obtain ⟨v5, hv5, hf⟩ := x_ob hf
      refine xr_getR (ci := 4) (k := 9) S G hv5 rfl kw_340 dX9_walker_108 ?_
      refine lv_iload_n hx hb dX9_walker_111 rfl (lv_at hl 1 rfl) ?_
      obtain ⟨v6, hv6, hf⟩ := x_ob hf
      refine xr_iald S G hv6 dX9_walker_112 ?_
      cases hf
      exact xr_iret S G (fun _ => rfl) hr dX9_walker_113
    have hf := x_neg c4 hf
    by_cases c5 : x2 = (5 : Int32)
    · have hf := x_pos c5 hf
      refine xr_tab (k := (5 : Int32)) (tgt := 114) hx hb c5 dX9_walker_22 (by decide) (by decide) rfl (by decide) ?_
      refine lv_aload_n hx hb dX9_walker_114 rfl (lv_at hl 0 rfl) ?_
      obtain ⟨v4, hv4, hf⟩ := x_ob hf
      refine xr_getR (ci := 9) (k := 8) S G hv4 rfl kw_489 dX9_walker_115 ?_
      obtain ⟨v5, hv5, hf⟩ := x_ob hf
      refine xr_getR (ci := 4) (k := 10) S G hv5 rfl kw_343 dX9_walker_118 ?_
      refine lv_iload_n hx hb dX9_walker_121 rfl (lv_at hl 1 rfl) ?_
      obtain ⟨v6, hv6, hf⟩ := x_ob hf
      refine xr_iald S G hv6 dX9_walker_122 ?_
      cases hf
      exact xr_iret S G (fun _ => rfl) hr dX9_walker_123
    have hf := x_neg c5 hf
    by_cases c6 : x2 = (6 : Int32)
    · have hf := x_pos c6 hf
      refine xr_tab (k := (6 : Int32)) (tgt := 124) hx hb c6 dX9_walker_22 (by decide) (by decide) rfl (by decide) ?_
      refine lv_aload_n hx hb dX9_walker_124 rfl (lv_at hl 0 rfl) ?_
      obtain ⟨v4, hv4, hf⟩ := x_ob hf
      refine xr_getR (ci := 9) (k := 8) S G hv4 rfl kw_489 dX9_walker_125 ?_
      obtain ⟨v5, hv5, hf⟩ := x_ob hf
      refine xr_getR (ci := 4) (k := 11) S G hv5 rfl kw_347 dX9_walker_128 ?_
      refine lv_iload_n hx hb dX9_walker_131 rfl (lv_at hl 1 rfl) ?_
      obtain ⟨v6, hv6, hf⟩ := x_ob hf
      refine xr_iald S G hv6 dX9_walker_132 ?_
      cases hf
      exact xr_iret S G (fun _ => rfl) hr dX9_walker_133
    have hf := x_neg c6 hf
    exact absurd hf (fun z => xk_no z (by decide))
  · have hf := x_pos c hf
    exact absurd hf (fun z => xk_no z (by decide))

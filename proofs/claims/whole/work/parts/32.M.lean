-- HalfLandingsModel.thrown()I
theorem dX10_thrown_0 : decode cX10_thrown 0 = .ok (.aload_n 0, 1) := by decide +kernel
theorem dX10_thrown_1 : decode cX10_thrown 1 = .ok (.getfield 145, 3) := by decide +kernel
theorem dX10_thrown_4 : decode cX10_thrown 4 = .ok (.ireturn, 1) := by decide +kernel
theorem hd_X10_thrown : yX10_thrown.cls = xCn 10 ∧ yX10_thrown.cls ≠ "java/lang/invoke/MethodHandle" ∧ yX10_thrown.cls ≠ "java/lang/invoke/VarHandle" ∧ (parseMethodDescriptor yX10_thrown.desc).map (fun d => d.parameters.length) = some 0 := by decide +kernel
def f_X10_thrown (sh : List xSh) (q0 : Nat) (d : xD) : Option (Int32 × xD) :=
  (xgI 10 sh d q0 0).bind fun v1 => some (v1, d)
set_option maxHeartbeats 4000000 in
set_option maxRecDepth 100000 in
theorem mt_X10_thrown (l : Launch) (D : va_G) (cid : FieldType → ClassId) (b : Nat) (ex : Bool) (sa sv B0 : Nat) (sh : List xSh) (q0 : Nat) (d : xD) (r : Int32) (dz : xD) (hf : f_X10_thrown sh q0 d = some (r, dz)) : xMet l yX10_thrown cX10_thrown 1 (some .int) 0 0 0 D cid b ex sa sv B0 [.ref (b + q0)] sh d (some (.int r)) sh dz := by
  refine xMet.of (by decide) (Nat.le_of_ble_eq_true rfl) ?_
  intro p e s m below meth c ls A S hr hin G hl
  have hl : lv_has ls 1 [(0, .ref (b + q0))] := hl
  generalize ([.ref (b + q0)] : List Value).toArray = av at S ⊢
  have hx := S.1
  have hb := S.2.1
  have hml := S.2.2.1
  have hown := S.2.2.2.1
  have hts := S.2.2.2.2.1
  unfold f_X10_thrown at hf
  refine lv_aload_n hx hb dX10_thrown_0 rfl (lv_at hl 0 rfl) ?_
  obtain ⟨v1, hv1, hf⟩ := x_ob hf
  refine xr_getI (ci := 10) (k := 0) S G hv1 rfl kw_1168 dX10_thrown_1 ?_
  cases hf
  exact xr_iret S G (fun _ => rfl) hr dX10_thrown_4
-- HalfLandingsModel.feed(IIIII)I
theorem dX10_feed_0 : decode cX10_feed 0 = .ok (.aload_n 0, 1) := by decide +kernel
theorem dX10_feed_1 : decode cX10_feed 1 = .ok (.iconst 0, 1) := by decide +kernel
theorem dX10_feed_2 : decode cX10_feed 2 = .ok (.putfield 145, 3) := by decide +kernel
theorem dX10_feed_5 : decode cX10_feed 5 = .ok (.aload_n 0, 1) := by decide +kernel
theorem dX10_feed_6 : decode cX10_feed 6 = .ok (.getfield 148, 3) := by decide +kernel
theorem dX10_feed_9 : decode cX10_feed 9 = .ok (.sipush 680, 3) := by decide +kernel
theorem dX10_feed_12 : decode cX10_feed 12 = .ok (.if_icmp .le 5, 3) := by decide +kernel
theorem dX10_feed_15 : decode cX10_feed 15 = .ok (.iconst (-1), 1) := by decide +kernel
theorem dX10_feed_16 : decode cX10_feed 16 = .ok (.ireturn, 1) := by decide +kernel
theorem dX10_feed_17 : decode cX10_feed 17 = .ok (.iconst 0, 1) := by decide +kernel
theorem dX10_feed_18 : decode cX10_feed 18 = .ok (.istore 6, 2) := by decide +kernel
theorem dX10_feed_20 : decode cX10_feed 20 = .ok (.iload 6, 2) := by decide +kernel
theorem dX10_feed_22 : decode cX10_feed 22 = .ok (.bipush 20, 2) := by decide +kernel
theorem dX10_feed_24 : decode cX10_feed 24 = .ok (.if_icmp .ge 86, 3) := by decide +kernel
theorem dX10_feed_27 : decode cX10_feed 27 = .ok (.iload 6, 2) := by decide +kernel
theorem dX10_feed_29 : decode cX10_feed 29 = .ok (.iconst 4, 1) := by decide +kernel
theorem dX10_feed_30 : decode cX10_feed 30 = .ok (.if_icmp .ge 7, 3) := by decide +kernel
theorem dX10_feed_33 : decode cX10_feed 33 = .ok (.iload_n 1, 1) := by decide +kernel
theorem dX10_feed_34 : decode cX10_feed 34 = .ok (.goto 39, 3) := by decide +kernel
theorem dX10_feed_37 : decode cX10_feed 37 = .ok (.iload 6, 2) := by decide +kernel
theorem dX10_feed_39 : decode cX10_feed 39 = .ok (.bipush 8, 2) := by decide +kernel
theorem dX10_feed_41 : decode cX10_feed 41 = .ok (.if_icmp .ge 7, 3) := by decide +kernel
theorem dX10_feed_44 : decode cX10_feed 44 = .ok (.iload_n 2, 1) := by decide +kernel
theorem dX10_feed_45 : decode cX10_feed 45 = .ok (.goto 28, 3) := by decide +kernel
theorem dX10_feed_48 : decode cX10_feed 48 = .ok (.iload 6, 2) := by decide +kernel
theorem dX10_feed_50 : decode cX10_feed 50 = .ok (.bipush 12, 2) := by decide +kernel
theorem dX10_feed_52 : decode cX10_feed 52 = .ok (.if_icmp .ge 7, 3) := by decide +kernel
theorem dX10_feed_55 : decode cX10_feed 55 = .ok (.iload_n 3, 1) := by decide +kernel
theorem dX10_feed_56 : decode cX10_feed 56 = .ok (.goto 17, 3) := by decide +kernel
theorem dX10_feed_59 : decode cX10_feed 59 = .ok (.iload 6, 2) := by decide +kernel
theorem dX10_feed_61 : decode cX10_feed 61 = .ok (.bipush 16, 2) := by decide +kernel
theorem dX10_feed_63 : decode cX10_feed 63 = .ok (.if_icmp .ge 8, 3) := by decide +kernel
theorem dX10_feed_66 : decode cX10_feed 66 = .ok (.iload 4, 2) := by decide +kernel
theorem dX10_feed_68 : decode cX10_feed 68 = .ok (.goto 5, 3) := by decide +kernel
theorem dX10_feed_71 : decode cX10_feed 71 = .ok (.iload 5, 2) := by decide +kernel
theorem dX10_feed_73 : decode cX10_feed 73 = .ok (.istore 7, 2) := by decide +kernel
theorem dX10_feed_75 : decode cX10_feed 75 = .ok (.aload_n 0, 1) := by decide +kernel
theorem dX10_feed_76 : decode cX10_feed 76 = .ok (.getfield 7, 3) := by decide +kernel
theorem dX10_feed_79 : decode cX10_feed 79 = .ok (.aload_n 0, 1) := by decide +kernel
theorem dX10_feed_80 : decode cX10_feed 80 = .ok (.getfield 148, 3) := by decide +kernel
theorem dX10_feed_83 : decode cX10_feed 83 = .ok (.iload 6, 2) := by decide +kernel
theorem dX10_feed_85 : decode cX10_feed 85 = .ok (.iadd, 1) := by decide +kernel
theorem dX10_feed_86 : decode cX10_feed 86 = .ok (.iload 7, 2) := by decide +kernel
theorem dX10_feed_88 : decode cX10_feed 88 = .ok (.bipush 24, 2) := by decide +kernel
theorem dX10_feed_90 : decode cX10_feed 90 = .ok (.bipush 8, 2) := by decide +kernel
theorem dX10_feed_92 : decode cX10_feed 92 = .ok (.iload 6, 2) := by decide +kernel
theorem dX10_feed_94 : decode cX10_feed 94 = .ok (.iconst 4, 1) := by decide +kernel
theorem dX10_feed_95 : decode cX10_feed 95 = .ok (.irem, 1) := by decide +kernel
theorem dX10_feed_96 : decode cX10_feed 96 = .ok (.imul, 1) := by decide +kernel
theorem dX10_feed_97 : decode cX10_feed 97 = .ok (.isub, 1) := by decide +kernel
theorem dX10_feed_98 : decode cX10_feed 98 = .ok (.ishr, 1) := by decide +kernel
theorem dX10_feed_99 : decode cX10_feed 99 = .ok (.sipush 255, 3) := by decide +kernel
theorem dX10_feed_102 : decode cX10_feed 102 = .ok (.iand, 1) := by decide +kernel
theorem dX10_feed_103 : decode cX10_feed 103 = .ok (.iastore, 1) := by decide +kernel
theorem dX10_feed_104 : decode cX10_feed 104 = .ok (.iinc 6 1, 3) := by decide +kernel
theorem dX10_feed_107 : decode cX10_feed 107 = .ok (.goto (-87), 3) := by decide +kernel
theorem dX10_feed_110 : decode cX10_feed 110 = .ok (.aload_n 0, 1) := by decide +kernel
theorem dX10_feed_111 : decode cX10_feed 111 = .ok (.dup, 1) := by decide +kernel
theorem dX10_feed_112 : decode cX10_feed 112 = .ok (.getfield 148, 3) := by decide +kernel
theorem dX10_feed_115 : decode cX10_feed 115 = .ok (.bipush 20, 2) := by decide +kernel
theorem dX10_feed_117 : decode cX10_feed 117 = .ok (.iadd, 1) := by decide +kernel
theorem dX10_feed_118 : decode cX10_feed 118 = .ok (.putfield 148, 3) := by decide +kernel
theorem dX10_feed_121 : decode cX10_feed 121 = .ok (.aload_n 0, 1) := by decide +kernel
theorem dX10_feed_122 : decode cX10_feed 122 = .ok (.getfield 148, 3) := by decide +kernel
theorem dX10_feed_125 : decode cX10_feed 125 = .ok (.ireturn, 1) := by decide +kernel
theorem hd_X10_feed : yX10_feed.cls = xCn 10 ∧ yX10_feed.cls ≠ "java/lang/invoke/MethodHandle" ∧ yX10_feed.cls ≠ "java/lang/invoke/VarHandle" ∧ (parseMethodDescriptor yX10_feed.desc).map (fun d => d.parameters.length) = some 5 := by decide +kernel
def k_X10_feed_110 (sh : List xSh) (q0 : Nat) (d : xD) : Option (Int32 × xD) :=
  (xgI 10 sh d q0 2).bind fun v1 => (xpI 10 sh d q0 2 (v1 + (20 : Int32))).bind fun d2 => (xgI 10 sh d2 q0 2).bind fun v3 => some (v3, d2)
def k_X10_feed_73 (sh : List xSh) (rec20 : Nat → Int32 → Int32 → Int32 → Int32 → Int32 → Int32 → xD → Option (Int32 × xD)) (q0 : Nat) (x1 : Int32) (x2 : Int32) (x3 : Int32) (x4 : Int32) (x5 : Int32) (x6 : Int32) (y0 : Int32) (d : xD) : Option (Int32 × xD) :=
  (xgR 10 sh d q0 1).bind fun v4 => (xgI 10 sh d q0 2).bind fun v5 => (xmI x6 (4 : Int32)).bind fun v6 => (xsI .int sh d v4 (v5 + x6) ((y0 >>> (((24 : Int32) - ((8 : Int32) * v6)) &&& 31)) &&& (255 : Int32))).bind fun d7 => rec20 q0 x1 x2 x3 x4 x5 (x6 + 1) d7
def b_X10_feed_20 (sh : List xSh) (rec20 : Nat → Int32 → Int32 → Int32 → Int32 → Int32 → Int32 → xD → Option (Int32 × xD)) (q0 : Nat) (x1 : Int32) (x2 : Int32) (x3 : Int32) (x4 : Int32) (x5 : Int32) (x6 : Int32) (d : xD) : Option (Int32 × xD) :=
  if (20 : Int32) ≤ x6 then (k_X10_feed_110 sh q0 d) else (if (4 : Int32) ≤ x6 then (if (8 : Int32) ≤ x6 then (if (12 : Int32) ≤ x6 then (if (16 : Int32) ≤ x6 then (k_X10_feed_73 sh rec20 q0 x1 x2 x3 x4 x5 x6 x5 d) else (k_X10_feed_73 sh rec20 q0 x1 x2 x3 x4 x5 x6 x4 d)) else (k_X10_feed_73 sh rec20 q0 x1 x2 x3 x4 x5 x6 x3 d)) else (k_X10_feed_73 sh rec20 q0 x1 x2 x3 x4 x5 x6 x2 d)) else (k_X10_feed_73 sh rec20 q0 x1 x2 x3 x4 x5 x6 x1 d))
def f_X10_feed (sh : List xSh) (q0 : Nat) (x1 : Int32) (x2 : Int32) (x3 : Int32) (x4 : Int32) (x5 : Int32) (d : xD) : Option (Int32 × xD) :=
  (xpI 10 sh d q0 0 (0 : Int32)).bind fun d8 => (xgI 10 sh d8 q0 2).bind fun v9 => if v9 ≤ (680 : Int32) then (xloop (fun _ _ _ _ _ _ _ _ => none) (b_X10_feed_20 sh) xF q0 x1 x2 x3 x4 x5 (0 : Int32) d8) else (some ((-1 : Int32), d8))
set_option maxHeartbeats 4000000 in
set_option maxRecDepth 100000 in
theorem mt_X10_feed (l : Launch) (D : va_G) (cid : FieldType → ClassId) (b : Nat) (ex : Bool) (sa sv B0 : Nat) (sh : List xSh) (q0 : Nat) (x1 : Int32) (x2 : Int32) (x3 : Int32) (x4 : Int32) (x5 : Int32) (d : xD) (r : Int32) (dz : xD) (hf : f_X10_feed sh q0 x1 x2 x3 x4 x5 d = some (r, dz)) : xMet l yX10_feed cX10_feed 8 (some .int) 0 0 0 D cid b ex sa sv B0 [.ref (b + q0), .int x1, .int x2, .int x3, .int x4, .int x5] sh d (some (.int r)) sh dz := by
  refine xMet.of (by decide) (Nat.le_of_ble_eq_true rfl) ?_
  intro p e s m below meth c ls A S hr hin G hl
  have hl : lv_has ls 8 [(0, .ref (b + q0)), (1, .int x1), (2, .int x2), (3, .int x3), (4, .int x4), (5, .int x5)] := hl
  generalize ([.ref (b + q0), .int x1, .int x2, .int x3, .int x4, .int x5] : List Value).toArray = av at S ⊢
  have hx := S.1
  have hb := S.2.1
  have hml := S.2.2.1
  have hown := S.2.2.2.1
  have hts := S.2.2.2.2.1
  have K110 : ∀ (q0 : Nat) (d : xD), k_X10_feed_110 sh q0 d = some (r, dz) → ∀ (H : Heap) (locs : List Loc) (ls : Array Slot), lv_has ls 8 [(0, .ref (b + q0))] → xG D cid b A sh d s H locs → W p l e (xRm 0 0 0) s m av below meth c H locs 0 0 (MQ below (xQ D cid b ex A (some (.int r)) sh dz) av s 0 0 A) (F0 m 110 ls []) := by
    intro q0 d hf H locs ls hl G
    unfold k_X10_feed_110 at hf
    refine lv_aload_n hx hb dX10_feed_110 rfl (lv_at hl 0 rfl) ?_
    refine lv_dup hx hb dX10_feed_111 rfl ?_
    obtain ⟨v1, hv1, hf⟩ := x_ob hf
    refine xr_getI (ci := 10) (k := 2) S G hv1 rfl kw_1170 dX10_feed_112 ?_
    refine lv_bipush (v := (20 : Int32)) hx hb dX10_feed_115 (by decide) ?_
    refine lv_iadd hx hb dX10_feed_117 ?_
    obtain ⟨d2, hd2, hf⟩ := x_ob hf
    refine xr_putI (ci := 10) (k := 2) S G hd2 rfl kw_1170 dX10_feed_118 (fun H locs G => ?_)
    refine lv_aload_n hx hb dX10_feed_121 rfl (lv_at hl 0 rfl) ?_
    obtain ⟨v3, hv3, hf⟩ := x_ob hf
    refine xr_getI (ci := 10) (k := 2) S G hv3 rfl kw_1170 dX10_feed_122 ?_
    cases hf
    exact xr_iret S G (fun _ => rfl) hr dX10_feed_125
  have K73 : ∀ (rec20 : Nat → Int32 → Int32 → Int32 → Int32 → Int32 → Int32 → xD → Option (Int32 × xD)) (hrec20 : ∀ (q0 : Nat) (x1 : Int32) (x2 : Int32) (x3 : Int32) (x4 : Int32) (x5 : Int32) (x6 : Int32) (d : xD), rec20 q0 x1 x2 x3 x4 x5 x6 d = some (r, dz) → ∀ (H : Heap) (locs : List Loc) (ls : Array Slot), lv_has ls 8 [(0, .ref (b + q0)), (1, .int x1), (2, .int x2), (3, .int x3), (4, .int x4), (5, .int x5), (6, .int x6)] → xG D cid b A sh d s H locs → W p l e (xRm 0 0 0) s m av below meth c H locs 0 0 (MQ below (xQ D cid b ex A (some (.int r)) sh dz) av s 0 0 A) (F0 m 20 ls [])) (q0 : Nat) (x1 : Int32) (x2 : Int32) (x3 : Int32) (x4 : Int32) (x5 : Int32) (x6 : Int32) (y0 : Int32) (d : xD), k_X10_feed_73 sh rec20 q0 x1 x2 x3 x4 x5 x6 y0 d = some (r, dz) → ∀ (H : Heap) (locs : List Loc) (ls : Array Slot), lv_has ls 8 [(0, .ref (b + q0)), (1, .int x1), (2, .int x2), (3, .int x3), (4, .int x4), (5, .int x5), (6, .int x6)] → xG D cid b A sh d s H locs → W p l e (xRm 0 0 0) s m av below meth c H locs 0 0 (MQ below (xQ D cid b ex A (some (.int r)) sh dz) av s 0 0 A) (F0 m 73 ls [.int y0]) := by
    intro rec20 hrec20 q0 x1 x2 x3 x4 x5 x6 y0 d hf H locs ls hl G
    unfold k_X10_feed_73 at hf
    refine lv_istore (lv' := [(7, .int y0), (0, .ref (b + q0)), (1, .int x1), (2, .int x2), (3, .int x3), (4, .int x4), (5, .int x5), (6, .int x6)]) hx hb dX10_feed_73 hl (by decide) rfl (fun ls hl => ?_)
    refine lv_aload_n hx hb dX10_feed_75 rfl (lv_at hl 1 rfl) ?_
    obtain ⟨v4, hv4, hf⟩ := x_ob hf
    refine xr_getR (ci := 10) (k := 1) S G hv4 rfl kw_1169 dX10_feed_76 ?_
    refine lv_aload_n hx hb dX10_feed_79 rfl (lv_at hl 1 rfl) ?_
    obtain ⟨v5, hv5, hf⟩ := x_ob hf
    refine xr_getI (ci := 10) (k := 2) S G hv5 rfl kw_1170 dX10_feed_80 ?_
    refine lv_iload hx hb dX10_feed_83 (lv_at hl 7 rfl) ?_
    refine lv_iadd hx hb dX10_feed_85 ?_
    refine lv_iload hx hb dX10_feed_86 (lv_at hl 0 rfl) ?_
    refine lv_bipush (v := (24 : Int32)) hx hb dX10_feed_88 (by decide) ?_
    refine lv_bipush (v := (8 : Int32)) hx hb dX10_feed_90 (by decide) ?_
    refine lv_iload hx hb dX10_feed_92 (lv_at hl 7 rfl) ?_
    refine lv_iconst (v := (4 : Int32)) hx hb dX10_feed_94 (by decide) ?_
    obtain ⟨v6, hv6, hf⟩ := x_ob hf
    refine xr_irem hx hb hv6 dX10_feed_95 ?_
    refine lv_imul hx hb dX10_feed_96 ?_
    refine lv_isub hx hb dX10_feed_97 ?_
    refine lv_ishr hx hb dX10_feed_98 ?_
    refine lv_sipush (v := (255 : Int32)) hx hb dX10_feed_99 (by decide) ?_
    refine lv_iand hx hb dX10_feed_102 ?_
    obtain ⟨d7, hd7, hf⟩ := x_ob hf
    refine xr_iast S G hd7 dX10_feed_103 (fun H locs G => ?_)
    refine lv_iinc (v := (x6 + 1)) (lv' := [(6, .int (x6 + 1)), (7, .int y0), (0, .ref (b + q0)), (1, .int x1), (2, .int x2), (3, .int x3), (4, .int x4), (5, .int x5)]) hx hb dX10_feed_104 hl (k := 7) rfl rfl (by decide) rfl (fun ls hl => ?_)
    refine lv_goto (tgt := 20) hx hb dX10_feed_107 (by decide) ?_
    exact hrec20 q0 x1 x2 x3 x4 x5 (x6 + 1) d7 hf _ _ ls (lv_sub hl [2, 3, 4, 5, 6, 7, 0] rfl) G
  have K20 : ∀ (n : Nat) (q0 : Nat) (x1 : Int32) (x2 : Int32) (x3 : Int32) (x4 : Int32) (x5 : Int32) (x6 : Int32) (d : xD), xloop (fun _ _ _ _ _ _ _ _ => none) (b_X10_feed_20 sh) n q0 x1 x2 x3 x4 x5 x6 d = some (r, dz) → ∀ (H : Heap) (locs : List Loc) (ls : Array Slot), lv_has ls 8 [(0, .ref (b + q0)), (1, .int x1), (2, .int x2), (3, .int x3), (4, .int x4), (5, .int x5), (6, .int x6)] → xG D cid b A sh d s H locs → W p l e (xRm 0 0 0) s m av below meth c H locs 0 0 (MQ below (xQ D cid b ex A (some (.int r)) sh dz) av s 0 0 A) (F0 m 20 ls []) := by
    intro n
    induction n with
    | zero =>
      intro q0 x1 x2 x3 x4 x5 x6 d hf
      have hf : (none : Option (Int32 × xD)) = some (r, dz) := hf
      cases hf
    | succ n hrec20 =>
      intro q0 x1 x2 x3 x4 x5 x6 d hf H locs ls hl G
      have hf : b_X10_feed_20 sh (xloop (fun _ _ _ _ _ _ _ _ => none) (b_X10_feed_20 sh) n) q0 x1 x2 x3 x4 x5 x6 d = some (r, dz) := hf
      unfold b_X10_feed_20 at hf
      refine lv_iload hx hb dX10_feed_20 (lv_at hl 6 rfl) ?_
      refine lv_bipush (v := (20 : Int32)) hx hb dX10_feed_22 (by decide) ?_
      refine lv_icmp_ge (tgt := 110) hx hb dX10_feed_24 (by decide) (fun c => ?_) (fun c => ?_)
      · have hf := x_pos c hf
        exact K110 q0 d hf _ _ ls (lv_sub hl [0] rfl) G
      · have hf := x_neg c hf
        refine lv_iload hx hb dX10_feed_27 (lv_at hl 6 rfl) ?_
        refine lv_iconst (v := (4 : Int32)) hx hb dX10_feed_29 (by decide) ?_
        refine lv_icmp_ge (tgt := 37) hx hb dX10_feed_30 (by decide) (fun c => ?_) (fun c => ?_)
        · have hf := x_pos c hf
          refine lv_iload hx hb dX10_feed_37 (lv_at hl 6 rfl) ?_
          refine lv_bipush (v := (8 : Int32)) hx hb dX10_feed_39 (by decide) ?_
          refine lv_icmp_ge (tgt := 48) hx hb dX10_feed_41 (by decide) (fun c => ?_) (fun c => ?_)
          · have hf := x_pos c hf
            refine lv_iload hx hb dX10_feed_48 (lv_at hl 6 rfl) ?_
            refine lv_bipush (v := (12 : Int32)) hx hb dX10_feed_50 (by decide) ?_
            refine lv_icmp_ge (tgt := 59) hx hb dX10_feed_52 (by decide) (fun c => ?_) (fun c => ?_)
            · have hf := x_pos c hf
              refine lv_iload hx hb dX10_feed_59 (lv_at hl 6 rfl) ?_
              refine lv_bipush (v := (16 : Int32)) hx hb dX10_feed_61 (by decide) ?_
              refine lv_icmp_ge (tgt := 71) hx hb dX10_feed_63 (by decide) (fun c => ?_) (fun c => ?_)
              · have hf := x_pos c hf
                refine lv_iload hx hb dX10_feed_71 (lv_at hl 5 rfl) ?_
                exact K73 _ hrec20 q0 x1 x2 x3 x4 x5 x6 x5 d hf _ _ ls (lv_sub hl [0, 1, 2, 3, 4, 5, 6] rfl) G
              · have hf := x_neg c hf
                refine lv_iload hx hb dX10_feed_66 (lv_at hl 4 rfl) ?_
                refine lv_goto (tgt := 73) hx hb dX10_feed_68 (by decide) ?_
                exact K73 _ hrec20 q0 x1 x2 x3 x4 x5 x6 x4 d hf _ _ ls (lv_sub hl [0, 1, 2, 3, 4, 5, 6] rfl) G
            · have hf := x_neg c hf
              refine lv_iload_n hx hb dX10_feed_55 rfl (lv_at hl 3 rfl) ?_
              refine lv_goto (tgt := 73) hx hb dX10_feed_56 (by decide) ?_
              exact K73 _ hrec20 q0 x1 x2 x3 x4 x5 x6 x3 d hf _ _ ls (lv_sub hl [0, 1, 2, 3, 4, 5, 6] rfl) G
          · have hf := x_neg c hf
            refine lv_iload_n hx hb dX10_feed_44 rfl (lv_at hl 2 rfl) ?_
            refine lv_goto (tgt := 73) hx hb dX10_feed_45 (by decide) ?_
            exact K73 _ hrec20 q0 x1 x2 x3 x4 x5 x6 x2 d hf _ _ ls (lv_sub hl [0, 1, 2, 3, 4, 5, 6] rfl) G
        · have hf := x_neg c hf
          refine lv_iload_n hx hb dX10_feed_33 rfl (lv_at hl 1 rfl) ?_
          refine lv_goto (tgt := 73) hx hb dX10_feed_34 (by decide) ?_
          exact K73 _ hrec20 q0 x1 x2 x3 x4 x5 x6 x1 d hf _ _ ls (lv_sub hl [0, 1, 2, 3, 4, 5, 6] rfl) G
  unfold f_X10_feed at hf
  refine lv_aload_n hx hb dX10_feed_0 rfl (lv_at hl 0 rfl) ?_
  refine lv_iconst (v := (0 : Int32)) hx hb dX10_feed_1 (by decide) ?_
  obtain ⟨d8, hd8, hf⟩ := x_ob hf
  refine xr_putI (ci := 10) (k := 0) S G hd8 rfl kw_1168 dX10_feed_2 (fun H locs G => ?_)
  refine lv_aload_n hx hb dX10_feed_5 rfl (lv_at hl 0 rfl) ?_
  obtain ⟨v9, hv9, hf⟩ := x_ob hf
  refine xr_getI (ci := 10) (k := 2) S G hv9 rfl kw_1170 dX10_feed_6 ?_
  refine lv_sipush (v := (680 : Int32)) hx hb dX10_feed_9 (by decide) ?_
  refine lv_icmp_le (tgt := 17) hx hb dX10_feed_12 (by decide) (fun c => ?_) (fun c => ?_)
  · have hf := x_pos c hf
    refine lv_iconst (v := (0 : Int32)) hx hb dX10_feed_17 (by decide) ?_
    refine lv_istore (lv' := [(6, .int (0 : Int32)), (0, .ref (b + q0)), (1, .int x1), (2, .int x2), (3, .int x3), (4, .int x4), (5, .int x5)]) hx hb dX10_feed_18 hl (by decide) rfl (fun ls hl => ?_)
    exact K20 xF q0 x1 x2 x3 x4 x5 (0 : Int32) d8 hf _ _ ls (lv_sub hl [1, 2, 3, 4, 5, 6, 0] rfl) G
  · have hf := x_neg c hf
    refine lv_iconst (v := (-1 : Int32)) hx hb dX10_feed_15 (by decide) ?_
    cases hf
    exact xr_iret S G (fun _ => rfl) hr dX10_feed_16
-- HalfLandingsModel.here()I
theorem dX10_here_0 : decode cX10_here 0 = .ok (.aload_n 0, 1) := by decide +kernel
theorem dX10_here_1 : decode cX10_here 1 = .ok (.getfield 151, 3) := by decide +kernel
theorem dX10_here_4 : decode cX10_here 4 = .ok (.aload_n 0, 1) := by decide +kernel
theorem dX10_here_5 : decode cX10_here 5 = .ok (.getfield 154, 3) := by decide +kernel
theorem dX10_here_8 : decode cX10_here 8 = .ok (.if_icmp .ge 15, 3) := by decide +kernel
theorem dX10_here_11 : decode cX10_here 11 = .ok (.aload_n 0, 1) := by decide +kernel
theorem dX10_here_12 : decode cX10_here 12 = .ok (.getfield 7, 3) := by decide +kernel
theorem dX10_here_15 : decode cX10_here 15 = .ok (.aload_n 0, 1) := by decide +kernel
theorem dX10_here_16 : decode cX10_here 16 = .ok (.getfield 151, 3) := by decide +kernel
theorem dX10_here_19 : decode cX10_here 19 = .ok (.iaload, 1) := by decide +kernel
theorem dX10_here_20 : decode cX10_here 20 = .ok (.goto 4, 3) := by decide +kernel
theorem dX10_here_23 : decode cX10_here 23 = .ok (.iconst (-1), 1) := by decide +kernel
theorem dX10_here_24 : decode cX10_here 24 = .ok (.ireturn, 1) := by decide +kernel
theorem hd_X10_here : yX10_here.cls = xCn 10 ∧ yX10_here.cls ≠ "java/lang/invoke/MethodHandle" ∧ yX10_here.cls ≠ "java/lang/invoke/VarHandle" ∧ (parseMethodDescriptor yX10_here.desc).map (fun d => d.parameters.length) = some 0 := by decide +kernel
def k_X10_here_24 (sh : List xSh) (y0 : Int32) (d : xD) : Option (Int32 × xD) :=
  some (y0, d)
def f_X10_here (sh : List xSh) (q0 : Nat) (d : xD) : Option (Int32 × xD) :=
  (xgI 10 sh d q0 22).bind fun v1 => (xgI 10 sh d q0 21).bind fun v2 => if v2 ≤ v1 then (k_X10_here_24 sh (-1 : Int32) d) else ((xgR 10 sh d q0 1).bind fun v3 => (xgI 10 sh d q0 22).bind fun v4 => (xaI .int sh d v3 v4).bind fun v5 => k_X10_here_24 sh v5 d)
set_option maxHeartbeats 4000000 in
set_option maxRecDepth 100000 in
theorem mt_X10_here (l : Launch) (D : va_G) (cid : FieldType → ClassId) (b : Nat) (ex : Bool) (sa sv B0 : Nat) (sh : List xSh) (q0 : Nat) (d : xD) (r : Int32) (dz : xD) (hf : f_X10_here sh q0 d = some (r, dz)) : xMet l yX10_here cX10_here 1 (some .int) 0 0 0 D cid b ex sa sv B0 [.ref (b + q0)] sh d (some (.int r)) sh dz := by
  refine xMet.of (by decide) (Nat.le_of_ble_eq_true rfl) ?_
  intro p e s m below meth c ls A S hr hin G hl
  have hl : lv_has ls 1 [(0, .ref (b + q0))] := hl
  generalize ([.ref (b + q0)] : List Value).toArray = av at S ⊢
  have hx := S.1
  have hb := S.2.1
  have hml := S.2.2.1
  have hown := S.2.2.2.1
  have hts := S.2.2.2.2.1
  have K24 : ∀ (y0 : Int32) (d : xD), k_X10_here_24 sh y0 d = some (r, dz) → ∀ (H : Heap) (locs : List Loc) (ls : Array Slot), lv_has ls 1 [] → xG D cid b A sh d s H locs → W p l e (xRm 0 0 0) s m av below meth c H locs 0 0 (MQ below (xQ D cid b ex A (some (.int r)) sh dz) av s 0 0 A) (F0 m 24 ls [.int y0]) := by
    intro y0 d hf H locs ls hl G
    unfold k_X10_here_24 at hf
    cases hf
    exact xr_iret S G (fun _ => rfl) hr dX10_here_24
  unfold f_X10_here at hf
  refine lv_aload_n hx hb dX10_here_0 rfl (lv_at hl 0 rfl) ?_
  obtain ⟨v1, hv1, hf⟩ := x_ob hf
  refine xr_getI (ci := 10) (k := 22) S G hv1 rfl kw_1190 dX10_here_1 ?_
  refine lv_aload_n hx hb dX10_here_4 rfl (lv_at hl 0 rfl) ?_
  obtain ⟨v2, hv2, hf⟩ := x_ob hf
  refine xr_getI (ci := 10) (k := 21) S G hv2 rfl kw_1189 dX10_here_5 ?_
  refine lv_icmp_ge (tgt := 23) hx hb dX10_here_8 (by decide) (fun c => ?_) (fun c => ?_)
  · have hf := x_pos c hf
    refine lv_iconst (v := (-1 : Int32)) hx hb dX10_here_23 (by decide) ?_
    exact K24 (-1 : Int32) d hf _ _ ls (lv_sub hl [] rfl) G
  · have hf := x_neg c hf
    refine lv_aload_n hx hb dX10_here_11 rfl (lv_at hl 0 rfl) ?_
    obtain ⟨v3, hv3, hf⟩ := x_ob hf
    refine xr_getR (ci := 10) (k := 1) S G hv3 rfl kw_1169 dX10_here_12 ?_
    refine lv_aload_n hx hb dX10_here_15 rfl (lv_at hl 0 rfl) ?_
    obtain ⟨v4, hv4, hf⟩ := x_ob hf
    refine xr_getI (ci := 10) (k := 22) S G hv4 rfl kw_1190 dX10_here_16 ?_
    obtain ⟨v5, hv5, hf⟩ := x_ob hf
    refine xr_iald S G hv5 dX10_here_19 ?_
    refine lv_goto (tgt := 24) hx hb dX10_here_20 (by decide) ?_
    exact K24 v5 d hf _ _ ls (lv_sub hl [] rfl) G
-- HalfLandingsModel.isSmall(I)Z
theorem dX10_isSmall_0 : decode cX10_isSmall 0 = .ok (.iload_n 0, 1) := by decide +kernel
theorem dX10_isSmall_1 : decode cX10_isSmall 1 = .ok (.bipush 97, 2) := by decide +kernel
theorem dX10_isSmall_3 : decode cX10_isSmall 3 = .ok (.if_icmp .lt 13, 3) := by decide +kernel
theorem dX10_isSmall_6 : decode cX10_isSmall 6 = .ok (.iload_n 0, 1) := by decide +kernel
theorem dX10_isSmall_7 : decode cX10_isSmall 7 = .ok (.bipush 122, 2) := by decide +kernel
theorem dX10_isSmall_9 : decode cX10_isSmall 9 = .ok (.if_icmp .gt 7, 3) := by decide +kernel
theorem dX10_isSmall_12 : decode cX10_isSmall 12 = .ok (.iconst 1, 1) := by decide +kernel
theorem dX10_isSmall_13 : decode cX10_isSmall 13 = .ok (.goto 4, 3) := by decide +kernel
theorem dX10_isSmall_16 : decode cX10_isSmall 16 = .ok (.iconst 0, 1) := by decide +kernel
theorem dX10_isSmall_17 : decode cX10_isSmall 17 = .ok (.ireturn, 1) := by decide +kernel
theorem hd_X10_isSmall : yX10_isSmall.cls ≠ "java/lang/invoke/MethodHandle" ∧ yX10_isSmall.cls ≠ "java/lang/invoke/VarHandle" ∧ (parseMethodDescriptor yX10_isSmall.desc).map (fun d => d.parameters.length) = some 1 := by decide +kernel
def k_X10_isSmall_17 (sh : List xSh) (y0 : Int32) (d : xD) : Option (Int32 × xD) :=
  (xz y0).bind fun v1 => some (v1, d)
def k_X10_isSmall_16 (sh : List xSh) (d : xD) : Option (Int32 × xD) :=
  k_X10_isSmall_17 sh (0 : Int32) d
def f_X10_isSmall (sh : List xSh) (x0 : Int32) (d : xD) : Option (Int32 × xD) :=
  if x0 < (97 : Int32) then (k_X10_isSmall_16 sh d) else (if (122 : Int32) < x0 then (k_X10_isSmall_16 sh d) else (k_X10_isSmall_17 sh (1 : Int32) d))
set_option maxHeartbeats 4000000 in
set_option maxRecDepth 100000 in
theorem mt_X10_isSmall (l : Launch) (D : va_G) (cid : FieldType → ClassId) (b : Nat) (ex : Bool) (sa sv B0 : Nat) (sh : List xSh) (x0 : Int32) (d : xD) (r : Int32) (dz : xD) (hf : f_X10_isSmall sh x0 d = some (r, dz)) : xMet l yX10_isSmall cX10_isSmall 1 (some .boolean) 0 0 0 D cid b ex sa sv B0 [.int x0] sh d (some (.int r)) sh dz := by
  refine xMet.of (by decide) (Nat.le_of_ble_eq_true rfl) ?_
  intro p e s m below meth c ls A S hr hin G hl
  have hl : lv_has ls 1 [(0, .int x0)] := hl
  generalize ([.int x0] : List Value).toArray = av at S ⊢
  have hx := S.1
  have hb := S.2.1
  have hml := S.2.2.1
  have hown := S.2.2.2.1
  have hts := S.2.2.2.2.1
  have K17 : ∀ (y0 : Int32) (d : xD), k_X10_isSmall_17 sh y0 d = some (r, dz) → ∀ (H : Heap) (locs : List Loc) (ls : Array Slot), lv_has ls 1 [] → xG D cid b A sh d s H locs → W p l e (xRm 0 0 0) s m av below meth c H locs 0 0 (MQ below (xQ D cid b ex A (some (.int r)) sh dz) av s 0 0 A) (F0 m 17 ls [.int y0]) := by
    intro y0 d hf H locs ls hl G
    unfold k_X10_isSmall_17 at hf
    obtain ⟨v1, hv1, hf⟩ := x_ob hf
    cases hf
    exact xr_zret S G (fun _ => rfl) hr hv1 dX10_isSmall_17
  have K16 : ∀ (d : xD), k_X10_isSmall_16 sh d = some (r, dz) → ∀ (H : Heap) (locs : List Loc) (ls : Array Slot), lv_has ls 1 [] → xG D cid b A sh d s H locs → W p l e (xRm 0 0 0) s m av below meth c H locs 0 0 (MQ below (xQ D cid b ex A (some (.int r)) sh dz) av s 0 0 A) (F0 m 16 ls []) := by
    intro d hf H locs ls hl G
    unfold k_X10_isSmall_16 at hf
    refine lv_iconst (v := (0 : Int32)) hx hb dX10_isSmall_16 (by decide) ?_
    exact K17 (0 : Int32) d hf _ _ ls (lv_sub hl [] rfl) G
  unfold f_X10_isSmall at hf
  refine lv_iload_n hx hb dX10_isSmall_0 rfl (lv_at hl 0 rfl) ?_
  refine lv_bipush (v := (97 : Int32)) hx hb dX10_isSmall_1 (by decide) ?_
  refine lv_icmp_lt (tgt := 16) hx hb dX10_isSmall_3 (by decide) (fun c => ?_) (fun c => ?_)
  · have hf := x_pos c hf
    exact K16 d hf _ _ ls (lv_sub hl [] rfl) G
  · have hf := x_neg c hf
    refine lv_iload_n hx hb dX10_isSmall_6 rfl (lv_at hl 0 rfl) ?_
    refine lv_bipush (v := (122 : Int32)) hx hb dX10_isSmall_7 (by decide) ?_
    refine lv_icmp_gt (tgt := 16) hx hb dX10_isSmall_9 (by decide) (fun c => ?_) (fun c => ?_)
    · have hf := x_pos c hf
      exact K16 d hf _ _ ls (lv_sub hl [] rfl) G
    · have hf := x_neg c hf
      refine lv_iconst (v := (1 : Int32)) hx hb dX10_isSmall_12 (by decide) ?_
      refine lv_goto (tgt := 17) hx hb dX10_isSmall_13 (by decide) ?_
      exact K17 (1 : Int32) d hf _ _ ls (lv_sub hl [] rfl) G
-- HalfLandingsModel.isDigit(I)Z
theorem dX10_isDigit_0 : decode cX10_isDigit 0 = .ok (.iload_n 0, 1) := by decide +kernel
theorem dX10_isDigit_1 : decode cX10_isDigit 1 = .ok (.bipush 48, 2) := by decide +kernel
theorem dX10_isDigit_3 : decode cX10_isDigit 3 = .ok (.if_icmp .lt 13, 3) := by decide +kernel
theorem dX10_isDigit_6 : decode cX10_isDigit 6 = .ok (.iload_n 0, 1) := by decide +kernel
theorem dX10_isDigit_7 : decode cX10_isDigit 7 = .ok (.bipush 57, 2) := by decide +kernel
theorem dX10_isDigit_9 : decode cX10_isDigit 9 = .ok (.if_icmp .gt 7, 3) := by decide +kernel
theorem dX10_isDigit_12 : decode cX10_isDigit 12 = .ok (.iconst 1, 1) := by decide +kernel
theorem dX10_isDigit_13 : decode cX10_isDigit 13 = .ok (.goto 4, 3) := by decide +kernel
theorem dX10_isDigit_16 : decode cX10_isDigit 16 = .ok (.iconst 0, 1) := by decide +kernel
theorem dX10_isDigit_17 : decode cX10_isDigit 17 = .ok (.ireturn, 1) := by decide +kernel
theorem hd_X10_isDigit : yX10_isDigit.cls ≠ "java/lang/invoke/MethodHandle" ∧ yX10_isDigit.cls ≠ "java/lang/invoke/VarHandle" ∧ (parseMethodDescriptor yX10_isDigit.desc).map (fun d => d.parameters.length) = some 1 := by decide +kernel
def k_X10_isDigit_17 (sh : List xSh) (y0 : Int32) (d : xD) : Option (Int32 × xD) :=
  (xz y0).bind fun v1 => some (v1, d)
def k_X10_isDigit_16 (sh : List xSh) (d : xD) : Option (Int32 × xD) :=
  k_X10_isDigit_17 sh (0 : Int32) d
def f_X10_isDigit (sh : List xSh) (x0 : Int32) (d : xD) : Option (Int32 × xD) :=
  if x0 < (48 : Int32) then (k_X10_isDigit_16 sh d) else (if (57 : Int32) < x0 then (k_X10_isDigit_16 sh d) else (k_X10_isDigit_17 sh (1 : Int32) d))
set_option maxHeartbeats 4000000 in
set_option maxRecDepth 100000 in
theorem mt_X10_isDigit (l : Launch) (D : va_G) (cid : FieldType → ClassId) (b : Nat) (ex : Bool) (sa sv B0 : Nat) (sh : List xSh) (x0 : Int32) (d : xD) (r : Int32) (dz : xD) (hf : f_X10_isDigit sh x0 d = some (r, dz)) : xMet l yX10_isDigit cX10_isDigit 1 (some .boolean) 0 0 0 D cid b ex sa sv B0 [.int x0] sh d (some (.int r)) sh dz := by
  refine xMet.of (by decide) (Nat.le_of_ble_eq_true rfl) ?_
  intro p e s m below meth c ls A S hr hin G hl
  have hl : lv_has ls 1 [(0, .int x0)] := hl
  generalize ([.int x0] : List Value).toArray = av at S ⊢
  have hx := S.1
  have hb := S.2.1
  have hml := S.2.2.1
  have hown := S.2.2.2.1
  have hts := S.2.2.2.2.1
  have K17 : ∀ (y0 : Int32) (d : xD), k_X10_isDigit_17 sh y0 d = some (r, dz) → ∀ (H : Heap) (locs : List Loc) (ls : Array Slot), lv_has ls 1 [] → xG D cid b A sh d s H locs → W p l e (xRm 0 0 0) s m av below meth c H locs 0 0 (MQ below (xQ D cid b ex A (some (.int r)) sh dz) av s 0 0 A) (F0 m 17 ls [.int y0]) := by
    intro y0 d hf H locs ls hl G
    unfold k_X10_isDigit_17 at hf
    obtain ⟨v1, hv1, hf⟩ := x_ob hf
    cases hf
    exact xr_zret S G (fun _ => rfl) hr hv1 dX10_isDigit_17
  have K16 : ∀ (d : xD), k_X10_isDigit_16 sh d = some (r, dz) → ∀ (H : Heap) (locs : List Loc) (ls : Array Slot), lv_has ls 1 [] → xG D cid b A sh d s H locs → W p l e (xRm 0 0 0) s m av below meth c H locs 0 0 (MQ below (xQ D cid b ex A (some (.int r)) sh dz) av s 0 0 A) (F0 m 16 ls []) := by
    intro d hf H locs ls hl G
    unfold k_X10_isDigit_16 at hf
    refine lv_iconst (v := (0 : Int32)) hx hb dX10_isDigit_16 (by decide) ?_
    exact K17 (0 : Int32) d hf _ _ ls (lv_sub hl [] rfl) G
  unfold f_X10_isDigit at hf
  refine lv_iload_n hx hb dX10_isDigit_0 rfl (lv_at hl 0 rfl) ?_
  refine lv_bipush (v := (48 : Int32)) hx hb dX10_isDigit_1 (by decide) ?_
  refine lv_icmp_lt (tgt := 16) hx hb dX10_isDigit_3 (by decide) (fun c => ?_) (fun c => ?_)
  · have hf := x_pos c hf
    exact K16 d hf _ _ ls (lv_sub hl [] rfl) G
  · have hf := x_neg c hf
    refine lv_iload_n hx hb dX10_isDigit_6 rfl (lv_at hl 0 rfl) ?_
    refine lv_bipush (v := (57 : Int32)) hx hb dX10_isDigit_7 (by decide) ?_
    refine lv_icmp_gt (tgt := 16) hx hb dX10_isDigit_9 (by decide) (fun c => ?_) (fun c => ?_)
    · have hf := x_pos c hf
      exact K16 d hf _ _ ls (lv_sub hl [] rfl) G
    · have hf := x_neg c hf
      refine lv_iconst (v := (1 : Int32)) hx hb dX10_isDigit_12 (by decide) ?_
      refine lv_goto (tgt := 17) hx hb dX10_isDigit_13 (by decide) ?_
      exact K17 (1 : Int32) d hf _ _ ls (lv_sub hl [] rfl) G
-- HalfLandingsModel.name()V
theorem dX10_name_0 : decode cX10_name 0 = .ok (.aload_n 0, 1) := by decide +kernel
theorem dX10_name_1 : decode cX10_name 1 = .ok (.iconst 0, 1) := by decide +kernel
theorem dX10_name_2 : decode cX10_name 2 = .ok (.putfield 174, 3) := by decide +kernel
theorem dX10_name_5 : decode cX10_name 5 = .ok (.iconst 0, 1) := by decide +kernel
theorem dX10_name_6 : decode cX10_name 6 = .ok (.istore_n 1, 1) := by decide +kernel
theorem dX10_name_7 : decode cX10_name 7 = .ok (.iload_n 1, 1) := by decide +kernel
theorem dX10_name_8 : decode cX10_name 8 = .ok (.bipush 6, 2) := by decide +kernel
theorem dX10_name_10 : decode cX10_name 10 = .ok (.if_icmp .ge 53, 3) := by decide +kernel
theorem dX10_name_13 : decode cX10_name 13 = .ok (.aload_n 0, 1) := by decide +kernel
theorem dX10_name_14 : decode cX10_name 14 = .ok (.aload_n 0, 1) := by decide +kernel
theorem dX10_name_15 : decode cX10_name 15 = .ok (.getfield 174, 3) := by decide +kernel
theorem dX10_name_18 : decode cX10_name 18 = .ok (.iconst 5, 1) := by decide +kernel
theorem dX10_name_19 : decode cX10_name 19 = .ok (.ishl, 1) := by decide +kernel
theorem dX10_name_20 : decode cX10_name 20 = .ok (.aload_n 0, 1) := by decide +kernel
theorem dX10_name_21 : decode cX10_name 21 = .ok (.getfield 161, 3) := by decide +kernel
theorem dX10_name_24 : decode cX10_name 24 = .ok (.iload_n 1, 1) := by decide +kernel
theorem dX10_name_25 : decode cX10_name 25 = .ok (.iadd, 1) := by decide +kernel
theorem dX10_name_26 : decode cX10_name 26 = .ok (.aload_n 0, 1) := by decide +kernel
theorem dX10_name_27 : decode cX10_name 27 = .ok (.getfield 151, 3) := by decide +kernel
theorem dX10_name_30 : decode cX10_name 30 = .ok (.if_icmp .ge 22, 3) := by decide +kernel
theorem dX10_name_33 : decode cX10_name 33 = .ok (.aload_n 0, 1) := by decide +kernel
theorem dX10_name_34 : decode cX10_name 34 = .ok (.getfield 7, 3) := by decide +kernel
theorem dX10_name_37 : decode cX10_name 37 = .ok (.aload_n 0, 1) := by decide +kernel
theorem dX10_name_38 : decode cX10_name 38 = .ok (.getfield 161, 3) := by decide +kernel
theorem dX10_name_41 : decode cX10_name 41 = .ok (.iload_n 1, 1) := by decide +kernel
theorem dX10_name_42 : decode cX10_name 42 = .ok (.iadd, 1) := by decide +kernel
theorem dX10_name_43 : decode cX10_name 43 = .ok (.iaload, 1) := by decide +kernel
theorem dX10_name_44 : decode cX10_name 44 = .ok (.bipush 97, 2) := by decide +kernel
theorem dX10_name_46 : decode cX10_name 46 = .ok (.isub, 1) := by decide +kernel
theorem dX10_name_47 : decode cX10_name 47 = .ok (.iconst 1, 1) := by decide +kernel
theorem dX10_name_48 : decode cX10_name 48 = .ok (.iadd, 1) := by decide +kernel
theorem dX10_name_49 : decode cX10_name 49 = .ok (.goto 4, 3) := by decide +kernel
theorem dX10_name_52 : decode cX10_name 52 = .ok (.iconst 0, 1) := by decide +kernel
theorem dX10_name_53 : decode cX10_name 53 = .ok (.ior, 1) := by decide +kernel
theorem dX10_name_54 : decode cX10_name 54 = .ok (.putfield 174, 3) := by decide +kernel
theorem dX10_name_57 : decode cX10_name 57 = .ok (.iinc 1 1, 3) := by decide +kernel
theorem dX10_name_60 : decode cX10_name 60 = .ok (.goto (-53), 3) := by decide +kernel
theorem dX10_name_63 : decode cX10_name 63 = .ok (.return_, 1) := by decide +kernel
theorem hd_X10_name : yX10_name.cls = xCn 10 ∧ yX10_name.cls ≠ "java/lang/invoke/MethodHandle" ∧ yX10_name.cls ≠ "java/lang/invoke/VarHandle" ∧ (parseMethodDescriptor yX10_name.desc).map (fun d => d.parameters.length) = some 0 := by decide +kernel
def k_X10_name_63 (sh : List xSh) (d : xD) : Option xD :=
  some d
def k_X10_name_53 (sh : List xSh) (rec7 : Nat → Int32 → xD → Option xD) (q0 : Nat) (x1 : Int32) (p0 : Nat) (y1 : Int32) (y2 : Int32) (d : xD) : Option xD :=
  (xpI 10 sh d p0 25 (y1 ||| y2)).bind fun d1 => rec7 q0 (x1 + 1) d1
def b_X10_name_7 (sh : List xSh) (rec7 : Nat → Int32 → xD → Option xD) (q0 : Nat) (x1 : Int32) (d : xD) : Option xD :=
  if (6 : Int32) ≤ x1 then (k_X10_name_63 sh d) else ((xgI 10 sh d q0 25).bind fun v2 => (xgI 10 sh d q0 23).bind fun v3 => (xgI 10 sh d q0 22).bind fun v4 => if v4 ≤ (v3 + x1) then (k_X10_name_53 sh rec7 q0 x1 q0 (v2 <<< ((5 : Int32) &&& 31)) (0 : Int32) d) else ((xgR 10 sh d q0 1).bind fun v5 => (xgI 10 sh d q0 23).bind fun v6 => (xaI .int sh d v5 (v6 + x1)).bind fun v7 => k_X10_name_53 sh rec7 q0 x1 q0 (v2 <<< ((5 : Int32) &&& 31)) ((v7 - (97 : Int32)) + (1 : Int32)) d))
def f_X10_name (sh : List xSh) (q0 : Nat) (d : xD) : Option xD :=
  (xpI 10 sh d q0 25 (0 : Int32)).bind fun d8 => xloop (fun _ _ _ => none) (b_X10_name_7 sh) xF q0 (0 : Int32) d8
set_option maxHeartbeats 4000000 in
set_option maxRecDepth 100000 in
theorem mt_X10_name (l : Launch) (D : va_G) (cid : FieldType → ClassId) (b : Nat) (ex : Bool) (sa sv B0 : Nat) (sh : List xSh) (q0 : Nat) (d : xD) (dz : xD) (hf : f_X10_name sh q0 d = some dz) : xMet l yX10_name cX10_name 2 none 0 0 0 D cid b ex sa sv B0 [.ref (b + q0)] sh d none sh dz := by
  refine xMet.of (by decide) (Nat.le_of_ble_eq_true rfl) ?_
  intro p e s m below meth c ls A S hr hin G hl
  have hl : lv_has ls 2 [(0, .ref (b + q0))] := hl
  generalize ([.ref (b + q0)] : List Value).toArray = av at S ⊢
  have hx := S.1
  have hb := S.2.1
  have hml := S.2.2.1
  have hown := S.2.2.2.1
  have hts := S.2.2.2.2.1
  have K63 : ∀ (d : xD), k_X10_name_63 sh d = some dz → ∀ (H : Heap) (locs : List Loc) (ls : Array Slot), lv_has ls 2 [] → xG D cid b A sh d s H locs → W p l e (xRm 0 0 0) s m av below meth c H locs 0 0 (MQ below (xQ D cid b ex A none sh dz) av s 0 0 A) (F0 m 63 ls []) := by
    intro d hf H locs ls hl G
    unfold k_X10_name_63 at hf
    cases hf
    exact xr_vret S G (fun _ => rfl) hr dX10_name_63
  have K53 : ∀ (rec7 : Nat → Int32 → xD → Option xD) (hrec7 : ∀ (q0 : Nat) (x1 : Int32) (d : xD), rec7 q0 x1 d = some dz → ∀ (H : Heap) (locs : List Loc) (ls : Array Slot), lv_has ls 2 [(0, .ref (b + q0)), (1, .int x1)] → xG D cid b A sh d s H locs → W p l e (xRm 0 0 0) s m av below meth c H locs 0 0 (MQ below (xQ D cid b ex A none sh dz) av s 0 0 A) (F0 m 7 ls [])) (q0 : Nat) (x1 : Int32) (p0 : Nat) (y1 : Int32) (y2 : Int32) (d : xD), k_X10_name_53 sh rec7 q0 x1 p0 y1 y2 d = some dz → ∀ (H : Heap) (locs : List Loc) (ls : Array Slot), lv_has ls 2 [(0, .ref (b + q0)), (1, .int x1)] → xG D cid b A sh d s H locs → W p l e (xRm 0 0 0) s m av below meth c H locs 0 0 (MQ below (xQ D cid b ex A none sh dz) av s 0 0 A) (F0 m 53 ls [.int y2, .int y1, .ref (b + p0)]) := by
    intro rec7 hrec7 q0 x1 p0 y1 y2 d hf H locs ls hl G
    unfold k_X10_name_53 at hf
    refine lv_ior hx hb dX10_name_53 ?_
    obtain ⟨d1, hd1, hf⟩ := x_ob hf
    refine xr_putI (ci := 10) (k := 25) S G hd1 rfl kw_1193 dX10_name_54 (fun H locs G => ?_)
    refine lv_iinc (v := (x1 + 1)) (lv' := [(1, .int (x1 + 1)), (0, .ref (b + q0))]) hx hb dX10_name_57 hl (k := 1) rfl rfl (by decide) rfl (fun ls hl => ?_)
    refine lv_goto (tgt := 7) hx hb dX10_name_60 (by decide) ?_
    exact hrec7 q0 (x1 + 1) d1 hf _ _ ls (lv_sub hl [1, 0] rfl) G
  have K7 : ∀ (n : Nat) (q0 : Nat) (x1 : Int32) (d : xD), xloop (fun _ _ _ => none) (b_X10_name_7 sh) n q0 x1 d = some dz → ∀ (H : Heap) (locs : List Loc) (ls : Array Slot), lv_has ls 2 [(0, .ref (b + q0)), (1, .int x1)] → xG D cid b A sh d s H locs → W p l e (xRm 0 0 0) s m av below meth c H locs 0 0 (MQ below (xQ D cid b ex A none sh dz) av s 0 0 A) (F0 m 7 ls []) := by
    intro n
    induction n with
    | zero =>
      intro q0 x1 d hf
      have hf : (none : Option xD) = some dz := hf
      cases hf
    | succ n hrec7 =>
      intro q0 x1 d hf H locs ls hl G
      have hf : b_X10_name_7 sh (xloop (fun _ _ _ => none) (b_X10_name_7 sh) n) q0 x1 d = some dz := hf
      unfold b_X10_name_7 at hf
      refine lv_iload_n hx hb dX10_name_7 rfl (lv_at hl 1 rfl) ?_
      refine lv_bipush (v := (6 : Int32)) hx hb dX10_name_8 (by decide) ?_
      refine lv_icmp_ge (tgt := 63) hx hb dX10_name_10 (by decide) (fun c => ?_) (fun c => ?_)
      · have hf := x_pos c hf
        exact K63 d hf _ _ ls (lv_sub hl [] rfl) G
      · have hf := x_neg c hf
        refine lv_aload_n hx hb dX10_name_13 rfl (lv_at hl 0 rfl) ?_
        refine lv_aload_n hx hb dX10_name_14 rfl (lv_at hl 0 rfl) ?_
        obtain ⟨v2, hv2, hf⟩ := x_ob hf
        refine xr_getI (ci := 10) (k := 25) S G hv2 rfl kw_1193 dX10_name_15 ?_
        refine lv_iconst (v := (5 : Int32)) hx hb dX10_name_18 (by decide) ?_
        refine lv_ishl hx hb dX10_name_19 ?_
        refine lv_aload_n hx hb dX10_name_20 rfl (lv_at hl 0 rfl) ?_
        obtain ⟨v3, hv3, hf⟩ := x_ob hf
        refine xr_getI (ci := 10) (k := 23) S G hv3 rfl kw_1191 dX10_name_21 ?_
        refine lv_iload_n hx hb dX10_name_24 rfl (lv_at hl 1 rfl) ?_
        refine lv_iadd hx hb dX10_name_25 ?_
        refine lv_aload_n hx hb dX10_name_26 rfl (lv_at hl 0 rfl) ?_
        obtain ⟨v4, hv4, hf⟩ := x_ob hf
        refine xr_getI (ci := 10) (k := 22) S G hv4 rfl kw_1190 dX10_name_27 ?_
        refine lv_icmp_ge (tgt := 52) hx hb dX10_name_30 (by decide) (fun c => ?_) (fun c => ?_)
        · have hf := x_pos c hf
          refine lv_iconst (v := (0 : Int32)) hx hb dX10_name_52 (by decide) ?_
          exact K53 _ hrec7 q0 x1 q0 (v2 <<< ((5 : Int32) &&& 31)) (0 : Int32) d hf _ _ ls (lv_sub hl [0, 1] rfl) G
        · have hf := x_neg c hf
          refine lv_aload_n hx hb dX10_name_33 rfl (lv_at hl 0 rfl) ?_
          obtain ⟨v5, hv5, hf⟩ := x_ob hf
          refine xr_getR (ci := 10) (k := 1) S G hv5 rfl kw_1169 dX10_name_34 ?_
          refine lv_aload_n hx hb dX10_name_37 rfl (lv_at hl 0 rfl) ?_
          obtain ⟨v6, hv6, hf⟩ := x_ob hf
          refine xr_getI (ci := 10) (k := 23) S G hv6 rfl kw_1191 dX10_name_38 ?_
          refine lv_iload_n hx hb dX10_name_41 rfl (lv_at hl 1 rfl) ?_
          refine lv_iadd hx hb dX10_name_42 ?_
          obtain ⟨v7, hv7, hf⟩ := x_ob hf
          refine xr_iald S G hv7 dX10_name_43 ?_
          refine lv_bipush (v := (97 : Int32)) hx hb dX10_name_44 (by decide) ?_
          refine lv_isub hx hb dX10_name_46 ?_
          refine lv_iconst (v := (1 : Int32)) hx hb dX10_name_47 (by decide) ?_
          refine lv_iadd hx hb dX10_name_48 ?_
          refine lv_goto (tgt := 53) hx hb dX10_name_49 (by decide) ?_
          exact K53 _ hrec7 q0 x1 q0 (v2 <<< ((5 : Int32) &&& 31)) ((v7 - (97 : Int32)) + (1 : Int32)) d hf _ _ ls (lv_sub hl [0, 1] rfl) G
  unfold f_X10_name at hf
  refine lv_aload_n hx hb dX10_name_0 rfl (lv_at hl 0 rfl) ?_
  refine lv_iconst (v := (0 : Int32)) hx hb dX10_name_1 (by decide) ?_
  obtain ⟨d8, hd8, hf⟩ := x_ob hf
  refine xr_putI (ci := 10) (k := 25) S G hd8 rfl kw_1193 dX10_name_2 (fun H locs G => ?_)
  refine lv_iconst (v := (0 : Int32)) hx hb dX10_name_5 (by decide) ?_
  refine lv_istore_n (lv' := [(1, .int (0 : Int32)), (0, .ref (b + q0))]) hx hb dX10_name_6 rfl hl (by decide) rfl (fun ls hl => ?_)
  exact K7 xF q0 (0 : Int32) d8 hf _ _ ls (lv_sub hl [1, 0] rfl) G
-- HalfLandingsModel.sign(I)V
theorem dX10_sign_0 : decode cX10_sign 0 = .ok (.aload_n 0, 1) := by decide +kernel
theorem dX10_sign_1 : decode cX10_sign 1 = .ok (.dup, 1) := by decide +kernel
theorem dX10_sign_2 : decode cX10_sign 2 = .ok (.getfield 151, 3) := by decide +kernel
theorem dX10_sign_5 : decode cX10_sign 5 = .ok (.iconst 1, 1) := by decide +kernel
theorem dX10_sign_6 : decode cX10_sign 6 = .ok (.iadd, 1) := by decide +kernel
theorem dX10_sign_7 : decode cX10_sign 7 = .ok (.putfield 151, 3) := by decide +kernel
theorem dX10_sign_10 : decode cX10_sign 10 = .ok (.aload_n 0, 1) := by decide +kernel
theorem dX10_sign_11 : decode cX10_sign 11 = .ok (.iload_n 1, 1) := by decide +kernel
theorem dX10_sign_12 : decode cX10_sign 12 = .ok (.bipush 59, 2) := by decide +kernel
theorem dX10_sign_14 : decode cX10_sign 14 = .ok (.if_icmp .eq 57, 3) := by decide +kernel
theorem dX10_sign_17 : decode cX10_sign 17 = .ok (.iload_n 1, 1) := by decide +kernel
theorem dX10_sign_18 : decode cX10_sign 18 = .ok (.bipush 40, 2) := by decide +kernel
theorem dX10_sign_20 : decode cX10_sign 20 = .ok (.if_icmp .eq 51, 3) := by decide +kernel
theorem dX10_sign_23 : decode cX10_sign 23 = .ok (.iload_n 1, 1) := by decide +kernel
theorem dX10_sign_24 : decode cX10_sign 24 = .ok (.bipush 41, 2) := by decide +kernel
theorem dX10_sign_26 : decode cX10_sign 26 = .ok (.if_icmp .eq 45, 3) := by decide +kernel
theorem dX10_sign_29 : decode cX10_sign 29 = .ok (.iload_n 1, 1) := by decide +kernel
theorem dX10_sign_30 : decode cX10_sign 30 = .ok (.bipush 43, 2) := by decide +kernel
theorem dX10_sign_32 : decode cX10_sign 32 = .ok (.if_icmp .eq 39, 3) := by decide +kernel
theorem dX10_sign_35 : decode cX10_sign 35 = .ok (.iload_n 1, 1) := by decide +kernel
theorem dX10_sign_36 : decode cX10_sign 36 = .ok (.bipush 45, 2) := by decide +kernel
theorem dX10_sign_38 : decode cX10_sign 38 = .ok (.if_icmp .eq 33, 3) := by decide +kernel
theorem dX10_sign_41 : decode cX10_sign 41 = .ok (.iload_n 1, 1) := by decide +kernel
theorem dX10_sign_42 : decode cX10_sign 42 = .ok (.bipush 42, 2) := by decide +kernel
theorem dX10_sign_44 : decode cX10_sign 44 = .ok (.if_icmp .eq 27, 3) := by decide +kernel
theorem dX10_sign_47 : decode cX10_sign 47 = .ok (.iload_n 1, 1) := by decide +kernel
theorem dX10_sign_48 : decode cX10_sign 48 = .ok (.bipush 47, 2) := by decide +kernel
theorem dX10_sign_50 : decode cX10_sign 50 = .ok (.if_icmp .eq 21, 3) := by decide +kernel
theorem dX10_sign_53 : decode cX10_sign 53 = .ok (.iload_n 1, 1) := by decide +kernel
theorem dX10_sign_54 : decode cX10_sign 54 = .ok (.bipush 60, 2) := by decide +kernel
theorem dX10_sign_56 : decode cX10_sign 56 = .ok (.if_icmp .eq 15, 3) := by decide +kernel
theorem dX10_sign_59 : decode cX10_sign 59 = .ok (.iload_n 1, 1) := by decide +kernel
theorem dX10_sign_60 : decode cX10_sign 60 = .ok (.bipush 61, 2) := by decide +kernel
theorem dX10_sign_62 : decode cX10_sign 62 = .ok (.if_icmp .eq 9, 3) := by decide +kernel
theorem dX10_sign_65 : decode cX10_sign 65 = .ok (.iload_n 1, 1) := by decide +kernel
theorem dX10_sign_66 : decode cX10_sign 66 = .ok (.bipush 62, 2) := by decide +kernel
theorem dX10_sign_68 : decode cX10_sign 68 = .ok (.if_icmp .ne 7, 3) := by decide +kernel
theorem dX10_sign_71 : decode cX10_sign 71 = .ok (.iconst 3, 1) := by decide +kernel
theorem dX10_sign_72 : decode cX10_sign 72 = .ok (.goto 4, 3) := by decide +kernel
theorem dX10_sign_75 : decode cX10_sign 75 = .ok (.iconst 5, 1) := by decide +kernel
theorem dX10_sign_76 : decode cX10_sign 76 = .ok (.putfield 164, 3) := by decide +kernel
theorem dX10_sign_79 : decode cX10_sign 79 = .ok (.aload_n 0, 1) := by decide +kernel
theorem dX10_sign_80 : decode cX10_sign 80 = .ok (.iload_n 1, 1) := by decide +kernel
theorem dX10_sign_81 : decode cX10_sign 81 = .ok (.putfield 174, 3) := by decide +kernel
theorem dX10_sign_84 : decode cX10_sign 84 = .ok (.iload_n 1, 1) := by decide +kernel
theorem dX10_sign_85 : decode cX10_sign 85 = .ok (.bipush 60, 2) := by decide +kernel
theorem dX10_sign_87 : decode cX10_sign 87 = .ok (.if_icmp .ne 19, 3) := by decide +kernel
theorem dX10_sign_90 : decode cX10_sign 90 = .ok (.aload_n 0, 1) := by decide +kernel
theorem dX10_sign_91 : decode cX10_sign 91 = .ok (.invokevirtual 157, 3) := by decide +kernel
theorem dX10_sign_94 : decode cX10_sign 94 = .ok (.bipush 61, 2) := by decide +kernel
theorem dX10_sign_96 : decode cX10_sign 96 = .ok (.if_icmp .ne 10, 3) := by decide +kernel
theorem dX10_sign_99 : decode cX10_sign 99 = .ok (.aload_n 0, 1) := by decide +kernel
theorem dX10_sign_100 : decode cX10_sign 100 = .ok (.sipush 256, 3) := by decide +kernel
theorem dX10_sign_103 : decode cX10_sign 103 = .ok (.putfield 174, 3) := by decide +kernel
theorem dX10_sign_106 : decode cX10_sign 106 = .ok (.iload_n 1, 1) := by decide +kernel
theorem dX10_sign_107 : decode cX10_sign 107 = .ok (.bipush 60, 2) := by decide +kernel
theorem dX10_sign_109 : decode cX10_sign 109 = .ok (.if_icmp .ne 19, 3) := by decide +kernel
theorem dX10_sign_112 : decode cX10_sign 112 = .ok (.aload_n 0, 1) := by decide +kernel
theorem dX10_sign_113 : decode cX10_sign 113 = .ok (.invokevirtual 157, 3) := by decide +kernel
theorem dX10_sign_116 : decode cX10_sign 116 = .ok (.bipush 62, 2) := by decide +kernel
theorem dX10_sign_118 : decode cX10_sign 118 = .ok (.if_icmp .ne 10, 3) := by decide +kernel
theorem dX10_sign_121 : decode cX10_sign 121 = .ok (.aload_n 0, 1) := by decide +kernel
theorem dX10_sign_122 : decode cX10_sign 122 = .ok (.sipush 257, 3) := by decide +kernel
theorem dX10_sign_125 : decode cX10_sign 125 = .ok (.putfield 174, 3) := by decide +kernel
theorem dX10_sign_128 : decode cX10_sign 128 = .ok (.iload_n 1, 1) := by decide +kernel
theorem dX10_sign_129 : decode cX10_sign 129 = .ok (.bipush 62, 2) := by decide +kernel
theorem dX10_sign_131 : decode cX10_sign 131 = .ok (.if_icmp .ne 19, 3) := by decide +kernel
theorem dX10_sign_134 : decode cX10_sign 134 = .ok (.aload_n 0, 1) := by decide +kernel
theorem dX10_sign_135 : decode cX10_sign 135 = .ok (.invokevirtual 157, 3) := by decide +kernel
theorem dX10_sign_138 : decode cX10_sign 138 = .ok (.bipush 61, 2) := by decide +kernel
theorem dX10_sign_140 : decode cX10_sign 140 = .ok (.if_icmp .ne 10, 3) := by decide +kernel
theorem dX10_sign_143 : decode cX10_sign 143 = .ok (.aload_n 0, 1) := by decide +kernel
theorem dX10_sign_144 : decode cX10_sign 144 = .ok (.sipush 258, 3) := by decide +kernel
theorem dX10_sign_147 : decode cX10_sign 147 = .ok (.putfield 174, 3) := by decide +kernel
theorem dX10_sign_150 : decode cX10_sign 150 = .ok (.aload_n 0, 1) := by decide +kernel
theorem dX10_sign_151 : decode cX10_sign 151 = .ok (.getfield 174, 3) := by decide +kernel
theorem dX10_sign_154 : decode cX10_sign 154 = .ok (.sipush 256, 3) := by decide +kernel
theorem dX10_sign_157 : decode cX10_sign 157 = .ok (.if_icmp .lt 13, 3) := by decide +kernel
theorem dX10_sign_160 : decode cX10_sign 160 = .ok (.aload_n 0, 1) := by decide +kernel
theorem dX10_sign_161 : decode cX10_sign 161 = .ok (.dup, 1) := by decide +kernel
theorem dX10_sign_162 : decode cX10_sign 162 = .ok (.getfield 151, 3) := by decide +kernel
theorem dX10_sign_165 : decode cX10_sign 165 = .ok (.iconst 1, 1) := by decide +kernel
theorem dX10_sign_166 : decode cX10_sign 166 = .ok (.iadd, 1) := by decide +kernel
theorem dX10_sign_167 : decode cX10_sign 167 = .ok (.putfield 151, 3) := by decide +kernel
theorem dX10_sign_170 : decode cX10_sign 170 = .ok (.return_, 1) := by decide +kernel
theorem hd_X10_sign : yX10_sign.cls = xCn 10 ∧ yX10_sign.cls ≠ "java/lang/invoke/MethodHandle" ∧ yX10_sign.cls ≠ "java/lang/invoke/VarHandle" ∧ (parseMethodDescriptor yX10_sign.desc).map (fun d => d.parameters.length) = some 1 := by decide +kernel
def k_X10_sign_170 (sh : List xSh) (d : xD) : Option xD :=
  some d
def k_X10_sign_150 (sh : List xSh) (q0 : Nat) (d : xD) : Option xD :=
  (xgI 10 sh d q0 25).bind fun v1 => if v1 < (256 : Int32) then (k_X10_sign_170 sh d) else ((xgI 10 sh d q0 22).bind fun v2 => (xpI 10 sh d q0 22 (v2 + (1 : Int32))).bind fun d3 => k_X10_sign_170 sh d3)
def k_X10_sign_128 (sh : List xSh) (q0 : Nat) (x1 : Int32) (d : xD) : Option xD :=
  if x1 = (62 : Int32) then ((xon 10 sh q0 (f_X10_here sh q0 d)).bind fun z4 => if z4.1 = (61 : Int32) then ((xpI 10 sh z4.2 q0 25 (258 : Int32)).bind fun d5 => k_X10_sign_150 sh q0 d5) else (k_X10_sign_150 sh q0 z4.2)) else (k_X10_sign_150 sh q0 d)
def k_X10_sign_106 (sh : List xSh) (q0 : Nat) (x1 : Int32) (d : xD) : Option xD :=
  if x1 = (60 : Int32) then ((xon 10 sh q0 (f_X10_here sh q0 d)).bind fun z6 => if z6.1 = (62 : Int32) then ((xpI 10 sh z6.2 q0 25 (257 : Int32)).bind fun d7 => k_X10_sign_128 sh q0 x1 d7) else (k_X10_sign_128 sh q0 x1 z6.2)) else (k_X10_sign_128 sh q0 x1 d)
def k_X10_sign_76 (sh : List xSh) (q0 : Nat) (x1 : Int32) (p0 : Nat) (y1 : Int32) (d : xD) : Option xD :=
  (xpI 10 sh d p0 24 y1).bind fun d8 => (xpI 10 sh d8 q0 25 x1).bind fun d9 => if x1 = (60 : Int32) then ((xon 10 sh q0 (f_X10_here sh q0 d9)).bind fun z10 => if z10.1 = (61 : Int32) then ((xpI 10 sh z10.2 q0 25 (256 : Int32)).bind fun d11 => k_X10_sign_106 sh q0 x1 d11) else (k_X10_sign_106 sh q0 x1 z10.2)) else (k_X10_sign_106 sh q0 x1 d9)
def k_X10_sign_71 (sh : List xSh) (q0 : Nat) (x1 : Int32) (p0 : Nat) (d : xD) : Option xD :=
  k_X10_sign_76 sh q0 x1 p0 (3 : Int32) d
def f_X10_sign (sh : List xSh) (q0 : Nat) (x1 : Int32) (d : xD) : Option xD :=
  (xgI 10 sh d q0 22).bind fun v12 => (xpI 10 sh d q0 22 (v12 + (1 : Int32))).bind fun d13 => if x1 = (59 : Int32) then (k_X10_sign_71 sh q0 x1 q0 d13) else (if x1 = (40 : Int32) then (k_X10_sign_71 sh q0 x1 q0 d13) else (if x1 = (41 : Int32) then (k_X10_sign_71 sh q0 x1 q0 d13) else (if x1 = (43 : Int32) then (k_X10_sign_71 sh q0 x1 q0 d13) else (if x1 = (45 : Int32) then (k_X10_sign_71 sh q0 x1 q0 d13) else (if x1 = (42 : Int32) then (k_X10_sign_71 sh q0 x1 q0 d13) else (if x1 = (47 : Int32) then (k_X10_sign_71 sh q0 x1 q0 d13) else (if x1 = (60 : Int32) then (k_X10_sign_71 sh q0 x1 q0 d13) else (if x1 = (61 : Int32) then (k_X10_sign_71 sh q0 x1 q0 d13) else (if x1 = (62 : Int32) then (k_X10_sign_71 sh q0 x1 q0 d13) else (k_X10_sign_76 sh q0 x1 q0 (5 : Int32) d13))))))))))
set_option maxHeartbeats 4000000 in
set_option maxRecDepth 100000 in
theorem mt_X10_sign (l : Launch) (D : va_G) (cid : FieldType → ClassId) (b : Nat) (ex : Bool) (sa sv B0 : Nat) (sh : List xSh) (q0 : Nat) (x1 : Int32) (d : xD) (dz : xD) (hf : f_X10_sign sh q0 x1 d = some dz) : xMet l yX10_sign cX10_sign 2 none 1 0 0 D cid b ex sa sv B0 [.ref (b + q0), .int x1] sh d none sh dz := by
  refine xMet.of (by decide) (Nat.le_of_ble_eq_true rfl) ?_
  intro p e s m below meth c ls A S hr hin G hl
  have hl : lv_has ls 2 [(0, .ref (b + q0)), (1, .int x1)] := hl
  generalize ([.ref (b + q0), .int x1] : List Value).toArray = av at S ⊢
  have hx := S.1
  have hb := S.2.1
  have hml := S.2.2.1
  have hown := S.2.2.2.1
  have hts := S.2.2.2.2.1
  have K170 : ∀ (d : xD), k_X10_sign_170 sh d = some dz → ∀ (H : Heap) (locs : List Loc) (ls : Array Slot), lv_has ls 2 [] → xG D cid b A sh d s H locs → W p l e (xRm 1 0 0) s m av below meth c H locs 0 0 (MQ below (xQ D cid b ex A none sh dz) av s 0 0 A) (F0 m 170 ls []) := by
    intro d hf H locs ls hl G
    unfold k_X10_sign_170 at hf
    cases hf
    exact xr_vret S G (fun _ => rfl) hr dX10_sign_170
  have K150 : ∀ (q0 : Nat) (d : xD), k_X10_sign_150 sh q0 d = some dz → ∀ (H : Heap) (locs : List Loc) (ls : Array Slot), lv_has ls 2 [(0, .ref (b + q0))] → xG D cid b A sh d s H locs → W p l e (xRm 1 0 0) s m av below meth c H locs 0 0 (MQ below (xQ D cid b ex A none sh dz) av s 0 0 A) (F0 m 150 ls []) := by
    intro q0 d hf H locs ls hl G
    unfold k_X10_sign_150 at hf
    refine lv_aload_n hx hb dX10_sign_150 rfl (lv_at hl 0 rfl) ?_
    obtain ⟨v1, hv1, hf⟩ := x_ob hf
    refine xr_getI (ci := 10) (k := 25) S G hv1 rfl kw_1193 dX10_sign_151 ?_
    refine lv_sipush (v := (256 : Int32)) hx hb dX10_sign_154 (by decide) ?_
    refine lv_icmp_lt (tgt := 170) hx hb dX10_sign_157 (by decide) (fun c => ?_) (fun c => ?_)
    · have hf := x_pos c hf
      exact K170 d hf _ _ ls (lv_sub hl [] rfl) G
    · have hf := x_neg c hf
      refine lv_aload_n hx hb dX10_sign_160 rfl (lv_at hl 0 rfl) ?_
      refine lv_dup hx hb dX10_sign_161 rfl ?_
      obtain ⟨v2, hv2, hf⟩ := x_ob hf
      refine xr_getI (ci := 10) (k := 22) S G hv2 rfl kw_1190 dX10_sign_162 ?_
      refine lv_iconst (v := (1 : Int32)) hx hb dX10_sign_165 (by decide) ?_
      refine lv_iadd hx hb dX10_sign_166 ?_
      obtain ⟨d3, hd3, hf⟩ := x_ob hf
      refine xr_putI (ci := 10) (k := 22) S G hd3 rfl kw_1190 dX10_sign_167 (fun H locs G => ?_)
      exact K170 d3 hf _ _ ls (lv_sub hl [] rfl) G
  have K128 : ∀ (q0 : Nat) (x1 : Int32) (d : xD), k_X10_sign_128 sh q0 x1 d = some dz → ∀ (H : Heap) (locs : List Loc) (ls : Array Slot), lv_has ls 2 [(0, .ref (b + q0)), (1, .int x1)] → xG D cid b A sh d s H locs → W p l e (xRm 1 0 0) s m av below meth c H locs 0 0 (MQ below (xQ D cid b ex A none sh dz) av s 0 0 A) (F0 m 128 ls []) := by
    intro q0 x1 d hf H locs ls hl G
    unfold k_X10_sign_128 at hf
    refine lv_iload_n hx hb dX10_sign_128 rfl (lv_at hl 1 rfl) ?_
    refine lv_bipush (v := (62 : Int32)) hx hb dX10_sign_129 (by decide) ?_
    refine lv_icmp_ne (tgt := 150) hx hb dX10_sign_131 (by decide) (fun c => ?_) (fun c => ?_)
    · have hf := x_neg c hf
      exact K150 q0 d hf _ _ ls (lv_sub hl [0] rfl) G
    · have hf := x_pos c hf
      refine lv_aload_n hx hb dX10_sign_134 rfl (lv_at hl 0 rfl) ?_
      obtain ⟨z4, hz4, hf⟩ := x_ob hf
      obtain ⟨hqz4, hz4⟩ := xon_of hz4
      refine xr_callV (ci := 10) (As := []) (rest := []) (st1 := [.int z4.1]) S G hl.1 (fun _ => rfl) (mt_X10_here l D cid b ex sa sv B0 sh q0 d _ _ hz4) hqz4 (by decide) kw_1384 kw_1386 ks_39 kw_17 kw_1387 hd_X10_here ⟨Nat.le_of_ble_eq_true rfl, Nat.le_of_ble_eq_true rfl⟩ rfl rfl rfl (Nat.le_of_ble_eq_true rfl) ⟨Nat.le_of_ble_eq_true rfl, Nat.le_of_ble_eq_true rfl⟩ dX10_sign_135 (fun H locs G => ?_)
      refine lv_bipush (v := (61 : Int32)) hx hb dX10_sign_138 (by decide) ?_
      refine lv_icmp_ne (tgt := 150) hx hb dX10_sign_140 (by decide) (fun c => ?_) (fun c => ?_)
      · have hf := x_neg c hf
        exact K150 q0 z4.2 hf _ _ ls (lv_sub hl [0] rfl) G
      · have hf := x_pos c hf
        refine lv_aload_n hx hb dX10_sign_143 rfl (lv_at hl 0 rfl) ?_
        refine lv_sipush (v := (258 : Int32)) hx hb dX10_sign_144 (by decide) ?_
        obtain ⟨d5, hd5, hf⟩ := x_ob hf
        refine xr_putI (ci := 10) (k := 25) S G hd5 rfl kw_1193 dX10_sign_147 (fun H locs G => ?_)
        exact K150 q0 d5 hf _ _ ls (lv_sub hl [0] rfl) G
  have K106 : ∀ (q0 : Nat) (x1 : Int32) (d : xD), k_X10_sign_106 sh q0 x1 d = some dz → ∀ (H : Heap) (locs : List Loc) (ls : Array Slot), lv_has ls 2 [(0, .ref (b + q0)), (1, .int x1)] → xG D cid b A sh d s H locs → W p l e (xRm 1 0 0) s m av below meth c H locs 0 0 (MQ below (xQ D cid b ex A none sh dz) av s 0 0 A) (F0 m 106 ls []) := by
    intro q0 x1 d hf H locs ls hl G
    unfold k_X10_sign_106 at hf
    refine lv_iload_n hx hb dX10_sign_106 rfl (lv_at hl 1 rfl) ?_
    refine lv_bipush (v := (60 : Int32)) hx hb dX10_sign_107 (by decide) ?_
    refine lv_icmp_ne (tgt := 128) hx hb dX10_sign_109 (by decide) (fun c => ?_) (fun c => ?_)
    · have hf := x_neg c hf
      exact K128 q0 x1 d hf _ _ ls (lv_sub hl [0, 1] rfl) G
    · have hf := x_pos c hf
      refine lv_aload_n hx hb dX10_sign_112 rfl (lv_at hl 0 rfl) ?_
      obtain ⟨z6, hz6, hf⟩ := x_ob hf
      obtain ⟨hqz6, hz6⟩ := xon_of hz6
      refine xr_callV (ci := 10) (As := []) (rest := []) (st1 := [.int z6.1]) S G hl.1 (fun _ => rfl) (mt_X10_here l D cid b ex sa sv B0 sh q0 d _ _ hz6) hqz6 (by decide) kw_1384 kw_1386 ks_39 kw_17 kw_1387 hd_X10_here ⟨Nat.le_of_ble_eq_true rfl, Nat.le_of_ble_eq_true rfl⟩ rfl rfl rfl (Nat.le_of_ble_eq_true rfl) ⟨Nat.le_of_ble_eq_true rfl, Nat.le_of_ble_eq_true rfl⟩ dX10_sign_113 (fun H locs G => ?_)
      refine lv_bipush (v := (62 : Int32)) hx hb dX10_sign_116 (by decide) ?_
      refine lv_icmp_ne (tgt := 128) hx hb dX10_sign_118 (by decide) (fun c => ?_) (fun c => ?_)
      · have hf := x_neg c hf
        exact K128 q0 x1 z6.2 hf _ _ ls (lv_sub hl [0, 1] rfl) G
      · have hf := x_pos c hf
        refine lv_aload_n hx hb dX10_sign_121 rfl (lv_at hl 0 rfl) ?_
        refine lv_sipush (v := (257 : Int32)) hx hb dX10_sign_122 (by decide) ?_
        obtain ⟨d7, hd7, hf⟩ := x_ob hf
        refine xr_putI (ci := 10) (k := 25) S G hd7 rfl kw_1193 dX10_sign_125 (fun H locs G => ?_)
        exact K128 q0 x1 d7 hf _ _ ls (lv_sub hl [0, 1] rfl) G
  have K76 : ∀ (q0 : Nat) (x1 : Int32) (p0 : Nat) (y1 : Int32) (d : xD), k_X10_sign_76 sh q0 x1 p0 y1 d = some dz → ∀ (H : Heap) (locs : List Loc) (ls : Array Slot), lv_has ls 2 [(0, .ref (b + q0)), (1, .int x1)] → xG D cid b A sh d s H locs → W p l e (xRm 1 0 0) s m av below meth c H locs 0 0 (MQ below (xQ D cid b ex A none sh dz) av s 0 0 A) (F0 m 76 ls [.int y1, .ref (b + p0)]) := by
    intro q0 x1 p0 y1 d hf H locs ls hl G
    unfold k_X10_sign_76 at hf
    obtain ⟨d8, hd8, hf⟩ := x_ob hf
    refine xr_putI (ci := 10) (k := 24) S G hd8 rfl kw_1192 dX10_sign_76 (fun H locs G => ?_)
    refine lv_aload_n hx hb dX10_sign_79 rfl (lv_at hl 0 rfl) ?_
    refine lv_iload_n hx hb dX10_sign_80 rfl (lv_at hl 1 rfl) ?_
    obtain ⟨d9, hd9, hf⟩ := x_ob hf
    refine xr_putI (ci := 10) (k := 25) S G hd9 rfl kw_1193 dX10_sign_81 (fun H locs G => ?_)
    refine lv_iload_n hx hb dX10_sign_84 rfl (lv_at hl 1 rfl) ?_
    refine lv_bipush (v := (60 : Int32)) hx hb dX10_sign_85 (by decide) ?_
    refine lv_icmp_ne (tgt := 106) hx hb dX10_sign_87 (by decide) (fun c => ?_) (fun c => ?_)
    · have hf := x_neg c hf
      exact K106 q0 x1 d9 hf _ _ ls (lv_sub hl [0, 1] rfl) G
    · have hf := x_pos c hf
      refine lv_aload_n hx hb dX10_sign_90 rfl (lv_at hl 0 rfl) ?_
      obtain ⟨z10, hz10, hf⟩ := x_ob hf
      obtain ⟨hqz10, hz10⟩ := xon_of hz10
      refine xr_callV (ci := 10) (As := []) (rest := []) (st1 := [.int z10.1]) S G hl.1 (fun _ => rfl) (mt_X10_here l D cid b ex sa sv B0 sh q0 d9 _ _ hz10) hqz10 (by decide) kw_1384 kw_1386 ks_39 kw_17 kw_1387 hd_X10_here ⟨Nat.le_of_ble_eq_true rfl, Nat.le_of_ble_eq_true rfl⟩ rfl rfl rfl (Nat.le_of_ble_eq_true rfl) ⟨Nat.le_of_ble_eq_true rfl, Nat.le_of_ble_eq_true rfl⟩ dX10_sign_91 (fun H locs G => ?_)
      refine lv_bipush (v := (61 : Int32)) hx hb dX10_sign_94 (by decide) ?_
      refine lv_icmp_ne (tgt := 106) hx hb dX10_sign_96 (by decide) (fun c => ?_) (fun c => ?_)
      · have hf := x_neg c hf
        exact K106 q0 x1 z10.2 hf _ _ ls (lv_sub hl [0, 1] rfl) G
      · have hf := x_pos c hf
        refine lv_aload_n hx hb dX10_sign_99 rfl (lv_at hl 0 rfl) ?_
        refine lv_sipush (v := (256 : Int32)) hx hb dX10_sign_100 (by decide) ?_
        obtain ⟨d11, hd11, hf⟩ := x_ob hf
        refine xr_putI (ci := 10) (k := 25) S G hd11 rfl kw_1193 dX10_sign_103 (fun H locs G => ?_)
        exact K106 q0 x1 d11 hf _ _ ls (lv_sub hl [0, 1] rfl) G
  have K71 : ∀ (q0 : Nat) (x1 : Int32) (p0 : Nat) (d : xD), k_X10_sign_71 sh q0 x1 p0 d = some dz → ∀ (H : Heap) (locs : List Loc) (ls : Array Slot), lv_has ls 2 [(0, .ref (b + q0)), (1, .int x1)] → xG D cid b A sh d s H locs → W p l e (xRm 1 0 0) s m av below meth c H locs 0 0 (MQ below (xQ D cid b ex A none sh dz) av s 0 0 A) (F0 m 71 ls [.ref (b + p0)]) := by
    intro q0 x1 p0 d hf H locs ls hl G
    unfold k_X10_sign_71 at hf
    refine lv_iconst (v := (3 : Int32)) hx hb dX10_sign_71 (by decide) ?_
    refine lv_goto (tgt := 76) hx hb dX10_sign_72 (by decide) ?_
    exact K76 q0 x1 p0 (3 : Int32) d hf _ _ ls (lv_sub hl [0, 1] rfl) G
  unfold f_X10_sign at hf
  refine lv_aload_n hx hb dX10_sign_0 rfl (lv_at hl 0 rfl) ?_
  refine lv_dup hx hb dX10_sign_1 rfl ?_
  obtain ⟨v12, hv12, hf⟩ := x_ob hf
  refine xr_getI (ci := 10) (k := 22) S G hv12 rfl kw_1190 dX10_sign_2 ?_
  refine lv_iconst (v := (1 : Int32)) hx hb dX10_sign_5 (by decide) ?_
  refine lv_iadd hx hb dX10_sign_6 ?_
  obtain ⟨d13, hd13, hf⟩ := x_ob hf
  refine xr_putI (ci := 10) (k := 22) S G hd13 rfl kw_1190 dX10_sign_7 (fun H locs G => ?_)
  refine lv_aload_n hx hb dX10_sign_10 rfl (lv_at hl 0 rfl) ?_
  refine lv_iload_n hx hb dX10_sign_11 rfl (lv_at hl 1 rfl) ?_
  refine lv_bipush (v := (59 : Int32)) hx hb dX10_sign_12 (by decide) ?_
  refine lv_icmp_eq (tgt := 71) hx hb dX10_sign_14 (by decide) (fun c => ?_) (fun c => ?_)
  · have hf := x_pos c hf
    exact K71 q0 x1 q0 d13 hf _ _ ls (lv_sub hl [0, 1] rfl) G
  · have hf := x_neg c hf
    refine lv_iload_n hx hb dX10_sign_17 rfl (lv_at hl 1 rfl) ?_
    refine lv_bipush (v := (40 : Int32)) hx hb dX10_sign_18 (by decide) ?_
    refine lv_icmp_eq (tgt := 71) hx hb dX10_sign_20 (by decide) (fun c => ?_) (fun c => ?_)
    · have hf := x_pos c hf
      exact K71 q0 x1 q0 d13 hf _ _ ls (lv_sub hl [0, 1] rfl) G
    · have hf := x_neg c hf
      refine lv_iload_n hx hb dX10_sign_23 rfl (lv_at hl 1 rfl) ?_
      refine lv_bipush (v := (41 : Int32)) hx hb dX10_sign_24 (by decide) ?_
      refine lv_icmp_eq (tgt := 71) hx hb dX10_sign_26 (by decide) (fun c => ?_) (fun c => ?_)
      · have hf := x_pos c hf
        exact K71 q0 x1 q0 d13 hf _ _ ls (lv_sub hl [0, 1] rfl) G
      · have hf := x_neg c hf
        refine lv_iload_n hx hb dX10_sign_29 rfl (lv_at hl 1 rfl) ?_
        refine lv_bipush (v := (43 : Int32)) hx hb dX10_sign_30 (by decide) ?_
        refine lv_icmp_eq (tgt := 71) hx hb dX10_sign_32 (by decide) (fun c => ?_) (fun c => ?_)
        · have hf := x_pos c hf
          exact K71 q0 x1 q0 d13 hf _ _ ls (lv_sub hl [0, 1] rfl) G
        · have hf := x_neg c hf
          refine lv_iload_n hx hb dX10_sign_35 rfl (lv_at hl 1 rfl) ?_
          refine lv_bipush (v := (45 : Int32)) hx hb dX10_sign_36 (by decide) ?_
          refine lv_icmp_eq (tgt := 71) hx hb dX10_sign_38 (by decide) (fun c => ?_) (fun c => ?_)
          · have hf := x_pos c hf
            exact K71 q0 x1 q0 d13 hf _ _ ls (lv_sub hl [0, 1] rfl) G
          · have hf := x_neg c hf
            refine lv_iload_n hx hb dX10_sign_41 rfl (lv_at hl 1 rfl) ?_
            refine lv_bipush (v := (42 : Int32)) hx hb dX10_sign_42 (by decide) ?_
            refine lv_icmp_eq (tgt := 71) hx hb dX10_sign_44 (by decide) (fun c => ?_) (fun c => ?_)
            · have hf := x_pos c hf
              exact K71 q0 x1 q0 d13 hf _ _ ls (lv_sub hl [0, 1] rfl) G
            · have hf := x_neg c hf
              refine lv_iload_n hx hb dX10_sign_47 rfl (lv_at hl 1 rfl) ?_
              refine lv_bipush (v := (47 : Int32)) hx hb dX10_sign_48 (by decide) ?_
              refine lv_icmp_eq (tgt := 71) hx hb dX10_sign_50 (by decide) (fun c => ?_) (fun c => ?_)
              · have hf := x_pos c hf
                exact K71 q0 x1 q0 d13 hf _ _ ls (lv_sub hl [0, 1] rfl) G
              · have hf := x_neg c hf
                refine lv_iload_n hx hb dX10_sign_53 rfl (lv_at hl 1 rfl) ?_
                refine lv_bipush (v := (60 : Int32)) hx hb dX10_sign_54 (by decide) ?_
                refine lv_icmp_eq (tgt := 71) hx hb dX10_sign_56 (by decide) (fun c => ?_) (fun c => ?_)
                · have hf := x_pos c hf
                  exact K71 q0 x1 q0 d13 hf _ _ ls (lv_sub hl [0, 1] rfl) G
                · have hf := x_neg c hf
                  refine lv_iload_n hx hb dX10_sign_59 rfl (lv_at hl 1 rfl) ?_
                  refine lv_bipush (v := (61 : Int32)) hx hb dX10_sign_60 (by decide) ?_
                  refine lv_icmp_eq (tgt := 71) hx hb dX10_sign_62 (by decide) (fun c => ?_) (fun c => ?_)
                  · have hf := x_pos c hf
                    exact K71 q0 x1 q0 d13 hf _ _ ls (lv_sub hl [0, 1] rfl) G
                  · have hf := x_neg c hf
                    refine lv_iload_n hx hb dX10_sign_65 rfl (lv_at hl 1 rfl) ?_
                    refine lv_bipush (v := (62 : Int32)) hx hb dX10_sign_66 (by decide) ?_
                    refine lv_icmp_ne (tgt := 75) hx hb dX10_sign_68 (by decide) (fun c => ?_) (fun c => ?_)
                    · have hf := x_neg c hf
                      refine lv_iconst (v := (5 : Int32)) hx hb dX10_sign_75 (by decide) ?_
                      exact K76 q0 x1 q0 (5 : Int32) d13 hf _ _ ls (lv_sub hl [0, 1] rfl) G
                    · have hf := x_pos c hf
                      exact K71 q0 x1 q0 d13 hf _ _ ls (lv_sub hl [0, 1] rfl) G
-- HalfLandingsModel.wrong(I)V
theorem dX10_wrong_0 : decode cX10_wrong 0 = .ok (.aload_n 0, 1) := by decide +kernel
theorem dX10_wrong_1 : decode cX10_wrong 1 = .ok (.getfield 199, 3) := by decide +kernel
theorem dX10_wrong_4 : decode cX10_wrong 4 = .ok (.ifCond .eq 4, 3) := by decide +kernel
theorem dX10_wrong_7 : decode cX10_wrong 7 = .ok (.return_, 1) := by decide +kernel
theorem dX10_wrong_8 : decode cX10_wrong 8 = .ok (.aload_n 0, 1) := by decide +kernel
theorem dX10_wrong_9 : decode cX10_wrong 9 = .ok (.iload_n 1, 1) := by decide +kernel
theorem dX10_wrong_10 : decode cX10_wrong 10 = .ok (.putfield 199, 3) := by decide +kernel
theorem dX10_wrong_13 : decode cX10_wrong 13 = .ok (.aload_n 0, 1) := by decide +kernel
theorem dX10_wrong_14 : decode cX10_wrong 14 = .ok (.aload_n 0, 1) := by decide +kernel
theorem dX10_wrong_15 : decode cX10_wrong 15 = .ok (.getfield 161, 3) := by decide +kernel
theorem dX10_wrong_18 : decode cX10_wrong 18 = .ok (.putfield 202, 3) := by decide +kernel
theorem dX10_wrong_21 : decode cX10_wrong 21 = .ok (.return_, 1) := by decide +kernel
theorem hd_X10_wrong : yX10_wrong.cls = xCn 10 ∧ yX10_wrong.cls ≠ "java/lang/invoke/MethodHandle" ∧ yX10_wrong.cls ≠ "java/lang/invoke/VarHandle" ∧ (parseMethodDescriptor yX10_wrong.desc).map (fun d => d.parameters.length) = some 1 := by decide +kernel
def f_X10_wrong (sh : List xSh) (q0 : Nat) (x1 : Int32) (d : xD) : Option xD :=
  (xgI 10 sh d q0 26).bind fun v1 => if v1 = 0 then ((xpI 10 sh d q0 26 x1).bind fun d2 => (xgI 10 sh d2 q0 23).bind fun v3 => (xpI 10 sh d2 q0 27 v3).bind fun d4 => some d4) else (some d)
set_option maxHeartbeats 4000000 in
set_option maxRecDepth 100000 in
theorem mt_X10_wrong (l : Launch) (D : va_G) (cid : FieldType → ClassId) (b : Nat) (ex : Bool) (sa sv B0 : Nat) (sh : List xSh) (q0 : Nat) (x1 : Int32) (d : xD) (dz : xD) (hf : f_X10_wrong sh q0 x1 d = some dz) : xMet l yX10_wrong cX10_wrong 2 none 0 0 0 D cid b ex sa sv B0 [.ref (b + q0), .int x1] sh d none sh dz := by
  refine xMet.of (by decide) (Nat.le_of_ble_eq_true rfl) ?_
  intro p e s m below meth c ls A S hr hin G hl
  have hl : lv_has ls 2 [(0, .ref (b + q0)), (1, .int x1)] := hl
  generalize ([.ref (b + q0), .int x1] : List Value).toArray = av at S ⊢
  have hx := S.1
  have hb := S.2.1
  have hml := S.2.2.1
  have hown := S.2.2.2.1
  have hts := S.2.2.2.2.1
  unfold f_X10_wrong at hf
  refine lv_aload_n hx hb dX10_wrong_0 rfl (lv_at hl 0 rfl) ?_
  obtain ⟨v1, hv1, hf⟩ := x_ob hf
  refine xr_getI (ci := 10) (k := 26) S G hv1 rfl kw_1194 dX10_wrong_1 ?_
  refine lv_if_eq (tgt := 8) hx hb dX10_wrong_4 (by decide) (fun c => ?_) (fun c => ?_)
  · have hf := x_pos c hf
    refine lv_aload_n hx hb dX10_wrong_8 rfl (lv_at hl 0 rfl) ?_
    refine lv_iload_n hx hb dX10_wrong_9 rfl (lv_at hl 1 rfl) ?_
    obtain ⟨d2, hd2, hf⟩ := x_ob hf
    refine xr_putI (ci := 10) (k := 26) S G hd2 rfl kw_1194 dX10_wrong_10 (fun H locs G => ?_)
    refine lv_aload_n hx hb dX10_wrong_13 rfl (lv_at hl 0 rfl) ?_
    refine lv_aload_n hx hb dX10_wrong_14 rfl (lv_at hl 0 rfl) ?_
    obtain ⟨v3, hv3, hf⟩ := x_ob hf
    refine xr_getI (ci := 10) (k := 23) S G hv3 rfl kw_1191 dX10_wrong_15 ?_
    obtain ⟨d4, hd4, hf⟩ := x_ob hf
    refine xr_putI (ci := 10) (k := 27) S G hd4 rfl kw_1195 dX10_wrong_18 (fun H locs G => ?_)
    cases hf
    exact xr_vret S G (fun _ => rfl) hr dX10_wrong_21
  · have hf := x_neg c hf
    cases hf
    exact xr_vret S G (fun _ => rfl) hr dX10_wrong_7
-- HalfLandingsModel.isWord(I)Z
theorem dX10_isWord_0 : decode cX10_isWord 0 = .ok (.aload_n 0, 1) := by decide +kernel
theorem dX10_isWord_1 : decode cX10_isWord 1 = .ok (.getfield 199, 3) := by decide +kernel
theorem dX10_isWord_4 : decode cX10_isWord 4 = .ok (.ifCond .ne 22, 3) := by decide +kernel
theorem dX10_isWord_7 : decode cX10_isWord 7 = .ok (.aload_n 0, 1) := by decide +kernel
theorem dX10_isWord_8 : decode cX10_isWord 8 = .ok (.getfield 164, 3) := by decide +kernel
theorem dX10_isWord_11 : decode cX10_isWord 11 = .ok (.ifCond .ne 15, 3) := by decide +kernel
theorem dX10_isWord_14 : decode cX10_isWord 14 = .ok (.aload_n 0, 1) := by decide +kernel
theorem dX10_isWord_15 : decode cX10_isWord 15 = .ok (.getfield 174, 3) := by decide +kernel
theorem dX10_isWord_18 : decode cX10_isWord 18 = .ok (.iload_n 1, 1) := by decide +kernel
theorem dX10_isWord_19 : decode cX10_isWord 19 = .ok (.if_icmp .ne 7, 3) := by decide +kernel
theorem dX10_isWord_22 : decode cX10_isWord 22 = .ok (.iconst 1, 1) := by decide +kernel
theorem dX10_isWord_23 : decode cX10_isWord 23 = .ok (.goto 4, 3) := by decide +kernel
theorem dX10_isWord_26 : decode cX10_isWord 26 = .ok (.iconst 0, 1) := by decide +kernel
theorem dX10_isWord_27 : decode cX10_isWord 27 = .ok (.ireturn, 1) := by decide +kernel
theorem hd_X10_isWord : yX10_isWord.cls = xCn 10 ∧ yX10_isWord.cls ≠ "java/lang/invoke/MethodHandle" ∧ yX10_isWord.cls ≠ "java/lang/invoke/VarHandle" ∧ (parseMethodDescriptor yX10_isWord.desc).map (fun d => d.parameters.length) = some 1 := by decide +kernel
def k_X10_isWord_27 (sh : List xSh) (y0 : Int32) (d : xD) : Option (Int32 × xD) :=
  (xz y0).bind fun v1 => some (v1, d)
def k_X10_isWord_26 (sh : List xSh) (d : xD) : Option (Int32 × xD) :=
  k_X10_isWord_27 sh (0 : Int32) d
def f_X10_isWord (sh : List xSh) (q0 : Nat) (x1 : Int32) (d : xD) : Option (Int32 × xD) :=
  (xgI 10 sh d q0 26).bind fun v2 => if v2 = 0 then ((xgI 10 sh d q0 24).bind fun v3 => if v3 = 0 then ((xgI 10 sh d q0 25).bind fun v4 => if v4 = x1 then (k_X10_isWord_27 sh (1 : Int32) d) else (k_X10_isWord_26 sh d)) else (k_X10_isWord_26 sh d)) else (k_X10_isWord_26 sh d)
set_option maxHeartbeats 4000000 in
set_option maxRecDepth 100000 in
theorem mt_X10_isWord (l : Launch) (D : va_G) (cid : FieldType → ClassId) (b : Nat) (ex : Bool) (sa sv B0 : Nat) (sh : List xSh) (q0 : Nat) (x1 : Int32) (d : xD) (r : Int32) (dz : xD) (hf : f_X10_isWord sh q0 x1 d = some (r, dz)) : xMet l yX10_isWord cX10_isWord 2 (some .boolean) 0 0 0 D cid b ex sa sv B0 [.ref (b + q0), .int x1] sh d (some (.int r)) sh dz := by
  refine xMet.of (by decide) (Nat.le_of_ble_eq_true rfl) ?_
  intro p e s m below meth c ls A S hr hin G hl
  have hl : lv_has ls 2 [(0, .ref (b + q0)), (1, .int x1)] := hl
  generalize ([.ref (b + q0), .int x1] : List Value).toArray = av at S ⊢
  have hx := S.1
  have hb := S.2.1
  have hml := S.2.2.1
  have hown := S.2.2.2.1
  have hts := S.2.2.2.2.1
  have K27 : ∀ (y0 : Int32) (d : xD), k_X10_isWord_27 sh y0 d = some (r, dz) → ∀ (H : Heap) (locs : List Loc) (ls : Array Slot), lv_has ls 2 [] → xG D cid b A sh d s H locs → W p l e (xRm 0 0 0) s m av below meth c H locs 0 0 (MQ below (xQ D cid b ex A (some (.int r)) sh dz) av s 0 0 A) (F0 m 27 ls [.int y0]) := by
    intro y0 d hf H locs ls hl G
    unfold k_X10_isWord_27 at hf
    obtain ⟨v1, hv1, hf⟩ := x_ob hf
    cases hf
    exact xr_zret S G (fun _ => rfl) hr hv1 dX10_isWord_27
  have K26 : ∀ (d : xD), k_X10_isWord_26 sh d = some (r, dz) → ∀ (H : Heap) (locs : List Loc) (ls : Array Slot), lv_has ls 2 [] → xG D cid b A sh d s H locs → W p l e (xRm 0 0 0) s m av below meth c H locs 0 0 (MQ below (xQ D cid b ex A (some (.int r)) sh dz) av s 0 0 A) (F0 m 26 ls []) := by
    intro d hf H locs ls hl G
    unfold k_X10_isWord_26 at hf
    refine lv_iconst (v := (0 : Int32)) hx hb dX10_isWord_26 (by decide) ?_
    exact K27 (0 : Int32) d hf _ _ ls (lv_sub hl [] rfl) G
  unfold f_X10_isWord at hf
  refine lv_aload_n hx hb dX10_isWord_0 rfl (lv_at hl 0 rfl) ?_
  obtain ⟨v2, hv2, hf⟩ := x_ob hf
  refine xr_getI (ci := 10) (k := 26) S G hv2 rfl kw_1194 dX10_isWord_1 ?_
  refine lv_if_ne (tgt := 26) hx hb dX10_isWord_4 (by decide) (fun c => ?_) (fun c => ?_)
  · have hf := x_neg c hf
    exact K26 d hf _ _ ls (lv_sub hl [] rfl) G
  · have hf := x_pos c hf
    refine lv_aload_n hx hb dX10_isWord_7 rfl (lv_at hl 0 rfl) ?_
    obtain ⟨v3, hv3, hf⟩ := x_ob hf
    refine xr_getI (ci := 10) (k := 24) S G hv3 rfl kw_1192 dX10_isWord_8 ?_
    refine lv_if_ne (tgt := 26) hx hb dX10_isWord_11 (by decide) (fun c => ?_) (fun c => ?_)
    · have hf := x_neg c hf
      exact K26 d hf _ _ ls (lv_sub hl [] rfl) G
    · have hf := x_pos c hf
      refine lv_aload_n hx hb dX10_isWord_14 rfl (lv_at hl 0 rfl) ?_
      obtain ⟨v4, hv4, hf⟩ := x_ob hf
      refine xr_getI (ci := 10) (k := 25) S G hv4 rfl kw_1193 dX10_isWord_15 ?_
      refine lv_iload_n hx hb dX10_isWord_18 rfl (lv_at hl 1 rfl) ?_
      refine lv_icmp_ne (tgt := 26) hx hb dX10_isWord_19 (by decide) (fun c => ?_) (fun c => ?_)
      · have hf := x_neg c hf
        exact K26 d hf _ _ ls (lv_sub hl [] rfl) G
      · have hf := x_pos c hf
        refine lv_iconst (v := (1 : Int32)) hx hb dX10_isWord_22 (by decide) ?_
        refine lv_goto (tgt := 27) hx hb dX10_isWord_23 (by decide) ?_
        exact K27 (1 : Int32) d hf _ _ ls (lv_sub hl [] rfl) G
-- HalfLandingsModel.isSign(I)Z
theorem dX10_isSign_0 : decode cX10_isSign 0 = .ok (.aload_n 0, 1) := by decide +kernel
theorem dX10_isSign_1 : decode cX10_isSign 1 = .ok (.getfield 199, 3) := by decide +kernel
theorem dX10_isSign_4 : decode cX10_isSign 4 = .ok (.ifCond .ne 23, 3) := by decide +kernel
theorem dX10_isSign_7 : decode cX10_isSign 7 = .ok (.aload_n 0, 1) := by decide +kernel
theorem dX10_isSign_8 : decode cX10_isSign 8 = .ok (.getfield 164, 3) := by decide +kernel
theorem dX10_isSign_11 : decode cX10_isSign 11 = .ok (.iconst 3, 1) := by decide +kernel
theorem dX10_isSign_12 : decode cX10_isSign 12 = .ok (.if_icmp .ne 15, 3) := by decide +kernel
theorem dX10_isSign_15 : decode cX10_isSign 15 = .ok (.aload_n 0, 1) := by decide +kernel
theorem dX10_isSign_16 : decode cX10_isSign 16 = .ok (.getfield 174, 3) := by decide +kernel
theorem dX10_isSign_19 : decode cX10_isSign 19 = .ok (.iload_n 1, 1) := by decide +kernel
theorem dX10_isSign_20 : decode cX10_isSign 20 = .ok (.if_icmp .ne 7, 3) := by decide +kernel
theorem dX10_isSign_23 : decode cX10_isSign 23 = .ok (.iconst 1, 1) := by decide +kernel
theorem dX10_isSign_24 : decode cX10_isSign 24 = .ok (.goto 4, 3) := by decide +kernel
theorem dX10_isSign_27 : decode cX10_isSign 27 = .ok (.iconst 0, 1) := by decide +kernel
theorem dX10_isSign_28 : decode cX10_isSign 28 = .ok (.ireturn, 1) := by decide +kernel
theorem hd_X10_isSign : yX10_isSign.cls = xCn 10 ∧ yX10_isSign.cls ≠ "java/lang/invoke/MethodHandle" ∧ yX10_isSign.cls ≠ "java/lang/invoke/VarHandle" ∧ (parseMethodDescriptor yX10_isSign.desc).map (fun d => d.parameters.length) = some 1 := by decide +kernel
def k_X10_isSign_28 (sh : List xSh) (y0 : Int32) (d : xD) : Option (Int32 × xD) :=
  (xz y0).bind fun v1 => some (v1, d)
def k_X10_isSign_27 (sh : List xSh) (d : xD) : Option (Int32 × xD) :=
  k_X10_isSign_28 sh (0 : Int32) d
def f_X10_isSign (sh : List xSh) (q0 : Nat) (x1 : Int32) (d : xD) : Option (Int32 × xD) :=
  (xgI 10 sh d q0 26).bind fun v2 => if v2 = 0 then ((xgI 10 sh d q0 24).bind fun v3 => if v3 = (3 : Int32) then ((xgI 10 sh d q0 25).bind fun v4 => if v4 = x1 then (k_X10_isSign_28 sh (1 : Int32) d) else (k_X10_isSign_27 sh d)) else (k_X10_isSign_27 sh d)) else (k_X10_isSign_27 sh d)
set_option maxHeartbeats 4000000 in
set_option maxRecDepth 100000 in
theorem mt_X10_isSign (l : Launch) (D : va_G) (cid : FieldType → ClassId) (b : Nat) (ex : Bool) (sa sv B0 : Nat) (sh : List xSh) (q0 : Nat) (x1 : Int32) (d : xD) (r : Int32) (dz : xD) (hf : f_X10_isSign sh q0 x1 d = some (r, dz)) : xMet l yX10_isSign cX10_isSign 2 (some .boolean) 0 0 0 D cid b ex sa sv B0 [.ref (b + q0), .int x1] sh d (some (.int r)) sh dz := by
  refine xMet.of (by decide) (Nat.le_of_ble_eq_true rfl) ?_
  intro p e s m below meth c ls A S hr hin G hl
  have hl : lv_has ls 2 [(0, .ref (b + q0)), (1, .int x1)] := hl
  generalize ([.ref (b + q0), .int x1] : List Value).toArray = av at S ⊢
  have hx := S.1
  have hb := S.2.1
  have hml := S.2.2.1
  have hown := S.2.2.2.1
  have hts := S.2.2.2.2.1
  have K28 : ∀ (y0 : Int32) (d : xD), k_X10_isSign_28 sh y0 d = some (r, dz) → ∀ (H : Heap) (locs : List Loc) (ls : Array Slot), lv_has ls 2 [] → xG D cid b A sh d s H locs → W p l e (xRm 0 0 0) s m av below meth c H locs 0 0 (MQ below (xQ D cid b ex A (some (.int r)) sh dz) av s 0 0 A) (F0 m 28 ls [.int y0]) := by
    intro y0 d hf H locs ls hl G
    unfold k_X10_isSign_28 at hf
    obtain ⟨v1, hv1, hf⟩ := x_ob hf
    cases hf
    exact xr_zret S G (fun _ => rfl) hr hv1 dX10_isSign_28
  have K27 : ∀ (d : xD), k_X10_isSign_27 sh d = some (r, dz) → ∀ (H : Heap) (locs : List Loc) (ls : Array Slot), lv_has ls 2 [] → xG D cid b A sh d s H locs → W p l e (xRm 0 0 0) s m av below meth c H locs 0 0 (MQ below (xQ D cid b ex A (some (.int r)) sh dz) av s 0 0 A) (F0 m 27 ls []) := by
    intro d hf H locs ls hl G
    unfold k_X10_isSign_27 at hf
    refine lv_iconst (v := (0 : Int32)) hx hb dX10_isSign_27 (by decide) ?_
    exact K28 (0 : Int32) d hf _ _ ls (lv_sub hl [] rfl) G
  unfold f_X10_isSign at hf
  refine lv_aload_n hx hb dX10_isSign_0 rfl (lv_at hl 0 rfl) ?_
  obtain ⟨v2, hv2, hf⟩ := x_ob hf
  refine xr_getI (ci := 10) (k := 26) S G hv2 rfl kw_1194 dX10_isSign_1 ?_
  refine lv_if_ne (tgt := 27) hx hb dX10_isSign_4 (by decide) (fun c => ?_) (fun c => ?_)
  · have hf := x_neg c hf
    exact K27 d hf _ _ ls (lv_sub hl [] rfl) G
  · have hf := x_pos c hf
    refine lv_aload_n hx hb dX10_isSign_7 rfl (lv_at hl 0 rfl) ?_
    obtain ⟨v3, hv3, hf⟩ := x_ob hf
    refine xr_getI (ci := 10) (k := 24) S G hv3 rfl kw_1192 dX10_isSign_8 ?_
    refine lv_iconst (v := (3 : Int32)) hx hb dX10_isSign_11 (by decide) ?_
    refine lv_icmp_ne (tgt := 27) hx hb dX10_isSign_12 (by decide) (fun c => ?_) (fun c => ?_)
    · have hf := x_neg c hf
      exact K27 d hf _ _ ls (lv_sub hl [] rfl) G
    · have hf := x_pos c hf
      refine lv_aload_n hx hb dX10_isSign_15 rfl (lv_at hl 0 rfl) ?_
      obtain ⟨v4, hv4, hf⟩ := x_ob hf
      refine xr_getI (ci := 10) (k := 25) S G hv4 rfl kw_1193 dX10_isSign_16 ?_
      refine lv_iload_n hx hb dX10_isSign_19 rfl (lv_at hl 1 rfl) ?_
      refine lv_icmp_ne (tgt := 27) hx hb dX10_isSign_20 (by decide) (fun c => ?_) (fun c => ?_)
      · have hf := x_neg c hf
        exact K27 d hf _ _ ls (lv_sub hl [] rfl) G
      · have hf := x_pos c hf
        refine lv_iconst (v := (1 : Int32)) hx hb dX10_isSign_23 (by decide) ?_
        refine lv_goto (tgt := 28) hx hb dX10_isSign_24 (by decide) ?_
        exact K28 (1 : Int32) d hf _ _ ls (lv_sub hl [] rfl) G
-- HalfLandingsModel.found([IIII)I
theorem dX10_found_0 : decode cX10_found 0 = .ok (.iconst 0, 1) := by decide +kernel
theorem dX10_found_1 : decode cX10_found 1 = .ok (.istore 4, 2) := by decide +kernel
theorem dX10_found_3 : decode cX10_found 3 = .ok (.iload 4, 2) := by decide +kernel
theorem dX10_found_5 : decode cX10_found 5 = .ok (.iload_n 2, 1) := by decide +kernel
theorem dX10_found_6 : decode cX10_found 6 = .ok (.if_icmp .ge 22, 3) := by decide +kernel
theorem dX10_found_9 : decode cX10_found 9 = .ok (.aload_n 0, 1) := by decide +kernel
theorem dX10_found_10 : decode cX10_found 10 = .ok (.iload_n 1, 1) := by decide +kernel
theorem dX10_found_11 : decode cX10_found 11 = .ok (.iload 4, 2) := by decide +kernel
theorem dX10_found_13 : decode cX10_found 13 = .ok (.iadd, 1) := by decide +kernel
theorem dX10_found_14 : decode cX10_found 14 = .ok (.iaload, 1) := by decide +kernel
theorem dX10_found_15 : decode cX10_found 15 = .ok (.iload_n 3, 1) := by decide +kernel
theorem dX10_found_16 : decode cX10_found 16 = .ok (.if_icmp .ne 6, 3) := by decide +kernel
theorem dX10_found_19 : decode cX10_found 19 = .ok (.iload 4, 2) := by decide +kernel
theorem dX10_found_21 : decode cX10_found 21 = .ok (.ireturn, 1) := by decide +kernel
theorem dX10_found_22 : decode cX10_found 22 = .ok (.iinc 4 1, 3) := by decide +kernel
theorem dX10_found_25 : decode cX10_found 25 = .ok (.goto (-22), 3) := by decide +kernel
theorem dX10_found_28 : decode cX10_found 28 = .ok (.iconst (-1), 1) := by decide +kernel
theorem dX10_found_29 : decode cX10_found 29 = .ok (.ireturn, 1) := by decide +kernel
theorem hd_X10_found : yX10_found.cls ≠ "java/lang/invoke/MethodHandle" ∧ yX10_found.cls ≠ "java/lang/invoke/VarHandle" ∧ (parseMethodDescriptor yX10_found.desc).map (fun d => d.parameters.length) = some 4 := by decide +kernel
def k_X10_found_28 (sh : List xSh) (d : xD) : Option (Int32 × xD) :=
  some ((-1 : Int32), d)
def k_X10_found_19 (sh : List xSh) (x4 : Int32) (d : xD) : Option (Int32 × xD) :=
  some (x4, d)
def b_X10_found_3 (sh : List xSh) (rec3 : Nat → Int32 → Int32 → Int32 → Int32 → xD → Option (Int32 × xD)) (q0 : Nat) (x1 : Int32) (x2 : Int32) (x3 : Int32) (x4 : Int32) (d : xD) : Option (Int32 × xD) :=
  if x2 ≤ x4 then (k_X10_found_28 sh d) else ((xaI .int sh d q0 (x1 + x4)).bind fun v1 => if v1 = x3 then (k_X10_found_19 sh x4 d) else (rec3 q0 x1 x2 x3 (x4 + 1) d))
def f_X10_found (sh : List xSh) (q0 : Nat) (x1 : Int32) (x2 : Int32) (x3 : Int32) (d : xD) : Option (Int32 × xD) :=
  xloop (fun _ _ _ _ _ _ => none) (b_X10_found_3 sh) xF q0 x1 x2 x3 (0 : Int32) d
set_option maxHeartbeats 4000000 in
set_option maxRecDepth 100000 in
theorem mt_X10_found (l : Launch) (D : va_G) (cid : FieldType → ClassId) (b : Nat) (ex : Bool) (sa sv B0 : Nat) (sh : List xSh) (q0 : Nat) (x1 : Int32) (x2 : Int32) (x3 : Int32) (d : xD) (r : Int32) (dz : xD) (hf : f_X10_found sh q0 x1 x2 x3 d = some (r, dz)) : xMet l yX10_found cX10_found 5 (some .int) 0 0 0 D cid b ex sa sv B0 [.ref (b + q0), .int x1, .int x2, .int x3] sh d (some (.int r)) sh dz := by
  refine xMet.of (by decide) (Nat.le_of_ble_eq_true rfl) ?_
  intro p e s m below meth c ls A S hr hin G hl
  have hl : lv_has ls 5 [(0, .ref (b + q0)), (1, .int x1), (2, .int x2), (3, .int x3)] := hl
  generalize ([.ref (b + q0), .int x1, .int x2, .int x3] : List Value).toArray = av at S ⊢
  have hx := S.1
  have hb := S.2.1
  have hml := S.2.2.1
  have hown := S.2.2.2.1
  have hts := S.2.2.2.2.1
  have K28 : ∀ (d : xD), k_X10_found_28 sh d = some (r, dz) → ∀ (H : Heap) (locs : List Loc) (ls : Array Slot), lv_has ls 5 [] → xG D cid b A sh d s H locs → W p l e (xRm 0 0 0) s m av below meth c H locs 0 0 (MQ below (xQ D cid b ex A (some (.int r)) sh dz) av s 0 0 A) (F0 m 28 ls []) := by
    intro d hf H locs ls hl G
    unfold k_X10_found_28 at hf
    refine lv_iconst (v := (-1 : Int32)) hx hb dX10_found_28 (by decide) ?_
    cases hf
    exact xr_iret S G (fun _ => rfl) hr dX10_found_29
  have K19 : ∀ (x4 : Int32) (d : xD), k_X10_found_19 sh x4 d = some (r, dz) → ∀ (H : Heap) (locs : List Loc) (ls : Array Slot), lv_has ls 5 [(4, .int x4)] → xG D cid b A sh d s H locs → W p l e (xRm 0 0 0) s m av below meth c H locs 0 0 (MQ below (xQ D cid b ex A (some (.int r)) sh dz) av s 0 0 A) (F0 m 19 ls []) := by
    intro x4 d hf H locs ls hl G
    unfold k_X10_found_19 at hf
    refine lv_iload hx hb dX10_found_19 (lv_at hl 0 rfl) ?_
    cases hf
    exact xr_iret S G (fun _ => rfl) hr dX10_found_21
  have K3 : ∀ (n : Nat) (q0 : Nat) (x1 : Int32) (x2 : Int32) (x3 : Int32) (x4 : Int32) (d : xD), xloop (fun _ _ _ _ _ _ => none) (b_X10_found_3 sh) n q0 x1 x2 x3 x4 d = some (r, dz) → ∀ (H : Heap) (locs : List Loc) (ls : Array Slot), lv_has ls 5 [(0, .ref (b + q0)), (1, .int x1), (2, .int x2), (3, .int x3), (4, .int x4)] → xG D cid b A sh d s H locs → W p l e (xRm 0 0 0) s m av below meth c H locs 0 0 (MQ below (xQ D cid b ex A (some (.int r)) sh dz) av s 0 0 A) (F0 m 3 ls []) := by
    intro n
    induction n with
    | zero =>
      intro q0 x1 x2 x3 x4 d hf
      have hf : (none : Option (Int32 × xD)) = some (r, dz) := hf
      cases hf
    | succ n hrec3 =>
      intro q0 x1 x2 x3 x4 d hf H locs ls hl G
      have hf : b_X10_found_3 sh (xloop (fun _ _ _ _ _ _ => none) (b_X10_found_3 sh) n) q0 x1 x2 x3 x4 d = some (r, dz) := hf
      unfold b_X10_found_3 at hf
      refine lv_iload hx hb dX10_found_3 (lv_at hl 4 rfl) ?_
      refine lv_iload_n hx hb dX10_found_5 rfl (lv_at hl 2 rfl) ?_
      refine lv_icmp_ge (tgt := 28) hx hb dX10_found_6 (by decide) (fun c => ?_) (fun c => ?_)
      · have hf := x_pos c hf
        exact K28 d hf _ _ ls (lv_sub hl [] rfl) G
      · have hf := x_neg c hf
        refine lv_aload_n hx hb dX10_found_9 rfl (lv_at hl 0 rfl) ?_
        refine lv_iload_n hx hb dX10_found_10 rfl (lv_at hl 1 rfl) ?_
        refine lv_iload hx hb dX10_found_11 (lv_at hl 4 rfl) ?_
        refine lv_iadd hx hb dX10_found_13 ?_
        obtain ⟨v1, hv1, hf⟩ := x_ob hf
        refine xr_iald S G hv1 dX10_found_14 ?_
        refine lv_iload_n hx hb dX10_found_15 rfl (lv_at hl 3 rfl) ?_
        refine lv_icmp_ne (tgt := 22) hx hb dX10_found_16 (by decide) (fun c => ?_) (fun c => ?_)
        · have hf := x_neg c hf
          refine lv_iinc (v := (x4 + 1)) (lv' := [(4, .int (x4 + 1)), (0, .ref (b + q0)), (1, .int x1), (2, .int x2), (3, .int x3)]) hx hb dX10_found_22 hl (k := 4) rfl rfl (by decide) rfl (fun ls hl => ?_)
          refine lv_goto (tgt := 3) hx hb dX10_found_25 (by decide) ?_
          exact hrec3 q0 x1 x2 x3 (x4 + 1) d hf _ _ ls (lv_sub hl [1, 2, 3, 4, 0] rfl) G
        · have hf := x_pos c hf
          exact K19 x4 d hf _ _ ls (lv_sub hl [4] rfl) G
  unfold f_X10_found at hf
  refine lv_iconst (v := (0 : Int32)) hx hb dX10_found_0 (by decide) ?_
  refine lv_istore (lv' := [(4, .int (0 : Int32)), (0, .ref (b + q0)), (1, .int x1), (2, .int x2), (3, .int x3)]) hx hb dX10_found_1 hl (by decide) rfl (fun ls hl => ?_)
  exact K3 xF q0 x1 x2 x3 (0 : Int32) d hf _ _ ls (lv_sub hl [1, 2, 3, 4, 0] rfl) G
-- HalfLandingsModel.fresher(I)I
theorem dX10_fresher_0 : decode cX10_fresher 0 = .ok (.aload_n 0, 1) := by decide +kernel
theorem dX10_fresher_1 : decode cX10_fresher 1 = .ok (.getfield 13, 3) := by decide +kernel
theorem dX10_fresher_4 : decode cX10_fresher 4 = .ok (.bipush 8, 2) := by decide +kernel
theorem dX10_fresher_6 : decode cX10_fresher 6 = .ok (.iload_n 1, 1) := by decide +kernel
theorem dX10_fresher_7 : decode cX10_fresher 7 = .ok (.iadd, 1) := by decide +kernel
theorem dX10_fresher_8 : decode cX10_fresher 8 = .ok (.iaload, 1) := by decide +kernel
theorem dX10_fresher_9 : decode cX10_fresher 9 = .ok (.ireturn, 1) := by decide +kernel
theorem hd_X10_fresher : yX10_fresher.cls = xCn 10 ∧ yX10_fresher.cls ≠ "java/lang/invoke/MethodHandle" ∧ yX10_fresher.cls ≠ "java/lang/invoke/VarHandle" ∧ (parseMethodDescriptor yX10_fresher.desc).map (fun d => d.parameters.length) = some 1 := by decide +kernel
def f_X10_fresher (sh : List xSh) (q0 : Nat) (x1 : Int32) (d : xD) : Option (Int32 × xD) :=
  (xgR 10 sh d q0 3).bind fun v1 => (xaI .int sh d v1 ((8 : Int32) + x1)).bind fun v2 => some (v2, d)
set_option maxHeartbeats 4000000 in
set_option maxRecDepth 100000 in
theorem mt_X10_fresher (l : Launch) (D : va_G) (cid : FieldType → ClassId) (b : Nat) (ex : Bool) (sa sv B0 : Nat) (sh : List xSh) (q0 : Nat) (x1 : Int32) (d : xD) (r : Int32) (dz : xD) (hf : f_X10_fresher sh q0 x1 d = some (r, dz)) : xMet l yX10_fresher cX10_fresher 2 (some .int) 0 0 0 D cid b ex sa sv B0 [.ref (b + q0), .int x1] sh d (some (.int r)) sh dz := by
  refine xMet.of (by decide) (Nat.le_of_ble_eq_true rfl) ?_
  intro p e s m below meth c ls A S hr hin G hl
  have hl : lv_has ls 2 [(0, .ref (b + q0)), (1, .int x1)] := hl
  generalize ([.ref (b + q0), .int x1] : List Value).toArray = av at S ⊢
  have hx := S.1
  have hb := S.2.1
  have hml := S.2.2.1
  have hown := S.2.2.2.1
  have hts := S.2.2.2.2.1
  unfold f_X10_fresher at hf
  refine lv_aload_n hx hb dX10_fresher_0 rfl (lv_at hl 0 rfl) ?_
  obtain ⟨v1, hv1, hf⟩ := x_ob hf
  refine xr_getR (ci := 10) (k := 3) S G hv1 rfl kw_1171 dX10_fresher_1 ?_
  refine lv_bipush (v := (8 : Int32)) hx hb dX10_fresher_4 (by decide) ?_
  refine lv_iload_n hx hb dX10_fresher_6 rfl (lv_at hl 1 rfl) ?_
  refine lv_iadd hx hb dX10_fresher_7 ?_
  obtain ⟨v2, hv2, hf⟩ := x_ob hf
  refine xr_iald S G hv2 dX10_fresher_8 ?_
  cases hf
  exact xr_iret S G (fun _ => rfl) hr dX10_fresher_9
-- HalfLandingsModel.reads(II)V
theorem dX10_reads_0 : decode cX10_reads 0 = .ok (.aload_n 0, 1) := by decide +kernel
theorem dX10_reads_1 : decode cX10_reads 1 = .ok (.getfield 13, 3) := by decide +kernel
theorem dX10_reads_4 : decode cX10_reads 4 = .ok (.bipush 8, 2) := by decide +kernel
theorem dX10_reads_6 : decode cX10_reads 6 = .ok (.iload_n 1, 1) := by decide +kernel
theorem dX10_reads_7 : decode cX10_reads 7 = .ok (.iadd, 1) := by decide +kernel
theorem dX10_reads_8 : decode cX10_reads 8 = .ok (.iload_n 2, 1) := by decide +kernel
theorem dX10_reads_9 : decode cX10_reads 9 = .ok (.iastore, 1) := by decide +kernel
theorem dX10_reads_10 : decode cX10_reads 10 = .ok (.return_, 1) := by decide +kernel
theorem hd_X10_reads : yX10_reads.cls = xCn 10 ∧ yX10_reads.cls ≠ "java/lang/invoke/MethodHandle" ∧ yX10_reads.cls ≠ "java/lang/invoke/VarHandle" ∧ (parseMethodDescriptor yX10_reads.desc).map (fun d => d.parameters.length) = some 2 := by decide +kernel
def f_X10_reads (sh : List xSh) (q0 : Nat) (x1 : Int32) (x2 : Int32) (d : xD) : Option xD :=
  (xgR 10 sh d q0 3).bind fun v1 => (xsI .int sh d v1 ((8 : Int32) + x1) x2).bind fun d2 => some d2
set_option maxHeartbeats 4000000 in
set_option maxRecDepth 100000 in
theorem mt_X10_reads (l : Launch) (D : va_G) (cid : FieldType → ClassId) (b : Nat) (ex : Bool) (sa sv B0 : Nat) (sh : List xSh) (q0 : Nat) (x1 : Int32) (x2 : Int32) (d : xD) (dz : xD) (hf : f_X10_reads sh q0 x1 x2 d = some dz) : xMet l yX10_reads cX10_reads 3 none 0 0 0 D cid b ex sa sv B0 [.ref (b + q0), .int x1, .int x2] sh d none sh dz := by
  refine xMet.of (by decide) (Nat.le_of_ble_eq_true rfl) ?_
  intro p e s m below meth c ls A S hr hin G hl
  have hl : lv_has ls 3 [(0, .ref (b + q0)), (1, .int x1), (2, .int x2)] := hl
  generalize ([.ref (b + q0), .int x1, .int x2] : List Value).toArray = av at S ⊢
  have hx := S.1
  have hb := S.2.1
  have hml := S.2.2.1
  have hown := S.2.2.2.1
  have hts := S.2.2.2.2.1
  unfold f_X10_reads at hf
  refine lv_aload_n hx hb dX10_reads_0 rfl (lv_at hl 0 rfl) ?_
  obtain ⟨v1, hv1, hf⟩ := x_ob hf
  refine xr_getR (ci := 10) (k := 3) S G hv1 rfl kw_1171 dX10_reads_1 ?_
  refine lv_bipush (v := (8 : Int32)) hx hb dX10_reads_4 (by decide) ?_
  refine lv_iload_n hx hb dX10_reads_6 rfl (lv_at hl 1 rfl) ?_
  refine lv_iadd hx hb dX10_reads_7 ?_
  refine lv_iload_n hx hb dX10_reads_8 rfl (lv_at hl 2 rfl) ?_
  obtain ⟨d2, hd2, hf⟩ := x_ob hf
  refine xr_iast S G hd2 dX10_reads_9 (fun H locs G => ?_)
  cases hf
  exact xr_vret S G (fun _ => rfl) hr dX10_reads_10
-- HalfLandingsModel.isFull(I)Z
theorem dX10_isFull_0 : decode cX10_isFull 0 = .ok (.iload_n 1, 1) := by decide +kernel
theorem dX10_isFull_1 : decode cX10_isFull 1 = .ok (.iconst 1, 1) := by decide +kernel
theorem dX10_isFull_2 : decode cX10_isFull 2 = .ok (.if_icmp .ne 13, 3) := by decide +kernel
theorem dX10_isFull_5 : decode cX10_isFull 5 = .ok (.aload_n 0, 1) := by decide +kernel
theorem dX10_isFull_6 : decode cX10_isFull 6 = .ok (.iconst 1, 1) := by decide +kernel
theorem dX10_isFull_7 : decode cX10_isFull 7 = .ok (.invokevirtual 218, 3) := by decide +kernel
theorem dX10_isFull_10 : decode cX10_isFull 10 = .ok (.bipush 8, 2) := by decide +kernel
theorem dX10_isFull_12 : decode cX10_isFull 12 = .ok (.if_icmp .eq 33, 3) := by decide +kernel
theorem dX10_isFull_15 : decode cX10_isFull 15 = .ok (.iload_n 1, 1) := by decide +kernel
theorem dX10_isFull_16 : decode cX10_isFull 16 = .ok (.iconst 2, 1) := by decide +kernel
theorem dX10_isFull_17 : decode cX10_isFull 17 = .ok (.if_icmp .ne 13, 3) := by decide +kernel
theorem dX10_isFull_20 : decode cX10_isFull 20 = .ok (.aload_n 0, 1) := by decide +kernel
theorem dX10_isFull_21 : decode cX10_isFull 21 = .ok (.iconst 2, 1) := by decide +kernel
theorem dX10_isFull_22 : decode cX10_isFull 22 = .ok (.invokevirtual 218, 3) := by decide +kernel
theorem dX10_isFull_25 : decode cX10_isFull 25 = .ok (.bipush 6, 2) := by decide +kernel
theorem dX10_isFull_27 : decode cX10_isFull 27 = .ok (.if_icmp .eq 18, 3) := by decide +kernel
theorem dX10_isFull_30 : decode cX10_isFull 30 = .ok (.iload_n 1, 1) := by decide +kernel
theorem dX10_isFull_31 : decode cX10_isFull 31 = .ok (.iconst 3, 1) := by decide +kernel
theorem dX10_isFull_32 : decode cX10_isFull 32 = .ok (.if_icmp .ne 17, 3) := by decide +kernel
theorem dX10_isFull_35 : decode cX10_isFull 35 = .ok (.aload_n 0, 1) := by decide +kernel
theorem dX10_isFull_36 : decode cX10_isFull 36 = .ok (.iconst 3, 1) := by decide +kernel
theorem dX10_isFull_37 : decode cX10_isFull 37 = .ok (.invokevirtual 218, 3) := by decide +kernel
theorem dX10_isFull_40 : decode cX10_isFull 40 = .ok (.bipush 12, 2) := by decide +kernel
theorem dX10_isFull_42 : decode cX10_isFull 42 = .ok (.if_icmp .ne 7, 3) := by decide +kernel
theorem dX10_isFull_45 : decode cX10_isFull 45 = .ok (.iconst 1, 1) := by decide +kernel
theorem dX10_isFull_46 : decode cX10_isFull 46 = .ok (.goto 4, 3) := by decide +kernel
theorem dX10_isFull_49 : decode cX10_isFull 49 = .ok (.iconst 0, 1) := by decide +kernel
theorem dX10_isFull_50 : decode cX10_isFull 50 = .ok (.ireturn, 1) := by decide +kernel
theorem hd_X10_isFull : yX10_isFull.cls = xCn 10 ∧ yX10_isFull.cls ≠ "java/lang/invoke/MethodHandle" ∧ yX10_isFull.cls ≠ "java/lang/invoke/VarHandle" ∧ (parseMethodDescriptor yX10_isFull.desc).map (fun d => d.parameters.length) = some 1 := by decide +kernel
def k_X10_isFull_50 (sh : List xSh) (y0 : Int32) (d : xD) : Option (Int32 × xD) :=
  (xz y0).bind fun v1 => some (v1, d)
def k_X10_isFull_49 (sh : List xSh) (d : xD) : Option (Int32 × xD) :=
  k_X10_isFull_50 sh (0 : Int32) d
def k_X10_isFull_45 (sh : List xSh) (d : xD) : Option (Int32 × xD) :=
  k_X10_isFull_50 sh (1 : Int32) d
def k_X10_isFull_30 (sh : List xSh) (q0 : Nat) (x1 : Int32) (d : xD) : Option (Int32 × xD) :=
  if x1 = (3 : Int32) then ((xon 10 sh q0 (f_X10_fresher sh q0 (3 : Int32) d)).bind fun z2 => if z2.1 = (12 : Int32) then (k_X10_isFull_45 sh z2.2) else (k_X10_isFull_49 sh z2.2)) else (k_X10_isFull_49 sh d)
def k_X10_isFull_15 (sh : List xSh) (q0 : Nat) (x1 : Int32) (d : xD) : Option (Int32 × xD) :=
  if x1 = (2 : Int32) then ((xon 10 sh q0 (f_X10_fresher sh q0 (2 : Int32) d)).bind fun z3 => if z3.1 = (6 : Int32) then (k_X10_isFull_45 sh z3.2) else (k_X10_isFull_30 sh q0 x1 z3.2)) else (k_X10_isFull_30 sh q0 x1 d)
def f_X10_isFull (sh : List xSh) (q0 : Nat) (x1 : Int32) (d : xD) : Option (Int32 × xD) :=
  if x1 = (1 : Int32) then ((xon 10 sh q0 (f_X10_fresher sh q0 (1 : Int32) d)).bind fun z4 => if z4.1 = (8 : Int32) then (k_X10_isFull_45 sh z4.2) else (k_X10_isFull_15 sh q0 x1 z4.2)) else (k_X10_isFull_15 sh q0 x1 d)
set_option maxHeartbeats 4000000 in
set_option maxRecDepth 100000 in
theorem mt_X10_isFull (l : Launch) (D : va_G) (cid : FieldType → ClassId) (b : Nat) (ex : Bool) (sa sv B0 : Nat) (sh : List xSh) (q0 : Nat) (x1 : Int32) (d : xD) (r : Int32) (dz : xD) (hf : f_X10_isFull sh q0 x1 d = some (r, dz)) : xMet l yX10_isFull cX10_isFull 2 (some .boolean) 1 0 0 D cid b ex sa sv B0 [.ref (b + q0), .int x1] sh d (some (.int r)) sh dz := by
  refine xMet.of (by decide) (Nat.le_of_ble_eq_true rfl) ?_
  intro p e s m below meth c ls A S hr hin G hl
  have hl : lv_has ls 2 [(0, .ref (b + q0)), (1, .int x1)] := hl
  generalize ([.ref (b + q0), .int x1] : List Value).toArray = av at S ⊢
  have hx := S.1
  have hb := S.2.1
  have hml := S.2.2.1
  have hown := S.2.2.2.1
  have hts := S.2.2.2.2.1
  have K50 : ∀ (y0 : Int32) (d : xD), k_X10_isFull_50 sh y0 d = some (r, dz) → ∀ (H : Heap) (locs : List Loc) (ls : Array Slot), lv_has ls 2 [] → xG D cid b A sh d s H locs → W p l e (xRm 1 0 0) s m av below meth c H locs 0 0 (MQ below (xQ D cid b ex A (some (.int r)) sh dz) av s 0 0 A) (F0 m 50 ls [.int y0]) := by
    intro y0 d hf H locs ls hl G
    unfold k_X10_isFull_50 at hf
    obtain ⟨v1, hv1, hf⟩ := x_ob hf
    cases hf
    exact xr_zret S G (fun _ => rfl) hr hv1 dX10_isFull_50
  have K49 : ∀ (d : xD), k_X10_isFull_49 sh d = some (r, dz) → ∀ (H : Heap) (locs : List Loc) (ls : Array Slot), lv_has ls 2 [] → xG D cid b A sh d s H locs → W p l e (xRm 1 0 0) s m av below meth c H locs 0 0 (MQ below (xQ D cid b ex A (some (.int r)) sh dz) av s 0 0 A) (F0 m 49 ls []) := by
    intro d hf H locs ls hl G
    unfold k_X10_isFull_49 at hf
    refine lv_iconst (v := (0 : Int32)) hx hb dX10_isFull_49 (by decide) ?_
    exact K50 (0 : Int32) d hf _ _ ls (lv_sub hl [] rfl) G
  have K45 : ∀ (d : xD), k_X10_isFull_45 sh d = some (r, dz) → ∀ (H : Heap) (locs : List Loc) (ls : Array Slot), lv_has ls 2 [] → xG D cid b A sh d s H locs → W p l e (xRm 1 0 0) s m av below meth c H locs 0 0 (MQ below (xQ D cid b ex A (some (.int r)) sh dz) av s 0 0 A) (F0 m 45 ls []) := by
    intro d hf H locs ls hl G
    unfold k_X10_isFull_45 at hf
    refine lv_iconst (v := (1 : Int32)) hx hb dX10_isFull_45 (by decide) ?_
    refine lv_goto (tgt := 50) hx hb dX10_isFull_46 (by decide) ?_
    exact K50 (1 : Int32) d hf _ _ ls (lv_sub hl [] rfl) G
  have K30 : ∀ (q0 : Nat) (x1 : Int32) (d : xD), k_X10_isFull_30 sh q0 x1 d = some (r, dz) → ∀ (H : Heap) (locs : List Loc) (ls : Array Slot), lv_has ls 2 [(0, .ref (b + q0)), (1, .int x1)] → xG D cid b A sh d s H locs → W p l e (xRm 1 0 0) s m av below meth c H locs 0 0 (MQ below (xQ D cid b ex A (some (.int r)) sh dz) av s 0 0 A) (F0 m 30 ls []) := by
    intro q0 x1 d hf H locs ls hl G
    unfold k_X10_isFull_30 at hf
    refine lv_iload_n hx hb dX10_isFull_30 rfl (lv_at hl 1 rfl) ?_
    refine lv_iconst (v := (3 : Int32)) hx hb dX10_isFull_31 (by decide) ?_
    refine lv_icmp_ne (tgt := 49) hx hb dX10_isFull_32 (by decide) (fun c => ?_) (fun c => ?_)
    · have hf := x_neg c hf
      exact K49 d hf _ _ ls (lv_sub hl [] rfl) G
    · have hf := x_pos c hf
      refine lv_aload_n hx hb dX10_isFull_35 rfl (lv_at hl 0 rfl) ?_
      refine lv_iconst (v := (3 : Int32)) hx hb dX10_isFull_36 (by decide) ?_
      obtain ⟨z2, hz2, hf⟩ := x_ob hf
      obtain ⟨hqz2, hz2⟩ := xon_of hz2
      refine xr_callV (ci := 10) (As := [.int (3 : Int32)]) (rest := []) (st1 := [.int z2.1]) S G hl.1 (fun _ => rfl) (mt_X10_fresher l D cid b ex sa sv B0 sh q0 (3 : Int32) d _ _ hz2) hqz2 (by decide) kw_1422 kw_1424 ks_46 kw_17 kw_1425 hd_X10_fresher ⟨Nat.le_of_ble_eq_true rfl, Nat.le_of_ble_eq_true rfl⟩ rfl rfl rfl (Nat.le_of_ble_eq_true rfl) ⟨Nat.le_of_ble_eq_true rfl, Nat.le_of_ble_eq_true rfl⟩ dX10_isFull_37 (fun H locs G => ?_)
      refine lv_bipush (v := (12 : Int32)) hx hb dX10_isFull_40 (by decide) ?_
      refine lv_icmp_ne (tgt := 49) hx hb dX10_isFull_42 (by decide) (fun c => ?_) (fun c => ?_)
      · have hf := x_neg c hf
        exact K49 z2.2 hf _ _ ls (lv_sub hl [] rfl) G
      · have hf := x_pos c hf
        exact K45 z2.2 hf _ _ ls (lv_sub hl [] rfl) G
  have K15 : ∀ (q0 : Nat) (x1 : Int32) (d : xD), k_X10_isFull_15 sh q0 x1 d = some (r, dz) → ∀ (H : Heap) (locs : List Loc) (ls : Array Slot), lv_has ls 2 [(0, .ref (b + q0)), (1, .int x1)] → xG D cid b A sh d s H locs → W p l e (xRm 1 0 0) s m av below meth c H locs 0 0 (MQ below (xQ D cid b ex A (some (.int r)) sh dz) av s 0 0 A) (F0 m 15 ls []) := by
    intro q0 x1 d hf H locs ls hl G
    unfold k_X10_isFull_15 at hf
    refine lv_iload_n hx hb dX10_isFull_15 rfl (lv_at hl 1 rfl) ?_
    refine lv_iconst (v := (2 : Int32)) hx hb dX10_isFull_16 (by decide) ?_
    refine lv_icmp_ne (tgt := 30) hx hb dX10_isFull_17 (by decide) (fun c => ?_) (fun c => ?_)
    · have hf := x_neg c hf
      exact K30 q0 x1 d hf _ _ ls (lv_sub hl [0, 1] rfl) G
    · have hf := x_pos c hf
      refine lv_aload_n hx hb dX10_isFull_20 rfl (lv_at hl 0 rfl) ?_
      refine lv_iconst (v := (2 : Int32)) hx hb dX10_isFull_21 (by decide) ?_
      obtain ⟨z3, hz3, hf⟩ := x_ob hf
      obtain ⟨hqz3, hz3⟩ := xon_of hz3
      refine xr_callV (ci := 10) (As := [.int (2 : Int32)]) (rest := []) (st1 := [.int z3.1]) S G hl.1 (fun _ => rfl) (mt_X10_fresher l D cid b ex sa sv B0 sh q0 (2 : Int32) d _ _ hz3) hqz3 (by decide) kw_1422 kw_1424 ks_46 kw_17 kw_1425 hd_X10_fresher ⟨Nat.le_of_ble_eq_true rfl, Nat.le_of_ble_eq_true rfl⟩ rfl rfl rfl (Nat.le_of_ble_eq_true rfl) ⟨Nat.le_of_ble_eq_true rfl, Nat.le_of_ble_eq_true rfl⟩ dX10_isFull_22 (fun H locs G => ?_)
      refine lv_bipush (v := (6 : Int32)) hx hb dX10_isFull_25 (by decide) ?_
      refine lv_icmp_eq (tgt := 45) hx hb dX10_isFull_27 (by decide) (fun c => ?_) (fun c => ?_)
      · have hf := x_pos c hf
        exact K45 z3.2 hf _ _ ls (lv_sub hl [] rfl) G
      · have hf := x_neg c hf
        exact K30 q0 x1 z3.2 hf _ _ ls (lv_sub hl [0, 1] rfl) G
  unfold f_X10_isFull at hf
  refine lv_iload_n hx hb dX10_isFull_0 rfl (lv_at hl 1 rfl) ?_
  refine lv_iconst (v := (1 : Int32)) hx hb dX10_isFull_1 (by decide) ?_
  refine lv_icmp_ne (tgt := 15) hx hb dX10_isFull_2 (by decide) (fun c => ?_) (fun c => ?_)
  · have hf := x_neg c hf
    exact K15 q0 x1 d hf _ _ ls (lv_sub hl [0, 1] rfl) G
  · have hf := x_pos c hf
    refine lv_aload_n hx hb dX10_isFull_5 rfl (lv_at hl 0 rfl) ?_
    refine lv_iconst (v := (1 : Int32)) hx hb dX10_isFull_6 (by decide) ?_
    obtain ⟨z4, hz4, hf⟩ := x_ob hf
    obtain ⟨hqz4, hz4⟩ := xon_of hz4
    refine xr_callV (ci := 10) (As := [.int (1 : Int32)]) (rest := []) (st1 := [.int z4.1]) S G hl.1 (fun _ => rfl) (mt_X10_fresher l D cid b ex sa sv B0 sh q0 (1 : Int32) d _ _ hz4) hqz4 (by decide) kw_1422 kw_1424 ks_46 kw_17 kw_1425 hd_X10_fresher ⟨Nat.le_of_ble_eq_true rfl, Nat.le_of_ble_eq_true rfl⟩ rfl rfl rfl (Nat.le_of_ble_eq_true rfl) ⟨Nat.le_of_ble_eq_true rfl, Nat.le_of_ble_eq_true rfl⟩ dX10_isFull_7 (fun H locs G => ?_)
    refine lv_bipush (v := (8 : Int32)) hx hb dX10_isFull_10 (by decide) ?_
    refine lv_icmp_eq (tgt := 45) hx hb dX10_isFull_12 (by decide) (fun c => ?_) (fun c => ?_)
    · have hf := x_pos c hf
      exact K45 z4.2 hf _ _ ls (lv_sub hl [] rfl) G
    · have hf := x_neg c hf
      exact K15 q0 x1 z4.2 hf _ _ ls (lv_sub hl [0, 1] rfl) G
-- HalfLandingsModel.puts(II)V
theorem dX10_puts_0 : decode cX10_puts 0 = .ok (.aload_n 0, 1) := by decide +kernel
theorem dX10_puts_1 : decode cX10_puts 1 = .ok (.getfield 199, 3) := by decide +kernel
theorem dX10_puts_4 : decode cX10_puts 4 = .ok (.ifCond .eq 4, 3) := by decide +kernel
theorem dX10_puts_7 : decode cX10_puts 7 = .ok (.return_, 1) := by decide +kernel
theorem dX10_puts_8 : decode cX10_puts 8 = .ok (.aload_n 0, 1) := by decide +kernel
theorem dX10_puts_9 : decode cX10_puts 9 = .ok (.getfield 55, 3) := by decide +kernel
theorem dX10_puts_12 : decode cX10_puts 12 = .ok (.bipush 64, 2) := by decide +kernel
theorem dX10_puts_14 : decode cX10_puts 14 = .ok (.aload_n 0, 1) := by decide +kernel
theorem dX10_puts_15 : decode cX10_puts 15 = .ok (.bipush 7, 2) := by decide +kernel
theorem dX10_puts_17 : decode cX10_puts 17 = .ok (.invokevirtual 218, 3) := by decide +kernel
theorem dX10_puts_20 : decode cX10_puts 20 = .ok (.iadd, 1) := by decide +kernel
theorem dX10_puts_21 : decode cX10_puts 21 = .ok (.iload_n 1, 1) := by decide +kernel
theorem dX10_puts_22 : decode cX10_puts 22 = .ok (.iastore, 1) := by decide +kernel
theorem dX10_puts_23 : decode cX10_puts 23 = .ok (.aload_n 0, 1) := by decide +kernel
theorem dX10_puts_24 : decode cX10_puts 24 = .ok (.getfield 58, 3) := by decide +kernel
theorem dX10_puts_27 : decode cX10_puts 27 = .ok (.bipush 64, 2) := by decide +kernel
theorem dX10_puts_29 : decode cX10_puts 29 = .ok (.aload_n 0, 1) := by decide +kernel
theorem dX10_puts_30 : decode cX10_puts 30 = .ok (.bipush 7, 2) := by decide +kernel
theorem dX10_puts_32 : decode cX10_puts 32 = .ok (.invokevirtual 218, 3) := by decide +kernel
theorem dX10_puts_35 : decode cX10_puts 35 = .ok (.iadd, 1) := by decide +kernel
theorem dX10_puts_36 : decode cX10_puts 36 = .ok (.iload_n 2, 1) := by decide +kernel
theorem dX10_puts_37 : decode cX10_puts 37 = .ok (.iastore, 1) := by decide +kernel
theorem dX10_puts_38 : decode cX10_puts 38 = .ok (.aload_n 0, 1) := by decide +kernel
theorem dX10_puts_39 : decode cX10_puts 39 = .ok (.bipush 7, 2) := by decide +kernel
theorem dX10_puts_41 : decode cX10_puts 41 = .ok (.aload_n 0, 1) := by decide +kernel
theorem dX10_puts_42 : decode cX10_puts 42 = .ok (.bipush 7, 2) := by decide +kernel
theorem dX10_puts_44 : decode cX10_puts 44 = .ok (.invokevirtual 218, 3) := by decide +kernel
theorem dX10_puts_47 : decode cX10_puts 47 = .ok (.iconst 1, 1) := by decide +kernel
theorem dX10_puts_48 : decode cX10_puts 48 = .ok (.iadd, 1) := by decide +kernel
theorem dX10_puts_49 : decode cX10_puts 49 = .ok (.invokevirtual 235, 3) := by decide +kernel
theorem dX10_puts_52 : decode cX10_puts 52 = .ok (.return_, 1) := by decide +kernel
theorem hd_X10_puts : yX10_puts.cls = xCn 10 ∧ yX10_puts.cls ≠ "java/lang/invoke/MethodHandle" ∧ yX10_puts.cls ≠ "java/lang/invoke/VarHandle" ∧ (parseMethodDescriptor yX10_puts.desc).map (fun d => d.parameters.length) = some 2 := by decide +kernel
def f_X10_puts (sh : List xSh) (q0 : Nat) (x1 : Int32) (x2 : Int32) (d : xD) : Option xD :=
  (xgI 10 sh d q0 26).bind fun v1 => if v1 = 0 then ((xgR 10 sh d q0 17).bind fun v2 => (xon 10 sh q0 (f_X10_fresher sh q0 (7 : Int32) d)).bind fun z3 => (xsI .int sh z3.2 v2 ((64 : Int32) + z3.1) x1).bind fun d4 => (xgR 10 sh d4 q0 18).bind fun v5 => (xon 10 sh q0 (f_X10_fresher sh q0 (7 : Int32) d4)).bind fun z6 => (xsI .int sh z6.2 v5 ((64 : Int32) + z6.1) x2).bind fun d7 => (xon 10 sh q0 (f_X10_fresher sh q0 (7 : Int32) d7)).bind fun z8 => (xon 10 sh q0 (f_X10_reads sh q0 (7 : Int32) (z8.1 + (1 : Int32)) z8.2)).bind fun d9 => some d9) else (some d)
set_option maxHeartbeats 4000000 in
set_option maxRecDepth 100000 in
theorem mt_X10_puts (l : Launch) (D : va_G) (cid : FieldType → ClassId) (b : Nat) (ex : Bool) (sa sv B0 : Nat) (sh : List xSh) (q0 : Nat) (x1 : Int32) (x2 : Int32) (d : xD) (dz : xD) (hf : f_X10_puts sh q0 x1 x2 d = some dz) : xMet l yX10_puts cX10_puts 3 none 1 0 0 D cid b ex sa sv B0 [.ref (b + q0), .int x1, .int x2] sh d none sh dz := by
  refine xMet.of (by decide) (Nat.le_of_ble_eq_true rfl) ?_
  intro p e s m below meth c ls A S hr hin G hl
  have hl : lv_has ls 3 [(0, .ref (b + q0)), (1, .int x1), (2, .int x2)] := hl
  generalize ([.ref (b + q0), .int x1, .int x2] : List Value).toArray = av at S ⊢
  have hx := S.1
  have hb := S.2.1
  have hml := S.2.2.1
  have hown := S.2.2.2.1
  have hts := S.2.2.2.2.1
  unfold f_X10_puts at hf
  refine lv_aload_n hx hb dX10_puts_0 rfl (lv_at hl 0 rfl) ?_
  obtain ⟨v1, hv1, hf⟩ := x_ob hf
  refine xr_getI (ci := 10) (k := 26) S G hv1 rfl kw_1194 dX10_puts_1 ?_
  refine lv_if_eq (tgt := 8) hx hb dX10_puts_4 (by decide) (fun c => ?_) (fun c => ?_)
  · have hf := x_pos c hf
    refine lv_aload_n hx hb dX10_puts_8 rfl (lv_at hl 0 rfl) ?_
    obtain ⟨v2, hv2, hf⟩ := x_ob hf
    refine xr_getR (ci := 10) (k := 17) S G hv2 rfl kw_1185 dX10_puts_9 ?_
    refine lv_bipush (v := (64 : Int32)) hx hb dX10_puts_12 (by decide) ?_
    refine lv_aload_n hx hb dX10_puts_14 rfl (lv_at hl 0 rfl) ?_
    refine lv_bipush (v := (7 : Int32)) hx hb dX10_puts_15 (by decide) ?_
    obtain ⟨z3, hz3, hf⟩ := x_ob hf
    obtain ⟨hqz3, hz3⟩ := xon_of hz3
    refine xr_callV (ci := 10) (As := [.int (7 : Int32)]) (rest := [.int (64 : Int32), .ref (b + v2)]) (st1 := [.int z3.1, .int (64 : Int32), .ref (b + v2)]) S G hl.1 (fun _ => rfl) (mt_X10_fresher l D cid b ex sa sv B0 sh q0 (7 : Int32) d _ _ hz3) hqz3 (by decide) kw_1422 kw_1424 ks_46 kw_17 kw_1425 hd_X10_fresher ⟨Nat.le_of_ble_eq_true rfl, Nat.le_of_ble_eq_true rfl⟩ rfl rfl rfl (Nat.le_of_ble_eq_true rfl) ⟨Nat.le_of_ble_eq_true rfl, Nat.le_of_ble_eq_true rfl⟩ dX10_puts_17 (fun H locs G => ?_)
    refine lv_iadd hx hb dX10_puts_20 ?_
    refine lv_iload_n hx hb dX10_puts_21 rfl (lv_at hl 1 rfl) ?_
    obtain ⟨d4, hd4, hf⟩ := x_ob hf
    refine xr_iast S G hd4 dX10_puts_22 (fun H locs G => ?_)
    refine lv_aload_n hx hb dX10_puts_23 rfl (lv_at hl 0 rfl) ?_
    obtain ⟨v5, hv5, hf⟩ := x_ob hf
    refine xr_getR (ci := 10) (k := 18) S G hv5 rfl kw_1186 dX10_puts_24 ?_
    refine lv_bipush (v := (64 : Int32)) hx hb dX10_puts_27 (by decide) ?_
    refine lv_aload_n hx hb dX10_puts_29 rfl (lv_at hl 0 rfl) ?_
    refine lv_bipush (v := (7 : Int32)) hx hb dX10_puts_30 (by decide) ?_
    obtain ⟨z6, hz6, hf⟩ := x_ob hf
    obtain ⟨hqz6, hz6⟩ := xon_of hz6
    refine xr_callV (ci := 10) (As := [.int (7 : Int32)]) (rest := [.int (64 : Int32), .ref (b + v5)]) (st1 := [.int z6.1, .int (64 : Int32), .ref (b + v5)]) S G hl.1 (fun _ => rfl) (mt_X10_fresher l D cid b ex sa sv B0 sh q0 (7 : Int32) d4 _ _ hz6) hqz6 (by decide) kw_1422 kw_1424 ks_46 kw_17 kw_1425 hd_X10_fresher ⟨Nat.le_of_ble_eq_true rfl, Nat.le_of_ble_eq_true rfl⟩ rfl rfl rfl (Nat.le_of_ble_eq_true rfl) ⟨Nat.le_of_ble_eq_true rfl, Nat.le_of_ble_eq_true rfl⟩ dX10_puts_32 (fun H locs G => ?_)
    refine lv_iadd hx hb dX10_puts_35 ?_
    refine lv_iload_n hx hb dX10_puts_36 rfl (lv_at hl 2 rfl) ?_
    obtain ⟨d7, hd7, hf⟩ := x_ob hf
    refine xr_iast S G hd7 dX10_puts_37 (fun H locs G => ?_)
    refine lv_aload_n hx hb dX10_puts_38 rfl (lv_at hl 0 rfl) ?_
    refine lv_bipush (v := (7 : Int32)) hx hb dX10_puts_39 (by decide) ?_
    refine lv_aload_n hx hb dX10_puts_41 rfl (lv_at hl 0 rfl) ?_
    refine lv_bipush (v := (7 : Int32)) hx hb dX10_puts_42 (by decide) ?_
    obtain ⟨z8, hz8, hf⟩ := x_ob hf
    obtain ⟨hqz8, hz8⟩ := xon_of hz8
    refine xr_callV (ci := 10) (As := [.int (7 : Int32)]) (rest := [.int (7 : Int32), .ref (b + q0)]) (st1 := [.int z8.1, .int (7 : Int32), .ref (b + q0)]) S G hl.1 (fun _ => rfl) (mt_X10_fresher l D cid b ex sa sv B0 sh q0 (7 : Int32) d7 _ _ hz8) hqz8 (by decide) kw_1422 kw_1424 ks_46 kw_17 kw_1425 hd_X10_fresher ⟨Nat.le_of_ble_eq_true rfl, Nat.le_of_ble_eq_true rfl⟩ rfl rfl rfl (Nat.le_of_ble_eq_true rfl) ⟨Nat.le_of_ble_eq_true rfl, Nat.le_of_ble_eq_true rfl⟩ dX10_puts_44 (fun H locs G => ?_)
    refine lv_iconst (v := (1 : Int32)) hx hb dX10_puts_47 (by decide) ?_
    refine lv_iadd hx hb dX10_puts_48 ?_
    obtain ⟨d9, hd9, hf⟩ := x_ob hf
    obtain ⟨hqd9, hd9⟩ := xon_of hd9
    refine xr_callV (ci := 10) (As := [.int (7 : Int32), .int (z8.1 + (1 : Int32))]) (rest := []) (st1 := []) S G hl.1 (fun _ => rfl) (mt_X10_reads l D cid b ex sa sv B0 sh q0 (7 : Int32) (z8.1 + (1 : Int32)) z8.2 _ hd9) hqd9 (by decide) kw_1376 kw_1378 ks_37 kw_17 kw_1379 hd_X10_reads ⟨Nat.le_of_ble_eq_true rfl, Nat.le_of_ble_eq_true rfl⟩ rfl rfl rfl (Nat.le_of_ble_eq_true rfl) ⟨Nat.le_of_ble_eq_true rfl, Nat.le_of_ble_eq_true rfl⟩ dX10_puts_49 (fun H locs G => ?_)
    cases hf
    exact xr_vret S G (fun _ => rfl) hr dX10_puts_52
  · have hf := x_neg c hf
    cases hf
    exact xr_vret S G (fun _ => rfl) hr dX10_puts_7
-- HalfLandingsModel.knot()V
theorem dX10_knot_0 : decode cX10_knot 0 = .ok (.aload_n 0, 1) := by decide +kernel
theorem dX10_knot_1 : decode cX10_knot 1 = .ok (.getfield 199, 3) := by decide +kernel
theorem dX10_knot_4 : decode cX10_knot 4 = .ok (.ifCond .eq 4, 3) := by decide +kernel
theorem dX10_knot_7 : decode cX10_knot 7 = .ok (.return_, 1) := by decide +kernel
theorem dX10_knot_8 : decode cX10_knot 8 = .ok (.aload_n 0, 1) := by decide +kernel
theorem dX10_knot_9 : decode cX10_knot 9 = .ok (.getfield 255, 3) := by decide +kernel
theorem dX10_knot_12 : decode cX10_knot 12 = .ok (.bipush 64, 2) := by decide +kernel
theorem dX10_knot_14 : decode cX10_knot 14 = .ok (.if_icmp .ne 11, 3) := by decide +kernel
theorem dX10_knot_17 : decode cX10_knot 17 = .ok (.aload_n 0, 1) := by decide +kernel
theorem dX10_knot_18 : decode cX10_knot 18 = .ok (.iconst 2, 1) := by decide +kernel
theorem dX10_knot_19 : decode cX10_knot 19 = .ok (.invokevirtual 208, 3) := by decide +kernel
theorem dX10_knot_22 : decode cX10_knot 22 = .ok (.goto 13, 3) := by decide +kernel
theorem dX10_knot_25 : decode cX10_knot 25 = .ok (.aload_n 0, 1) := by decide +kernel
theorem dX10_knot_26 : decode cX10_knot 26 = .ok (.dup, 1) := by decide +kernel
theorem dX10_knot_27 : decode cX10_knot 27 = .ok (.getfield 255, 3) := by decide +kernel
theorem dX10_knot_30 : decode cX10_knot 30 = .ok (.iconst 1, 1) := by decide +kernel
theorem dX10_knot_31 : decode cX10_knot 31 = .ok (.iadd, 1) := by decide +kernel
theorem dX10_knot_32 : decode cX10_knot 32 = .ok (.putfield 255, 3) := by decide +kernel
theorem dX10_knot_35 : decode cX10_knot 35 = .ok (.return_, 1) := by decide +kernel
theorem hd_X10_knot : yX10_knot.cls = xCn 10 ∧ yX10_knot.cls ≠ "java/lang/invoke/MethodHandle" ∧ yX10_knot.cls ≠ "java/lang/invoke/VarHandle" ∧ (parseMethodDescriptor yX10_knot.desc).map (fun d => d.parameters.length) = some 0 := by decide +kernel
def k_X10_knot_35 (sh : List xSh) (d : xD) : Option xD :=
  some d
def f_X10_knot (sh : List xSh) (q0 : Nat) (d : xD) : Option xD :=
  (xgI 10 sh d q0 26).bind fun v1 => if v1 = 0 then ((xgI 10 sh d q0 31).bind fun v2 => if v2 = (64 : Int32) then ((xon 10 sh q0 (f_X10_wrong sh q0 (2 : Int32) d)).bind fun d5 => k_X10_knot_35 sh d5) else ((xgI 10 sh d q0 31).bind fun v3 => (xpI 10 sh d q0 31 (v3 + (1 : Int32))).bind fun d4 => k_X10_knot_35 sh d4)) else (some d)
set_option maxHeartbeats 4000000 in
set_option maxRecDepth 100000 in
theorem mt_X10_knot (l : Launch) (D : va_G) (cid : FieldType → ClassId) (b : Nat) (ex : Bool) (sa sv B0 : Nat) (sh : List xSh) (q0 : Nat) (d : xD) (dz : xD) (hf : f_X10_knot sh q0 d = some dz) : xMet l yX10_knot cX10_knot 1 none 1 0 0 D cid b ex sa sv B0 [.ref (b + q0)] sh d none sh dz := by
  refine xMet.of (by decide) (Nat.le_of_ble_eq_true rfl) ?_
  intro p e s m below meth c ls A S hr hin G hl
  have hl : lv_has ls 1 [(0, .ref (b + q0))] := hl
  generalize ([.ref (b + q0)] : List Value).toArray = av at S ⊢
  have hx := S.1
  have hb := S.2.1
  have hml := S.2.2.1
  have hown := S.2.2.2.1
  have hts := S.2.2.2.2.1
  have K35 : ∀ (d : xD), k_X10_knot_35 sh d = some dz → ∀ (H : Heap) (locs : List Loc) (ls : Array Slot), lv_has ls 1 [] → xG D cid b A sh d s H locs → W p l e (xRm 1 0 0) s m av below meth c H locs 0 0 (MQ below (xQ D cid b ex A none sh dz) av s 0 0 A) (F0 m 35 ls []) := by
    intro d hf H locs ls hl G
    unfold k_X10_knot_35 at hf
    cases hf
    exact xr_vret S G (fun _ => rfl) hr dX10_knot_35
  unfold f_X10_knot at hf
  refine lv_aload_n hx hb dX10_knot_0 rfl (lv_at hl 0 rfl) ?_
  obtain ⟨v1, hv1, hf⟩ := x_ob hf
  refine xr_getI (ci := 10) (k := 26) S G hv1 rfl kw_1194 dX10_knot_1 ?_
  refine lv_if_eq (tgt := 8) hx hb dX10_knot_4 (by decide) (fun c => ?_) (fun c => ?_)
  · have hf := x_pos c hf
    refine lv_aload_n hx hb dX10_knot_8 rfl (lv_at hl 0 rfl) ?_
    obtain ⟨v2, hv2, hf⟩ := x_ob hf
    refine xr_getI (ci := 10) (k := 31) S G hv2 rfl kw_1199 dX10_knot_9 ?_
    refine lv_bipush (v := (64 : Int32)) hx hb dX10_knot_12 (by decide) ?_
    refine lv_icmp_ne (tgt := 25) hx hb dX10_knot_14 (by decide) (fun c => ?_) (fun c => ?_)
    · have hf := x_neg c hf
      refine lv_aload_n hx hb dX10_knot_25 rfl (lv_at hl 0 rfl) ?_
      refine lv_dup hx hb dX10_knot_26 rfl ?_
      obtain ⟨v3, hv3, hf⟩ := x_ob hf
      refine xr_getI (ci := 10) (k := 31) S G hv3 rfl kw_1199 dX10_knot_27 ?_
      refine lv_iconst (v := (1 : Int32)) hx hb dX10_knot_30 (by decide) ?_
      refine lv_iadd hx hb dX10_knot_31 ?_
      obtain ⟨d4, hd4, hf⟩ := x_ob hf
      refine xr_putI (ci := 10) (k := 31) S G hd4 rfl kw_1199 dX10_knot_32 (fun H locs G => ?_)
      exact K35 d4 hf _ _ ls (lv_sub hl [] rfl) G
    · have hf := x_pos c hf
      refine lv_aload_n hx hb dX10_knot_17 rfl (lv_at hl 0 rfl) ?_
      refine lv_iconst (v := (2 : Int32)) hx hb dX10_knot_18 (by decide) ?_
      obtain ⟨d5, hd5, hf⟩ := x_ob hf
      obtain ⟨hqd5, hd5⟩ := xon_of hd5
      refine xr_callV (ci := 10) (As := [.int (2 : Int32)]) (rest := []) (st1 := []) S G hl.1 (fun _ => rfl) (mt_X10_wrong l D cid b ex sa sv B0 sh q0 (2 : Int32) d _ hd5) hqd5 (by decide) kw_1414 kw_1416 ks_44 kw_17 kw_1417 hd_X10_wrong ⟨Nat.le_of_ble_eq_true rfl, Nat.le_of_ble_eq_true rfl⟩ rfl rfl rfl (Nat.le_of_ble_eq_true rfl) ⟨Nat.le_of_ble_eq_true rfl, Nat.le_of_ble_eq_true rfl⟩ dX10_knot_19 (fun H locs G => ?_)
      refine lv_goto (tgt := 35) hx hb dX10_knot_22 (by decide) ?_
      exact K35 d5 hf _ _ ls (lv_sub hl [] rfl) G
  · have hf := x_neg c hf
    cases hf
    exact xr_vret S G (fun _ => rfl) hr dX10_knot_7
-- HalfLandingsModel.half([I)V
theorem dX10_half_0 : decode cX10_half 0 = .ok (.aload_n 0, 1) := by decide +kernel
theorem dX10_half_1 : decode cX10_half 1 = .ok (.arraylength, 1) := by decide +kernel
theorem dX10_half_2 : decode cX10_half 2 = .ok (.iconst 2, 1) := by decide +kernel
theorem dX10_half_3 : decode cX10_half 3 = .ok (.idiv, 1) := by decide +kernel
theorem dX10_half_4 : decode cX10_half 4 = .ok (.istore_n 1, 1) := by decide +kernel
theorem dX10_half_5 : decode cX10_half 5 = .ok (.iconst 0, 1) := by decide +kernel
theorem dX10_half_6 : decode cX10_half 6 = .ok (.istore_n 2, 1) := by decide +kernel
theorem dX10_half_7 : decode cX10_half 7 = .ok (.iload_n 2, 1) := by decide +kernel
theorem dX10_half_8 : decode cX10_half 8 = .ok (.iload_n 1, 1) := by decide +kernel
theorem dX10_half_9 : decode cX10_half 9 = .ok (.if_icmp .ge 17, 3) := by decide +kernel
theorem dX10_half_12 : decode cX10_half 12 = .ok (.aload_n 0, 1) := by decide +kernel
theorem dX10_half_13 : decode cX10_half 13 = .ok (.iload_n 2, 1) := by decide +kernel
theorem dX10_half_14 : decode cX10_half 14 = .ok (.aload_n 0, 1) := by decide +kernel
theorem dX10_half_15 : decode cX10_half 15 = .ok (.iload_n 1, 1) := by decide +kernel
theorem dX10_half_16 : decode cX10_half 16 = .ok (.iload_n 2, 1) := by decide +kernel
theorem dX10_half_17 : decode cX10_half 17 = .ok (.iadd, 1) := by decide +kernel
theorem dX10_half_18 : decode cX10_half 18 = .ok (.iaload, 1) := by decide +kernel
theorem dX10_half_19 : decode cX10_half 19 = .ok (.iastore, 1) := by decide +kernel
theorem dX10_half_20 : decode cX10_half 20 = .ok (.iinc 2 1, 3) := by decide +kernel
theorem dX10_half_23 : decode cX10_half 23 = .ok (.goto (-16), 3) := by decide +kernel
theorem dX10_half_26 : decode cX10_half 26 = .ok (.return_, 1) := by decide +kernel
theorem hd_X10_half : yX10_half.cls ≠ "java/lang/invoke/MethodHandle" ∧ yX10_half.cls ≠ "java/lang/invoke/VarHandle" ∧ (parseMethodDescriptor yX10_half.desc).map (fun d => d.parameters.length) = some 1 := by decide +kernel
def k_X10_half_26 (sh : List xSh) (d : xD) : Option xD :=
  some d
def b_X10_half_7 (sh : List xSh) (rec7 : Nat → Int32 → Int32 → xD → Option xD) (q0 : Nat) (x1 : Int32) (x2 : Int32) (d : xD) : Option xD :=
  if x1 ≤ x2 then (k_X10_half_26 sh d) else ((xaI .int sh d q0 (x1 + x2)).bind fun v1 => (xsI .int sh d q0 x2 v1).bind fun d2 => rec7 q0 x1 (x2 + 1) d2)
def f_X10_half (sh : List xSh) (q0 : Nat) (d : xD) : Option xD :=
  (xlen .int sh q0).bind fun v3 => (xdI (nI v3) (2 : Int32)).bind fun v4 => xloop (fun _ _ _ _ => none) (b_X10_half_7 sh) xF q0 v4 (0 : Int32) d
set_option maxHeartbeats 4000000 in
set_option maxRecDepth 100000 in
theorem mt_X10_half (l : Launch) (D : va_G) (cid : FieldType → ClassId) (b : Nat) (ex : Bool) (sa sv B0 : Nat) (sh : List xSh) (q0 : Nat) (d : xD) (dz : xD) (hf : f_X10_half sh q0 d = some dz) : xMet l yX10_half cX10_half 3 none 0 0 0 D cid b ex sa sv B0 [.ref (b + q0)] sh d none sh dz := by
  refine xMet.of (by decide) (Nat.le_of_ble_eq_true rfl) ?_
  intro p e s m below meth c ls A S hr hin G hl
  have hl : lv_has ls 3 [(0, .ref (b + q0))] := hl
  generalize ([.ref (b + q0)] : List Value).toArray = av at S ⊢
  have hx := S.1
  have hb := S.2.1
  have hml := S.2.2.1
  have hown := S.2.2.2.1
  have hts := S.2.2.2.2.1
  have K26 : ∀ (d : xD), k_X10_half_26 sh d = some dz → ∀ (H : Heap) (locs : List Loc) (ls : Array Slot), lv_has ls 3 [] → xG D cid b A sh d s H locs → W p l e (xRm 0 0 0) s m av below meth c H locs 0 0 (MQ below (xQ D cid b ex A none sh dz) av s 0 0 A) (F0 m 26 ls []) := by
    intro d hf H locs ls hl G
    unfold k_X10_half_26 at hf
    cases hf
    exact xr_vret S G (fun _ => rfl) hr dX10_half_26
  have K7 : ∀ (n : Nat) (q0 : Nat) (x1 : Int32) (x2 : Int32) (d : xD), xloop (fun _ _ _ _ => none) (b_X10_half_7 sh) n q0 x1 x2 d = some dz → ∀ (H : Heap) (locs : List Loc) (ls : Array Slot), lv_has ls 3 [(0, .ref (b + q0)), (1, .int x1), (2, .int x2)] → xG D cid b A sh d s H locs → W p l e (xRm 0 0 0) s m av below meth c H locs 0 0 (MQ below (xQ D cid b ex A none sh dz) av s 0 0 A) (F0 m 7 ls []) := by
    intro n
    induction n with
    | zero =>
      intro q0 x1 x2 d hf
      have hf : (none : Option xD) = some dz := hf
      cases hf
    | succ n hrec7 =>
      intro q0 x1 x2 d hf H locs ls hl G
      have hf : b_X10_half_7 sh (xloop (fun _ _ _ _ => none) (b_X10_half_7 sh) n) q0 x1 x2 d = some dz := hf
      unfold b_X10_half_7 at hf
      refine lv_iload_n hx hb dX10_half_7 rfl (lv_at hl 2 rfl) ?_
      refine lv_iload_n hx hb dX10_half_8 rfl (lv_at hl 1 rfl) ?_
      refine lv_icmp_ge (tgt := 26) hx hb dX10_half_9 (by decide) (fun c => ?_) (fun c => ?_)
      · have hf := x_pos c hf
        exact K26 d hf _ _ ls (lv_sub hl [] rfl) G
      · have hf := x_neg c hf
        refine lv_aload_n hx hb dX10_half_12 rfl (lv_at hl 0 rfl) ?_
        refine lv_iload_n hx hb dX10_half_13 rfl (lv_at hl 2 rfl) ?_
        refine lv_aload_n hx hb dX10_half_14 rfl (lv_at hl 0 rfl) ?_
        refine lv_iload_n hx hb dX10_half_15 rfl (lv_at hl 1 rfl) ?_
        refine lv_iload_n hx hb dX10_half_16 rfl (lv_at hl 2 rfl) ?_
        refine lv_iadd hx hb dX10_half_17 ?_
        obtain ⟨v1, hv1, hf⟩ := x_ob hf
        refine xr_iald S G hv1 dX10_half_18 ?_
        obtain ⟨d2, hd2, hf⟩ := x_ob hf
        refine xr_iast S G hd2 dX10_half_19 (fun H locs G => ?_)
        refine lv_iinc (v := (x2 + 1)) (lv' := [(2, .int (x2 + 1)), (0, .ref (b + q0)), (1, .int x1)]) hx hb dX10_half_20 hl (k := 2) rfl rfl (by decide) rfl (fun ls hl => ?_)
        refine lv_goto (tgt := 7) hx hb dX10_half_23 (by decide) ?_
        exact hrec7 q0 x1 (x2 + 1) d2 hf _ _ ls (lv_sub hl [1, 2, 0] rfl) G
  unfold f_X10_half at hf
  refine lv_aload_n hx hb dX10_half_0 rfl (lv_at hl 0 rfl) ?_
  obtain ⟨v3, hv3, hf⟩ := x_ob hf
  refine xr_ilen S G hv3 dX10_half_1 ?_
  refine lv_iconst (v := (2 : Int32)) hx hb dX10_half_2 (by decide) ?_
  obtain ⟨v4, hv4, hf⟩ := x_ob hf
  refine xr_idiv hx hb hv4 dX10_half_3 ?_
  refine lv_istore_n (lv' := [(1, .int v4), (0, .ref (b + q0))]) hx hb dX10_half_4 rfl hl (by decide) rfl (fun ls hl => ?_)
  refine lv_iconst (v := (0 : Int32)) hx hb dX10_half_5 (by decide) ?_
  refine lv_istore_n (lv' := [(2, .int (0 : Int32)), (1, .int v4), (0, .ref (b + q0))]) hx hb dX10_half_6 rfl hl (by decide) rfl (fun ls hl => ?_)
  exact K7 xF q0 v4 (0 : Int32) d hf _ _ ls (lv_sub hl [2, 1, 0] rfl) G
-- HalfLandingsModel.starts(I)V
theorem dX10_starts_0 : decode cX10_starts 0 = .ok (.aload_n 0, 1) := by decide +kernel
theorem dX10_starts_1 : decode cX10_starts 1 = .ok (.getfield 72, 3) := by decide +kernel
theorem dX10_starts_4 : decode cX10_starts 4 = .ok (.iload_n 1, 1) := by decide +kernel
theorem dX10_starts_5 : decode cX10_starts 5 = .ok (.iconst 0, 1) := by decide +kernel
theorem dX10_starts_6 : decode cX10_starts 6 = .ok (.iastore, 1) := by decide +kernel
theorem dX10_starts_7 : decode cX10_starts 7 = .ok (.aload_n 0, 1) := by decide +kernel
theorem dX10_starts_8 : decode cX10_starts 8 = .ok (.getfield 75, 3) := by decide +kernel
theorem dX10_starts_11 : decode cX10_starts 11 = .ok (.iload_n 1, 1) := by decide +kernel
theorem dX10_starts_12 : decode cX10_starts 12 = .ok (.aload_n 0, 1) := by decide +kernel
theorem dX10_starts_13 : decode cX10_starts 13 = .ok (.getfield 13, 3) := by decide +kernel
theorem dX10_starts_16 : decode cX10_starts 16 = .ok (.bipush 6, 2) := by decide +kernel
theorem dX10_starts_18 : decode cX10_starts 18 = .ok (.iaload, 1) := by decide +kernel
theorem dX10_starts_19 : decode cX10_starts 19 = .ok (.iastore, 1) := by decide +kernel
theorem dX10_starts_20 : decode cX10_starts 20 = .ok (.aload_n 0, 1) := by decide +kernel
theorem dX10_starts_21 : decode cX10_starts 21 = .ok (.getfield 78, 3) := by decide +kernel
theorem dX10_starts_24 : decode cX10_starts 24 = .ok (.iload_n 1, 1) := by decide +kernel
theorem dX10_starts_25 : decode cX10_starts 25 = .ok (.iconst 0, 1) := by decide +kernel
theorem dX10_starts_26 : decode cX10_starts 26 = .ok (.iastore, 1) := by decide +kernel
theorem dX10_starts_27 : decode cX10_starts 27 = .ok (.aload_n 0, 1) := by decide +kernel
theorem dX10_starts_28 : decode cX10_starts 28 = .ok (.getfield 81, 3) := by decide +kernel
theorem dX10_starts_31 : decode cX10_starts 31 = .ok (.iload_n 1, 1) := by decide +kernel
theorem dX10_starts_32 : decode cX10_starts 32 = .ok (.aload_n 0, 1) := by decide +kernel
theorem dX10_starts_33 : decode cX10_starts 33 = .ok (.getfield 13, 3) := by decide +kernel
theorem dX10_starts_36 : decode cX10_starts 36 = .ok (.iconst 4, 1) := by decide +kernel
theorem dX10_starts_37 : decode cX10_starts 37 = .ok (.iaload, 1) := by decide +kernel
theorem dX10_starts_38 : decode cX10_starts 38 = .ok (.iastore, 1) := by decide +kernel
theorem dX10_starts_39 : decode cX10_starts 39 = .ok (.aload_n 0, 1) := by decide +kernel
theorem dX10_starts_40 : decode cX10_starts 40 = .ok (.getfield 84, 3) := by decide +kernel
theorem dX10_starts_43 : decode cX10_starts 43 = .ok (.iload_n 1, 1) := by decide +kernel
theorem dX10_starts_44 : decode cX10_starts 44 = .ok (.iconst 0, 1) := by decide +kernel
theorem dX10_starts_45 : decode cX10_starts 45 = .ok (.iastore, 1) := by decide +kernel
theorem dX10_starts_46 : decode cX10_starts 46 = .ok (.iconst 0, 1) := by decide +kernel
theorem dX10_starts_47 : decode cX10_starts 47 = .ok (.istore_n 2, 1) := by decide +kernel
theorem dX10_starts_48 : decode cX10_starts 48 = .ok (.iload_n 2, 1) := by decide +kernel
theorem dX10_starts_49 : decode cX10_starts 49 = .ok (.bipush 6, 2) := by decide +kernel
theorem dX10_starts_51 : decode cX10_starts 51 = .ok (.if_icmp .ge 110, 3) := by decide +kernel
theorem dX10_starts_54 : decode cX10_starts 54 = .ok (.bipush 6, 2) := by decide +kernel
theorem dX10_starts_56 : decode cX10_starts 56 = .ok (.iload_n 1, 1) := by decide +kernel
theorem dX10_starts_57 : decode cX10_starts 57 = .ok (.imul, 1) := by decide +kernel
theorem dX10_starts_58 : decode cX10_starts 58 = .ok (.iload_n 2, 1) := by decide +kernel
theorem dX10_starts_59 : decode cX10_starts 59 = .ok (.iadd, 1) := by decide +kernel
theorem dX10_starts_60 : decode cX10_starts 60 = .ok (.istore_n 3, 1) := by decide +kernel
theorem dX10_starts_61 : decode cX10_starts 61 = .ok (.iload_n 2, 1) := by decide +kernel
theorem dX10_starts_62 : decode cX10_starts 62 = .ok (.aload_n 0, 1) := by decide +kernel
theorem dX10_starts_63 : decode cX10_starts 63 = .ok (.getfield 13, 3) := by decide +kernel
theorem dX10_starts_66 : decode cX10_starts 66 = .ok (.iconst 2, 1) := by decide +kernel
theorem dX10_starts_67 : decode cX10_starts 67 = .ok (.iaload, 1) := by decide +kernel
theorem dX10_starts_68 : decode cX10_starts 68 = .ok (.if_icmp .ge 7, 3) := by decide +kernel
theorem dX10_starts_71 : decode cX10_starts 71 = .ok (.iconst 1, 1) := by decide +kernel
theorem dX10_starts_72 : decode cX10_starts 72 = .ok (.goto 4, 3) := by decide +kernel
theorem dX10_starts_75 : decode cX10_starts 75 = .ok (.iconst 0, 1) := by decide +kernel
theorem dX10_starts_76 : decode cX10_starts 76 = .ok (.istore 4, 2) := by decide +kernel
theorem dX10_starts_78 : decode cX10_starts 78 = .ok (.aload_n 0, 1) := by decide +kernel
theorem dX10_starts_79 : decode cX10_starts 79 = .ok (.getfield 87, 3) := by decide +kernel
theorem dX10_starts_82 : decode cX10_starts 82 = .ok (.iload_n 3, 1) := by decide +kernel
theorem dX10_starts_83 : decode cX10_starts 83 = .ok (.iconst 0, 1) := by decide +kernel
theorem dX10_starts_84 : decode cX10_starts 84 = .ok (.iastore, 1) := by decide +kernel
theorem dX10_starts_85 : decode cX10_starts 85 = .ok (.aload_n 0, 1) := by decide +kernel
theorem dX10_starts_86 : decode cX10_starts 86 = .ok (.getfield 90, 3) := by decide +kernel
theorem dX10_starts_89 : decode cX10_starts 89 = .ok (.iload_n 3, 1) := by decide +kernel
theorem dX10_starts_90 : decode cX10_starts 90 = .ok (.iload 4, 2) := by decide +kernel
theorem dX10_starts_92 : decode cX10_starts 92 = .ok (.ifCond .eq 12, 3) := by decide +kernel
theorem dX10_starts_95 : decode cX10_starts 95 = .ok (.aload_n 0, 1) := by decide +kernel
theorem dX10_starts_96 : decode cX10_starts 96 = .ok (.getfield 28, 3) := by decide +kernel
theorem dX10_starts_99 : decode cX10_starts 99 = .ok (.iload_n 2, 1) := by decide +kernel
theorem dX10_starts_100 : decode cX10_starts 100 = .ok (.iaload, 1) := by decide +kernel
theorem dX10_starts_101 : decode cX10_starts 101 = .ok (.goto 4, 3) := by decide +kernel
theorem dX10_starts_104 : decode cX10_starts 104 = .ok (.iconst 0, 1) := by decide +kernel
theorem dX10_starts_105 : decode cX10_starts 105 = .ok (.iastore, 1) := by decide +kernel
theorem dX10_starts_106 : decode cX10_starts 106 = .ok (.aload_n 0, 1) := by decide +kernel
theorem dX10_starts_107 : decode cX10_starts 107 = .ok (.getfield 93, 3) := by decide +kernel
theorem dX10_starts_110 : decode cX10_starts 110 = .ok (.iload_n 3, 1) := by decide +kernel
theorem dX10_starts_111 : decode cX10_starts 111 = .ok (.iload 4, 2) := by decide +kernel
theorem dX10_starts_113 : decode cX10_starts 113 = .ok (.ifCond .eq 12, 3) := by decide +kernel
theorem dX10_starts_116 : decode cX10_starts 116 = .ok (.aload_n 0, 1) := by decide +kernel
theorem dX10_starts_117 : decode cX10_starts 117 = .ok (.getfield 31, 3) := by decide +kernel
theorem dX10_starts_120 : decode cX10_starts 120 = .ok (.iload_n 2, 1) := by decide +kernel
theorem dX10_starts_121 : decode cX10_starts 121 = .ok (.iaload, 1) := by decide +kernel
theorem dX10_starts_122 : decode cX10_starts 122 = .ok (.goto 4, 3) := by decide +kernel
theorem dX10_starts_125 : decode cX10_starts 125 = .ok (.iconst 0, 1) := by decide +kernel
theorem dX10_starts_126 : decode cX10_starts 126 = .ok (.iastore, 1) := by decide +kernel
theorem dX10_starts_127 : decode cX10_starts 127 = .ok (.aload_n 0, 1) := by decide +kernel
theorem dX10_starts_128 : decode cX10_starts 128 = .ok (.getfield 96, 3) := by decide +kernel
theorem dX10_starts_131 : decode cX10_starts 131 = .ok (.iload_n 3, 1) := by decide +kernel
theorem dX10_starts_132 : decode cX10_starts 132 = .ok (.iconst (-1), 1) := by decide +kernel
theorem dX10_starts_133 : decode cX10_starts 133 = .ok (.iastore, 1) := by decide +kernel
theorem dX10_starts_134 : decode cX10_starts 134 = .ok (.aload_n 0, 1) := by decide +kernel
theorem dX10_starts_135 : decode cX10_starts 135 = .ok (.getfield 99, 3) := by decide +kernel
theorem dX10_starts_138 : decode cX10_starts 138 = .ok (.iload_n 3, 1) := by decide +kernel
theorem dX10_starts_139 : decode cX10_starts 139 = .ok (.iconst 0, 1) := by decide +kernel
theorem dX10_starts_140 : decode cX10_starts 140 = .ok (.iastore, 1) := by decide +kernel
theorem dX10_starts_141 : decode cX10_starts 141 = .ok (.aload_n 0, 1) := by decide +kernel
theorem dX10_starts_142 : decode cX10_starts 142 = .ok (.getfield 102, 3) := by decide +kernel
theorem dX10_starts_145 : decode cX10_starts 145 = .ok (.iload_n 3, 1) := by decide +kernel
theorem dX10_starts_146 : decode cX10_starts 146 = .ok (.iconst 0, 1) := by decide +kernel
theorem dX10_starts_147 : decode cX10_starts 147 = .ok (.iastore, 1) := by decide +kernel
theorem dX10_starts_148 : decode cX10_starts 148 = .ok (.aload_n 0, 1) := by decide +kernel
theorem dX10_starts_149 : decode cX10_starts 149 = .ok (.getfield 105, 3) := by decide +kernel
theorem dX10_starts_152 : decode cX10_starts 152 = .ok (.iload_n 3, 1) := by decide +kernel
theorem dX10_starts_153 : decode cX10_starts 153 = .ok (.iconst 0, 1) := by decide +kernel
theorem dX10_starts_154 : decode cX10_starts 154 = .ok (.iastore, 1) := by decide +kernel
theorem dX10_starts_155 : decode cX10_starts 155 = .ok (.iinc 2 1, 3) := by decide +kernel
theorem dX10_starts_158 : decode cX10_starts 158 = .ok (.goto (-110), 3) := by decide +kernel
theorem dX10_starts_161 : decode cX10_starts 161 = .ok (.iconst 0, 1) := by decide +kernel
theorem dX10_starts_162 : decode cX10_starts 162 = .ok (.istore_n 2, 1) := by decide +kernel
theorem dX10_starts_163 : decode cX10_starts 163 = .ok (.iload_n 2, 1) := by decide +kernel
theorem dX10_starts_164 : decode cX10_starts 164 = .ok (.bipush 8, 2) := by decide +kernel
theorem dX10_starts_166 : decode cX10_starts 166 = .ok (.if_icmp .ge 21, 3) := by decide +kernel
theorem dX10_starts_169 : decode cX10_starts 169 = .ok (.aload_n 0, 1) := by decide +kernel
theorem dX10_starts_170 : decode cX10_starts 170 = .ok (.getfield 108, 3) := by decide +kernel
theorem dX10_starts_173 : decode cX10_starts 173 = .ok (.bipush 8, 2) := by decide +kernel
theorem dX10_starts_175 : decode cX10_starts 175 = .ok (.iload_n 1, 1) := by decide +kernel
theorem dX10_starts_176 : decode cX10_starts 176 = .ok (.imul, 1) := by decide +kernel
theorem dX10_starts_177 : decode cX10_starts 177 = .ok (.iload_n 2, 1) := by decide +kernel
theorem dX10_starts_178 : decode cX10_starts 178 = .ok (.iadd, 1) := by decide +kernel
theorem dX10_starts_179 : decode cX10_starts 179 = .ok (.iconst 0, 1) := by decide +kernel
theorem dX10_starts_180 : decode cX10_starts 180 = .ok (.iastore, 1) := by decide +kernel
theorem dX10_starts_181 : decode cX10_starts 181 = .ok (.iinc 2 1, 3) := by decide +kernel
theorem dX10_starts_184 : decode cX10_starts 184 = .ok (.goto (-21), 3) := by decide +kernel
theorem dX10_starts_187 : decode cX10_starts 187 = .ok (.return_, 1) := by decide +kernel
theorem hd_X10_starts : yX10_starts.cls = xCn 10 ∧ yX10_starts.cls ≠ "java/lang/invoke/MethodHandle" ∧ yX10_starts.cls ≠ "java/lang/invoke/VarHandle" ∧ (parseMethodDescriptor yX10_starts.desc).map (fun d => d.parameters.length) = some 1 := by decide +kernel
def k_X10_starts_187 (sh : List xSh) (d : xD) : Option xD :=
  some d
def b_X10_starts_163 (sh : List xSh) (rec163 : Nat → Int32 → Int32 → xD → Option xD) (q0 : Nat) (x1 : Int32) (x2 : Int32) (d : xD) : Option xD :=
  if (8 : Int32) ≤ x2 then (k_X10_starts_187 sh d) else ((xgR 10 sh d q0 47).bind fun v1 => (xsI .int sh d v1 (((8 : Int32) * x1) + x2) (0 : Int32)).bind fun d2 => rec163 q0 x1 (x2 + 1) d2)
def k_X10_starts_161 (sh : List xSh) (q0 : Nat) (x1 : Int32) (d : xD) : Option xD :=
  xloop (fun _ _ _ _ => none) (b_X10_starts_163 sh) xF q0 x1 (0 : Int32) d
def k_X10_starts_126 (sh : List xSh) (rec48 : Nat → Int32 → Int32 → xD → Option xD) (q0 : Nat) (x1 : Int32) (x2 : Int32) (x3 : Int32) (p0 : Nat) (y1 : Int32) (y2 : Int32) (d : xD) : Option xD :=
  (xsI .int sh d p0 y1 y2).bind fun d3 => (xgR 10 sh d3 q0 43).bind fun v4 => (xsI .int sh d3 v4 x3 (-1 : Int32)).bind fun d5 => (xgR 10 sh d5 q0 44).bind fun v6 => (xsI .int sh d5 v6 x3 (0 : Int32)).bind fun d7 => (xgR 10 sh d7 q0 45).bind fun v8 => (xsI .int sh d7 v8 x3 (0 : Int32)).bind fun d9 => (xgR 10 sh d9 q0 46).bind fun v10 => (xsI .int sh d9 v10 x3 (0 : Int32)).bind fun d11 => rec48 q0 x1 (x2 + 1) d11
def k_X10_starts_105 (sh : List xSh) (rec48 : Nat → Int32 → Int32 → xD → Option xD) (q0 : Nat) (x1 : Int32) (x2 : Int32) (x3 : Int32) (x4 : Int32) (p0 : Nat) (y1 : Int32) (y2 : Int32) (d : xD) : Option xD :=
  (xsI .int sh d p0 y1 y2).bind fun d12 => (xgR 10 sh d12 q0 42).bind fun v13 => if x4 = 0 then (k_X10_starts_126 sh rec48 q0 x1 x2 x3 v13 x3 (0 : Int32) d12) else ((xgR 10 sh d12 q0 9).bind fun v14 => (xaI .int sh d12 v14 x2).bind fun v15 => k_X10_starts_126 sh rec48 q0 x1 x2 x3 v13 x3 v15 d12)
def k_X10_starts_76 (sh : List xSh) (rec48 : Nat → Int32 → Int32 → xD → Option xD) (q0 : Nat) (x1 : Int32) (x2 : Int32) (x3 : Int32) (y0 : Int32) (d : xD) : Option xD :=
  (xgR 10 sh d q0 40).bind fun v16 => (xsI .int sh d v16 x3 (0 : Int32)).bind fun d17 => (xgR 10 sh d17 q0 41).bind fun v18 => if y0 = 0 then (k_X10_starts_105 sh rec48 q0 x1 x2 x3 y0 v18 x3 (0 : Int32) d17) else ((xgR 10 sh d17 q0 8).bind fun v19 => (xaI .int sh d17 v19 x2).bind fun v20 => k_X10_starts_105 sh rec48 q0 x1 x2 x3 y0 v18 x3 v20 d17)
def b_X10_starts_48 (sh : List xSh) (rec48 : Nat → Int32 → Int32 → xD → Option xD) (q0 : Nat) (x1 : Int32) (x2 : Int32) (d : xD) : Option xD :=
  if (6 : Int32) ≤ x2 then (k_X10_starts_161 sh q0 x1 d) else ((xgR 10 sh d q0 3).bind fun v21 => (xaI .int sh d v21 (2 : Int32)).bind fun v22 => if v22 ≤ x2 then (k_X10_starts_76 sh rec48 q0 x1 x2 (((6 : Int32) * x1) + x2) (0 : Int32) d) else (k_X10_starts_76 sh rec48 q0 x1 x2 (((6 : Int32) * x1) + x2) (1 : Int32) d))
def f_X10_starts (sh : List xSh) (q0 : Nat) (x1 : Int32) (d : xD) : Option xD :=
  (xgR 10 sh d q0 35).bind fun v23 => (xsI .int sh d v23 x1 (0 : Int32)).bind fun d24 => (xgR 10 sh d24 q0 36).bind fun v25 => (xgR 10 sh d24 q0 3).bind fun v26 => (xaI .int sh d24 v26 (6 : Int32)).bind fun v27 => (xsI .int sh d24 v25 x1 v27).bind fun d28 => (xgR 10 sh d28 q0 37).bind fun v29 => (xsI .int sh d28 v29 x1 (0 : Int32)).bind fun d30 => (xgR 10 sh d30 q0 38).bind fun v31 => (xgR 10 sh d30 q0 3).bind fun v32 => (xaI .int sh d30 v32 (4 : Int32)).bind fun v33 => (xsI .int sh d30 v31 x1 v33).bind fun d34 => (xgR 10 sh d34 q0 39).bind fun v35 => (xsI .int sh d34 v35 x1 (0 : Int32)).bind fun d36 => xloop (fun _ _ _ _ => none) (b_X10_starts_48 sh) xF q0 x1 (0 : Int32) d36
set_option maxHeartbeats 4000000 in
set_option maxRecDepth 100000 in
theorem mt_X10_starts (l : Launch) (D : va_G) (cid : FieldType → ClassId) (b : Nat) (ex : Bool) (sa sv B0 : Nat) (sh : List xSh) (q0 : Nat) (x1 : Int32) (d : xD) (dz : xD) (hf : f_X10_starts sh q0 x1 d = some dz) : xMet l yX10_starts cX10_starts 5 none 0 0 0 D cid b ex sa sv B0 [.ref (b + q0), .int x1] sh d none sh dz := by
  refine xMet.of (by decide) (Nat.le_of_ble_eq_true rfl) ?_
  intro p e s m below meth c ls A S hr hin G hl
  have hl : lv_has ls 5 [(0, .ref (b + q0)), (1, .int x1)] := hl
  generalize ([.ref (b + q0), .int x1] : List Value).toArray = av at S ⊢
  have hx := S.1
  have hb := S.2.1
  have hml := S.2.2.1
  have hown := S.2.2.2.1
  have hts := S.2.2.2.2.1
  have K187 : ∀ (d : xD), k_X10_starts_187 sh d = some dz → ∀ (H : Heap) (locs : List Loc) (ls : Array Slot), lv_has ls 5 [] → xG D cid b A sh d s H locs → W p l e (xRm 0 0 0) s m av below meth c H locs 0 0 (MQ below (xQ D cid b ex A none sh dz) av s 0 0 A) (F0 m 187 ls []) := by
    intro d hf H locs ls hl G
    unfold k_X10_starts_187 at hf
    cases hf
    exact xr_vret S G (fun _ => rfl) hr dX10_starts_187
  have K163 : ∀ (n : Nat) (q0 : Nat) (x1 : Int32) (x2 : Int32) (d : xD), xloop (fun _ _ _ _ => none) (b_X10_starts_163 sh) n q0 x1 x2 d = some dz → ∀ (H : Heap) (locs : List Loc) (ls : Array Slot), lv_has ls 5 [(0, .ref (b + q0)), (1, .int x1), (2, .int x2)] → xG D cid b A sh d s H locs → W p l e (xRm 0 0 0) s m av below meth c H locs 0 0 (MQ below (xQ D cid b ex A none sh dz) av s 0 0 A) (F0 m 163 ls []) := by
    intro n
    induction n with
    | zero =>
      intro q0 x1 x2 d hf
      have hf : (none : Option xD) = some dz := hf
      cases hf
    | succ n hrec163 =>
      intro q0 x1 x2 d hf H locs ls hl G
      have hf : b_X10_starts_163 sh (xloop (fun _ _ _ _ => none) (b_X10_starts_163 sh) n) q0 x1 x2 d = some dz := hf
      unfold b_X10_starts_163 at hf
      refine lv_iload_n hx hb dX10_starts_163 rfl (lv_at hl 2 rfl) ?_
      refine lv_bipush (v := (8 : Int32)) hx hb dX10_starts_164 (by decide) ?_
      refine lv_icmp_ge (tgt := 187) hx hb dX10_starts_166 (by decide) (fun c => ?_) (fun c => ?_)
      · have hf := x_pos c hf
        exact K187 d hf _ _ ls (lv_sub hl [] rfl) G
      · have hf := x_neg c hf
        refine lv_aload_n hx hb dX10_starts_169 rfl (lv_at hl 0 rfl) ?_
        obtain ⟨v1, hv1, hf⟩ := x_ob hf
        refine xr_getR (ci := 10) (k := 47) S G hv1 rfl kw_1215 dX10_starts_170 ?_
        refine lv_bipush (v := (8 : Int32)) hx hb dX10_starts_173 (by decide) ?_
        refine lv_iload_n hx hb dX10_starts_175 rfl (lv_at hl 1 rfl) ?_
        refine lv_imul hx hb dX10_starts_176 ?_
        refine lv_iload_n hx hb dX10_starts_177 rfl (lv_at hl 2 rfl) ?_
        refine lv_iadd hx hb dX10_starts_178 ?_
        refine lv_iconst (v := (0 : Int32)) hx hb dX10_starts_179 (by decide) ?_
        obtain ⟨d2, hd2, hf⟩ := x_ob hf
        refine xr_iast S G hd2 dX10_starts_180 (fun H locs G => ?_)
        refine lv_iinc (v := (x2 + 1)) (lv' := [(2, .int (x2 + 1)), (0, .ref (b + q0)), (1, .int x1)]) hx hb dX10_starts_181 hl (k := 2) rfl rfl (by decide) rfl (fun ls hl => ?_)
        refine lv_goto (tgt := 163) hx hb dX10_starts_184 (by decide) ?_
        exact hrec163 q0 x1 (x2 + 1) d2 hf _ _ ls (lv_sub hl [1, 2, 0] rfl) G
  have K161 : ∀ (q0 : Nat) (x1 : Int32) (d : xD), k_X10_starts_161 sh q0 x1 d = some dz → ∀ (H : Heap) (locs : List Loc) (ls : Array Slot), lv_has ls 5 [(0, .ref (b + q0)), (1, .int x1)] → xG D cid b A sh d s H locs → W p l e (xRm 0 0 0) s m av below meth c H locs 0 0 (MQ below (xQ D cid b ex A none sh dz) av s 0 0 A) (F0 m 161 ls []) := by
    intro q0 x1 d hf H locs ls hl G
    unfold k_X10_starts_161 at hf
    refine lv_iconst (v := (0 : Int32)) hx hb dX10_starts_161 (by decide) ?_
    refine lv_istore_n (lv' := [(2, .int (0 : Int32)), (0, .ref (b + q0)), (1, .int x1)]) hx hb dX10_starts_162 rfl hl (by decide) rfl (fun ls hl => ?_)
    exact K163 xF q0 x1 (0 : Int32) d hf _ _ ls (lv_sub hl [1, 2, 0] rfl) G
  have K126 : ∀ (rec48 : Nat → Int32 → Int32 → xD → Option xD) (hrec48 : ∀ (q0 : Nat) (x1 : Int32) (x2 : Int32) (d : xD), rec48 q0 x1 x2 d = some dz → ∀ (H : Heap) (locs : List Loc) (ls : Array Slot), lv_has ls 5 [(0, .ref (b + q0)), (1, .int x1), (2, .int x2)] → xG D cid b A sh d s H locs → W p l e (xRm 0 0 0) s m av below meth c H locs 0 0 (MQ below (xQ D cid b ex A none sh dz) av s 0 0 A) (F0 m 48 ls [])) (q0 : Nat) (x1 : Int32) (x2 : Int32) (x3 : Int32) (p0 : Nat) (y1 : Int32) (y2 : Int32) (d : xD), k_X10_starts_126 sh rec48 q0 x1 x2 x3 p0 y1 y2 d = some dz → ∀ (H : Heap) (locs : List Loc) (ls : Array Slot), lv_has ls 5 [(0, .ref (b + q0)), (1, .int x1), (2, .int x2), (3, .int x3)] → xG D cid b A sh d s H locs → W p l e (xRm 0 0 0) s m av below meth c H locs 0 0 (MQ below (xQ D cid b ex A none sh dz) av s 0 0 A) (F0 m 126 ls [.int y2, .int y1, .ref (b + p0)]) := by
    intro rec48 hrec48 q0 x1 x2 x3 p0 y1 y2 d hf H locs ls hl G
    unfold k_X10_starts_126 at hf
    obtain ⟨d3, hd3, hf⟩ := x_ob hf
    refine xr_iast S G hd3 dX10_starts_126 (fun H locs G => ?_)
    refine lv_aload_n hx hb dX10_starts_127 rfl (lv_at hl 0 rfl) ?_
    obtain ⟨v4, hv4, hf⟩ := x_ob hf
    refine xr_getR (ci := 10) (k := 43) S G hv4 rfl kw_1211 dX10_starts_128 ?_
    refine lv_iload_n hx hb dX10_starts_131 rfl (lv_at hl 3 rfl) ?_
    refine lv_iconst (v := (-1 : Int32)) hx hb dX10_starts_132 (by decide) ?_
    obtain ⟨d5, hd5, hf⟩ := x_ob hf
    refine xr_iast S G hd5 dX10_starts_133 (fun H locs G => ?_)
    refine lv_aload_n hx hb dX10_starts_134 rfl (lv_at hl 0 rfl) ?_
    obtain ⟨v6, hv6, hf⟩ := x_ob hf
    refine xr_getR (ci := 10) (k := 44) S G hv6 rfl kw_1212 dX10_starts_135 ?_
    refine lv_iload_n hx hb dX10_starts_138 rfl (lv_at hl 3 rfl) ?_
    refine lv_iconst (v := (0 : Int32)) hx hb dX10_starts_139 (by decide) ?_
    obtain ⟨d7, hd7, hf⟩ := x_ob hf
    refine xr_iast S G hd7 dX10_starts_140 (fun H locs G => ?_)
    refine lv_aload_n hx hb dX10_starts_141 rfl (lv_at hl 0 rfl) ?_
    obtain ⟨v8, hv8, hf⟩ := x_ob hf
    refine xr_getR (ci := 10) (k := 45) S G hv8 rfl kw_1213 dX10_starts_142 ?_
    refine lv_iload_n hx hb dX10_starts_145 rfl (lv_at hl 3 rfl) ?_
    refine lv_iconst (v := (0 : Int32)) hx hb dX10_starts_146 (by decide) ?_
    obtain ⟨d9, hd9, hf⟩ := x_ob hf
    refine xr_iast S G hd9 dX10_starts_147 (fun H locs G => ?_)
    refine lv_aload_n hx hb dX10_starts_148 rfl (lv_at hl 0 rfl) ?_
    obtain ⟨v10, hv10, hf⟩ := x_ob hf
    refine xr_getR (ci := 10) (k := 46) S G hv10 rfl kw_1214 dX10_starts_149 ?_
    refine lv_iload_n hx hb dX10_starts_152 rfl (lv_at hl 3 rfl) ?_
    refine lv_iconst (v := (0 : Int32)) hx hb dX10_starts_153 (by decide) ?_
    obtain ⟨d11, hd11, hf⟩ := x_ob hf
    refine xr_iast S G hd11 dX10_starts_154 (fun H locs G => ?_)
    refine lv_iinc (v := (x2 + 1)) (lv' := [(2, .int (x2 + 1)), (0, .ref (b + q0)), (1, .int x1), (3, .int x3)]) hx hb dX10_starts_155 hl (k := 2) rfl rfl (by decide) rfl (fun ls hl => ?_)
    refine lv_goto (tgt := 48) hx hb dX10_starts_158 (by decide) ?_
    exact hrec48 q0 x1 (x2 + 1) d11 hf _ _ ls (lv_sub hl [1, 2, 0] rfl) G
  have K105 : ∀ (rec48 : Nat → Int32 → Int32 → xD → Option xD) (hrec48 : ∀ (q0 : Nat) (x1 : Int32) (x2 : Int32) (d : xD), rec48 q0 x1 x2 d = some dz → ∀ (H : Heap) (locs : List Loc) (ls : Array Slot), lv_has ls 5 [(0, .ref (b + q0)), (1, .int x1), (2, .int x2)] → xG D cid b A sh d s H locs → W p l e (xRm 0 0 0) s m av below meth c H locs 0 0 (MQ below (xQ D cid b ex A none sh dz) av s 0 0 A) (F0 m 48 ls [])) (q0 : Nat) (x1 : Int32) (x2 : Int32) (x3 : Int32) (x4 : Int32) (p0 : Nat) (y1 : Int32) (y2 : Int32) (d : xD), k_X10_starts_105 sh rec48 q0 x1 x2 x3 x4 p0 y1 y2 d = some dz → ∀ (H : Heap) (locs : List Loc) (ls : Array Slot), lv_has ls 5 [(0, .ref (b + q0)), (1, .int x1), (2, .int x2), (3, .int x3), (4, .int x4)] → xG D cid b A sh d s H locs → W p l e (xRm 0 0 0) s m av below meth c H locs 0 0 (MQ below (xQ D cid b ex A none sh dz) av s 0 0 A) (F0 m 105 ls [.int y2, .int y1, .ref (b + p0)]) := by
    intro rec48 hrec48 q0 x1 x2 x3 x4 p0 y1 y2 d hf H locs ls hl G
    unfold k_X10_starts_105 at hf
    obtain ⟨d12, hd12, hf⟩ := x_ob hf
    refine xr_iast S G hd12 dX10_starts_105 (fun H locs G => ?_)
    refine lv_aload_n hx hb dX10_starts_106 rfl (lv_at hl 0 rfl) ?_
    obtain ⟨v13, hv13, hf⟩ := x_ob hf
    refine xr_getR (ci := 10) (k := 42) S G hv13 rfl kw_1210 dX10_starts_107 ?_
    refine lv_iload_n hx hb dX10_starts_110 rfl (lv_at hl 3 rfl) ?_
    refine lv_iload hx hb dX10_starts_111 (lv_at hl 4 rfl) ?_
    refine lv_if_eq (tgt := 125) hx hb dX10_starts_113 (by decide) (fun c => ?_) (fun c => ?_)
    · have hf := x_pos c hf
      refine lv_iconst (v := (0 : Int32)) hx hb dX10_starts_125 (by decide) ?_
      exact K126 _ hrec48 q0 x1 x2 x3 v13 x3 (0 : Int32) d12 hf _ _ ls (lv_sub hl [0, 1, 2, 3] rfl) G
    · have hf := x_neg c hf
      refine lv_aload_n hx hb dX10_starts_116 rfl (lv_at hl 0 rfl) ?_
      obtain ⟨v14, hv14, hf⟩ := x_ob hf
      refine xr_getR (ci := 10) (k := 9) S G hv14 rfl kw_1177 dX10_starts_117 ?_
      refine lv_iload_n hx hb dX10_starts_120 rfl (lv_at hl 2 rfl) ?_
      obtain ⟨v15, hv15, hf⟩ := x_ob hf
      refine xr_iald S G hv15 dX10_starts_121 ?_
      refine lv_goto (tgt := 126) hx hb dX10_starts_122 (by decide) ?_
      exact K126 _ hrec48 q0 x1 x2 x3 v13 x3 v15 d12 hf _ _ ls (lv_sub hl [0, 1, 2, 3] rfl) G
  have K76 : ∀ (rec48 : Nat → Int32 → Int32 → xD → Option xD) (hrec48 : ∀ (q0 : Nat) (x1 : Int32) (x2 : Int32) (d : xD), rec48 q0 x1 x2 d = some dz → ∀ (H : Heap) (locs : List Loc) (ls : Array Slot), lv_has ls 5 [(0, .ref (b + q0)), (1, .int x1), (2, .int x2)] → xG D cid b A sh d s H locs → W p l e (xRm 0 0 0) s m av below meth c H locs 0 0 (MQ below (xQ D cid b ex A none sh dz) av s 0 0 A) (F0 m 48 ls [])) (q0 : Nat) (x1 : Int32) (x2 : Int32) (x3 : Int32) (y0 : Int32) (d : xD), k_X10_starts_76 sh rec48 q0 x1 x2 x3 y0 d = some dz → ∀ (H : Heap) (locs : List Loc) (ls : Array Slot), lv_has ls 5 [(0, .ref (b + q0)), (1, .int x1), (2, .int x2), (3, .int x3)] → xG D cid b A sh d s H locs → W p l e (xRm 0 0 0) s m av below meth c H locs 0 0 (MQ below (xQ D cid b ex A none sh dz) av s 0 0 A) (F0 m 76 ls [.int y0]) := by
    intro rec48 hrec48 q0 x1 x2 x3 y0 d hf H locs ls hl G
    unfold k_X10_starts_76 at hf
    refine lv_istore (lv' := [(4, .int y0), (0, .ref (b + q0)), (1, .int x1), (2, .int x2), (3, .int x3)]) hx hb dX10_starts_76 hl (by decide) rfl (fun ls hl => ?_)
    refine lv_aload_n hx hb dX10_starts_78 rfl (lv_at hl 1 rfl) ?_
    obtain ⟨v16, hv16, hf⟩ := x_ob hf
    refine xr_getR (ci := 10) (k := 40) S G hv16 rfl kw_1208 dX10_starts_79 ?_
    refine lv_iload_n hx hb dX10_starts_82 rfl (lv_at hl 4 rfl) ?_
    refine lv_iconst (v := (0 : Int32)) hx hb dX10_starts_83 (by decide) ?_
    obtain ⟨d17, hd17, hf⟩ := x_ob hf
    refine xr_iast S G hd17 dX10_starts_84 (fun H locs G => ?_)
    refine lv_aload_n hx hb dX10_starts_85 rfl (lv_at hl 1 rfl) ?_
    obtain ⟨v18, hv18, hf⟩ := x_ob hf
    refine xr_getR (ci := 10) (k := 41) S G hv18 rfl kw_1209 dX10_starts_86 ?_
    refine lv_iload_n hx hb dX10_starts_89 rfl (lv_at hl 4 rfl) ?_
    refine lv_iload hx hb dX10_starts_90 (lv_at hl 0 rfl) ?_
    refine lv_if_eq (tgt := 104) hx hb dX10_starts_92 (by decide) (fun c => ?_) (fun c => ?_)
    · have hf := x_pos c hf
      refine lv_iconst (v := (0 : Int32)) hx hb dX10_starts_104 (by decide) ?_
      exact K105 _ hrec48 q0 x1 x2 x3 y0 v18 x3 (0 : Int32) d17 hf _ _ ls (lv_sub hl [1, 2, 3, 4, 0] rfl) G
    · have hf := x_neg c hf
      refine lv_aload_n hx hb dX10_starts_95 rfl (lv_at hl 1 rfl) ?_
      obtain ⟨v19, hv19, hf⟩ := x_ob hf
      refine xr_getR (ci := 10) (k := 8) S G hv19 rfl kw_1176 dX10_starts_96 ?_
      refine lv_iload_n hx hb dX10_starts_99 rfl (lv_at hl 3 rfl) ?_
      obtain ⟨v20, hv20, hf⟩ := x_ob hf
      refine xr_iald S G hv20 dX10_starts_100 ?_
      refine lv_goto (tgt := 105) hx hb dX10_starts_101 (by decide) ?_
      exact K105 _ hrec48 q0 x1 x2 x3 y0 v18 x3 v20 d17 hf _ _ ls (lv_sub hl [1, 2, 3, 4, 0] rfl) G
  have K48 : ∀ (n : Nat) (q0 : Nat) (x1 : Int32) (x2 : Int32) (d : xD), xloop (fun _ _ _ _ => none) (b_X10_starts_48 sh) n q0 x1 x2 d = some dz → ∀ (H : Heap) (locs : List Loc) (ls : Array Slot), lv_has ls 5 [(0, .ref (b + q0)), (1, .int x1), (2, .int x2)] → xG D cid b A sh d s H locs → W p l e (xRm 0 0 0) s m av below meth c H locs 0 0 (MQ below (xQ D cid b ex A none sh dz) av s 0 0 A) (F0 m 48 ls []) := by
    intro n
    induction n with
    | zero =>
      intro q0 x1 x2 d hf
      have hf : (none : Option xD) = some dz := hf
      cases hf
    | succ n hrec48 =>
      intro q0 x1 x2 d hf H locs ls hl G
      have hf : b_X10_starts_48 sh (xloop (fun _ _ _ _ => none) (b_X10_starts_48 sh) n) q0 x1 x2 d = some dz := hf
      unfold b_X10_starts_48 at hf
      refine lv_iload_n hx hb dX10_starts_48 rfl (lv_at hl 2 rfl) ?_
      refine lv_bipush (v := (6 : Int32)) hx hb dX10_starts_49 (by decide) ?_
      refine lv_icmp_ge (tgt := 161) hx hb dX10_starts_51 (by decide) (fun c => ?_) (fun c => ?_)
      · have hf := x_pos c hf
        exact K161 q0 x1 d hf _ _ ls (lv_sub hl [0, 1] rfl) G
      · have hf := x_neg c hf
        refine lv_bipush (v := (6 : Int32)) hx hb dX10_starts_54 (by decide) ?_
        refine lv_iload_n hx hb dX10_starts_56 rfl (lv_at hl 1 rfl) ?_
        refine lv_imul hx hb dX10_starts_57 ?_
        refine lv_iload_n hx hb dX10_starts_58 rfl (lv_at hl 2 rfl) ?_
        refine lv_iadd hx hb dX10_starts_59 ?_
        refine lv_istore_n (lv' := [(3, .int (((6 : Int32) * x1) + x2)), (0, .ref (b + q0)), (1, .int x1), (2, .int x2)]) hx hb dX10_starts_60 rfl hl (by decide) rfl (fun ls hl => ?_)
        refine lv_iload_n hx hb dX10_starts_61 rfl (lv_at hl 3 rfl) ?_
        refine lv_aload_n hx hb dX10_starts_62 rfl (lv_at hl 1 rfl) ?_
        obtain ⟨v21, hv21, hf⟩ := x_ob hf
        refine xr_getR (ci := 10) (k := 3) S G hv21 rfl kw_1171 dX10_starts_63 ?_
        refine lv_iconst (v := (2 : Int32)) hx hb dX10_starts_66 (by decide) ?_
        obtain ⟨v22, hv22, hf⟩ := x_ob hf
        refine xr_iald S G hv22 dX10_starts_67 ?_
        refine lv_icmp_ge (tgt := 75) hx hb dX10_starts_68 (by decide) (fun c => ?_) (fun c => ?_)
        · have hf := x_pos c hf
          refine lv_iconst (v := (0 : Int32)) hx hb dX10_starts_75 (by decide) ?_
          exact K76 _ hrec48 q0 x1 x2 (((6 : Int32) * x1) + x2) (0 : Int32) d hf _ _ ls (lv_sub hl [1, 2, 3, 0] rfl) G
        · have hf := x_neg c hf
          refine lv_iconst (v := (1 : Int32)) hx hb dX10_starts_71 (by decide) ?_
          refine lv_goto (tgt := 76) hx hb dX10_starts_72 (by decide) ?_
          exact K76 _ hrec48 q0 x1 x2 (((6 : Int32) * x1) + x2) (1 : Int32) d hf _ _ ls (lv_sub hl [1, 2, 3, 0] rfl) G
  unfold f_X10_starts at hf
  refine lv_aload_n hx hb dX10_starts_0 rfl (lv_at hl 0 rfl) ?_
  obtain ⟨v23, hv23, hf⟩ := x_ob hf
  refine xr_getR (ci := 10) (k := 35) S G hv23 rfl kw_1203 dX10_starts_1 ?_
  refine lv_iload_n hx hb dX10_starts_4 rfl (lv_at hl 1 rfl) ?_
  refine lv_iconst (v := (0 : Int32)) hx hb dX10_starts_5 (by decide) ?_
  obtain ⟨d24, hd24, hf⟩ := x_ob hf
  refine xr_iast S G hd24 dX10_starts_6 (fun H locs G => ?_)
  refine lv_aload_n hx hb dX10_starts_7 rfl (lv_at hl 0 rfl) ?_
  obtain ⟨v25, hv25, hf⟩ := x_ob hf
  refine xr_getR (ci := 10) (k := 36) S G hv25 rfl kw_1204 dX10_starts_8 ?_
  refine lv_iload_n hx hb dX10_starts_11 rfl (lv_at hl 1 rfl) ?_
  refine lv_aload_n hx hb dX10_starts_12 rfl (lv_at hl 0 rfl) ?_
  obtain ⟨v26, hv26, hf⟩ := x_ob hf
  refine xr_getR (ci := 10) (k := 3) S G hv26 rfl kw_1171 dX10_starts_13 ?_
  refine lv_bipush (v := (6 : Int32)) hx hb dX10_starts_16 (by decide) ?_
  obtain ⟨v27, hv27, hf⟩ := x_ob hf
  refine xr_iald S G hv27 dX10_starts_18 ?_
  obtain ⟨d28, hd28, hf⟩ := x_ob hf
  refine xr_iast S G hd28 dX10_starts_19 (fun H locs G => ?_)
  refine lv_aload_n hx hb dX10_starts_20 rfl (lv_at hl 0 rfl) ?_
  obtain ⟨v29, hv29, hf⟩ := x_ob hf
  refine xr_getR (ci := 10) (k := 37) S G hv29 rfl kw_1205 dX10_starts_21 ?_
  refine lv_iload_n hx hb dX10_starts_24 rfl (lv_at hl 1 rfl) ?_
  refine lv_iconst (v := (0 : Int32)) hx hb dX10_starts_25 (by decide) ?_
  obtain ⟨d30, hd30, hf⟩ := x_ob hf
  refine xr_iast S G hd30 dX10_starts_26 (fun H locs G => ?_)
  refine lv_aload_n hx hb dX10_starts_27 rfl (lv_at hl 0 rfl) ?_
  obtain ⟨v31, hv31, hf⟩ := x_ob hf
  refine xr_getR (ci := 10) (k := 38) S G hv31 rfl kw_1206 dX10_starts_28 ?_
  refine lv_iload_n hx hb dX10_starts_31 rfl (lv_at hl 1 rfl) ?_
  refine lv_aload_n hx hb dX10_starts_32 rfl (lv_at hl 0 rfl) ?_
  obtain ⟨v32, hv32, hf⟩ := x_ob hf
  refine xr_getR (ci := 10) (k := 3) S G hv32 rfl kw_1171 dX10_starts_33 ?_
  refine lv_iconst (v := (4 : Int32)) hx hb dX10_starts_36 (by decide) ?_
  obtain ⟨v33, hv33, hf⟩ := x_ob hf
  refine xr_iald S G hv33 dX10_starts_37 ?_
  obtain ⟨d34, hd34, hf⟩ := x_ob hf
  refine xr_iast S G hd34 dX10_starts_38 (fun H locs G => ?_)
  refine lv_aload_n hx hb dX10_starts_39 rfl (lv_at hl 0 rfl) ?_
  obtain ⟨v35, hv35, hf⟩ := x_ob hf
  refine xr_getR (ci := 10) (k := 39) S G hv35 rfl kw_1207 dX10_starts_40 ?_
  refine lv_iload_n hx hb dX10_starts_43 rfl (lv_at hl 1 rfl) ?_
  refine lv_iconst (v := (0 : Int32)) hx hb dX10_starts_44 (by decide) ?_
  obtain ⟨d36, hd36, hf⟩ := x_ob hf
  refine xr_iast S G hd36 dX10_starts_45 (fun H locs G => ?_)
  refine lv_iconst (v := (0 : Int32)) hx hb dX10_starts_46 (by decide) ?_
  refine lv_istore_n (lv' := [(2, .int (0 : Int32)), (0, .ref (b + q0)), (1, .int x1)]) hx hb dX10_starts_47 rfl hl (by decide) rfl (fun ls hl => ?_)
  exact K48 xF q0 x1 (0 : Int32) d36 hf _ _ ls (lv_sub hl [1, 2, 0] rfl) G

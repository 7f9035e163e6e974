-- HalfLandings.tried(III)I
theorem dX9_tried_0 : decode cX9_tried 0 = .ok (.iload_n 1, 1) := by decide +kernel
theorem dX9_tried_1 : decode cX9_tried 1 = .ok (.ifCond .lt 19, 3) := by decide +kernel
theorem dX9_tried_4 : decode cX9_tried 4 = .ok (.iload_n 1, 1) := by decide +kernel
theorem dX9_tried_5 : decode cX9_tried 5 = .ok (.iconst 5, 1) := by decide +kernel
theorem dX9_tried_6 : decode cX9_tried 6 = .ok (.if_icmp .gt 14, 3) := by decide +kernel
theorem dX9_tried_9 : decode cX9_tried 9 = .ok (.iload_n 3, 1) := by decide +kernel
theorem dX9_tried_10 : decode cX9_tried 10 = .ok (.ifCond .lt 10, 3) := by decide +kernel
theorem dX9_tried_13 : decode cX9_tried 13 = .ok (.iload_n 3, 1) := by decide +kernel
theorem dX9_tried_14 : decode cX9_tried 14 = .ok (.sipush 200, 3) := by decide +kernel
theorem dX9_tried_17 : decode cX9_tried 17 = .ok (.if_icmp .le 5, 3) := by decide +kernel
theorem dX9_tried_20 : decode cX9_tried 20 = .ok (.iconst (-1), 1) := by decide +kernel
theorem dX9_tried_21 : decode cX9_tried 21 = .ok (.ireturn, 1) := by decide +kernel
theorem dX9_tried_22 : decode cX9_tried 22 = .ok (.iload_n 1, 1) := by decide +kernel
theorem dX9_tried_23 : decode cX9_tried 23 = .ok (.iconst 2, 1) := by decide +kernel
theorem dX9_tried_24 : decode cX9_tried 24 = .ok (.if_icmp .ne 17, 3) := by decide +kernel
theorem dX9_tried_27 : decode cX9_tried 27 = .ok (.aload_n 0, 1) := by decide +kernel
theorem dX9_tried_28 : decode cX9_tried 28 = .ok (.getfield 28, 3) := by decide +kernel
theorem dX9_tried_31 : decode cX9_tried 31 = .ok (.iload_n 2, 1) := by decide +kernel
theorem dX9_tried_32 : decode cX9_tried 32 = .ok (.invokevirtual 121, 3) := by decide +kernel
theorem dX9_tried_35 : decode cX9_tried 35 = .ok (.ifCond .ne 12, 3) := by decide +kernel
theorem dX9_tried_38 : decode cX9_tried 38 = .ok (.goto 7, 3) := by decide +kernel
theorem dX9_tried_41 : decode cX9_tried 41 = .ok (.iload_n 2, 1) := by decide +kernel
theorem dX9_tried_42 : decode cX9_tried 42 = .ok (.ifCond .eq 5, 3) := by decide +kernel
theorem dX9_tried_45 : decode cX9_tried 45 = .ok (.iconst (-1), 1) := by decide +kernel
theorem dX9_tried_46 : decode cX9_tried 46 = .ok (.ireturn, 1) := by decide +kernel
theorem dX9_tried_47 : decode cX9_tried 47 = .ok (.aload_n 0, 1) := by decide +kernel
theorem dX9_tried_48 : decode cX9_tried 48 = .ok (.getfield 63, 3) := by decide +kernel
theorem dX9_tried_51 : decode cX9_tried 51 = .ok (.aload_n 0, 1) := by decide +kernel
theorem dX9_tried_52 : decode cX9_tried 52 = .ok (.getfield 56, 3) := by decide +kernel
theorem dX9_tried_55 : decode cX9_tried 55 = .ok (.invokevirtual 233, 3) := by decide +kernel
theorem dX9_tried_58 : decode cX9_tried 58 = .ok (.aload_n 0, 1) := by decide +kernel
theorem dX9_tried_59 : decode cX9_tried 59 = .ok (.iload_n 1, 1) := by decide +kernel
theorem dX9_tried_60 : decode cX9_tried 60 = .ok (.iload_n 2, 1) := by decide +kernel
theorem dX9_tried_61 : decode cX9_tried 61 = .ok (.invokevirtual 312, 3) := by decide +kernel
theorem dX9_tried_64 : decode cX9_tried 64 = .ok (.aload_n 0, 1) := by decide +kernel
theorem dX9_tried_65 : decode cX9_tried 65 = .ok (.getfield 75, 3) := by decide +kernel
theorem dX9_tried_68 : decode cX9_tried 68 = .ok (.aload_n 0, 1) := by decide +kernel
theorem dX9_tried_69 : decode cX9_tried 69 = .ok (.getfield 63, 3) := by decide +kernel
theorem dX9_tried_72 : decode cX9_tried 72 = .ok (.iload_n 3, 1) := by decide +kernel
theorem dX9_tried_73 : decode cX9_tried 73 = .ok (.iload_n 1, 1) := by decide +kernel
theorem dX9_tried_74 : decode cX9_tried 74 = .ok (.iconst 1, 1) := by decide +kernel
theorem dX9_tried_75 : decode cX9_tried 75 = .ok (.if_icmp .ne 7, 3) := by decide +kernel
theorem dX9_tried_78 : decode cX9_tried 78 = .ok (.iconst 1, 1) := by decide +kernel
theorem dX9_tried_79 : decode cX9_tried 79 = .ok (.goto 4, 3) := by decide +kernel
theorem dX9_tried_82 : decode cX9_tried 82 = .ok (.iconst 0, 1) := by decide +kernel
theorem dX9_tried_83 : decode cX9_tried 83 = .ok (.invokevirtual 229, 3) := by decide +kernel
theorem dX9_tried_86 : decode cX9_tried 86 = .ok (.ireturn, 1) := by decide +kernel
theorem hd_X9_tried : yX9_tried.cls = xCn 9 ∧ yX9_tried.cls ≠ "java/lang/invoke/MethodHandle" ∧ yX9_tried.cls ≠ "java/lang/invoke/VarHandle" ∧ (parseMethodDescriptor yX9_tried.desc).map (fun d => d.parameters.length) = some 3 := by decide +kernel
def k_X9_tried_20 (sh : List xSh) (d : xD) : Option (Int32 × xD) :=
  some ((-1 : Int32), d)
def k_X9_tried_83 (sh : List xSh) (p0 : Nat) (p1 : Nat) (y2 : Int32) (y3 : Int32) (d : xD) : Option (Int32 × xD) :=
  (xon 2 sh p0 (f_X2_talkMore sh p0 p1 y2 y3 d)).bind fun z1 => some (z1.1, z1.2)
def k_X9_tried_47 (sh : List xSh) (q0 : Nat) (x1 : Int32) (x2 : Int32) (x3 : Int32) (d : xD) : Option (Int32 × xD) :=
  (xgR 9 sh d q0 10).bind fun v2 => (xgR 9 sh d q0 8).bind fun v3 => (xon 4 sh v2 (f_X4_become sh v2 v3 d)).bind fun d4 => (xon 9 sh q0 (f_X9_changeTrial sh q0 x1 x2 d4)).bind fun d5 => (xgR 9 sh d5 q0 12).bind fun v6 => (xgR 9 sh d5 q0 10).bind fun v7 => if x1 = (1 : Int32) then (k_X9_tried_83 sh v6 v7 x3 (1 : Int32) d5) else (k_X9_tried_83 sh v6 v7 x3 (0 : Int32) d5)
def k_X9_tried_45 (sh : List xSh) (d : xD) : Option (Int32 × xD) :=
  some ((-1 : Int32), d)
def f_X9_tried (sh : List xSh) (q0 : Nat) (x1 : Int32) (x2 : Int32) (x3 : Int32) (d : xD) : Option (Int32 × xD) :=
  if x1 < 0 then (k_X9_tried_20 sh d) else (if (5 : Int32) < x1 then (k_X9_tried_20 sh d) else (if x3 < 0 then (k_X9_tried_20 sh d) else (if x3 ≤ (200 : Int32) then (if x1 = (2 : Int32) then ((xgR 9 sh d q0 4).bind fun v8 => (xon 3 sh v8 (f_X3_hasWalker sh v8 x2 d)).bind fun z9 => if z9.1 = 0 then (k_X9_tried_45 sh z9.2) else (k_X9_tried_47 sh q0 x1 x2 x3 z9.2)) else (if x2 = 0 then (k_X9_tried_47 sh q0 x1 x2 x3 d) else (k_X9_tried_45 sh d))) else (k_X9_tried_20 sh d))))
set_option maxHeartbeats 4000000 in
set_option maxRecDepth 100000 in
theorem mt_X9_tried (l : Launch) (D : va_G) (cid : FieldType → ClassId) (b : Nat) (ex : Bool) (sa sv B0 : Nat) (sh : List xSh) (q0 : Nat) (x1 : Int32) (x2 : Int32) (x3 : Int32) (d : xD) (r : Int32) (dz : xD) (hf : f_X9_tried sh q0 x1 x2 x3 d = some (r, dz)) : xMet l yX9_tried cX9_tried 4 (some .int) 7 0 0 D cid b ex sa sv B0 [.ref (b + q0), .int x1, .int x2, .int x3] sh d (some (.int r)) sh dz := by
  refine xMet.of (by decide) (Nat.le_of_ble_eq_true rfl) ?_
  intro p e s m below meth c ls A S hr hin G hl
  have hl : lv_has ls 4 [(0, .ref (b + q0)), (1, .int x1), (2, .int x2), (3, .int x3)] := hl
  generalize ([.ref (b + q0), .int x1, .int x2, .int x3] : List Value).toArray = av at S ⊢
  have hx := S.1
  have hb := S.2.1
  have hml := S.2.2.1
  have hown := S.2.2.2.1
  have hts := S.2.2.2.2.1
  have K20 : ∀ (d : xD), k_X9_tried_20 sh d = some (r, dz) → ∀ (H : Heap) (locs : List Loc) (ls : Array Slot), lv_has ls 4 [] → xG D cid b A sh d s H locs → W p l e (xRm 7 0 0) s m av below meth c H locs 0 0 (MQ below (xQ D cid b ex A (some (.int r)) sh dz) av s 0 0 A) (F0 m 20 ls []) := by
    intro d hf H locs ls hl G
    unfold k_X9_tried_20 at hf
    refine lv_iconst (v := (-1 : Int32)) hx hb dX9_tried_20 (by decide) ?_
    cases hf
    exact xr_iret S G (fun _ => rfl) hr dX9_tried_21
  have K83 : ∀ (p0 : Nat) (p1 : Nat) (y2 : Int32) (y3 : Int32) (d : xD), k_X9_tried_83 sh p0 p1 y2 y3 d = some (r, dz) → ∀ (H : Heap) (locs : List Loc) (ls : Array Slot), lv_has ls 4 [] → xG D cid b A sh d s H locs → W p l e (xRm 7 0 0) s m av below meth c H locs 0 0 (MQ below (xQ D cid b ex A (some (.int r)) sh dz) av s 0 0 A) (F0 m 83 ls [.int y3, .int y2, .ref (b + p1), .ref (b + p0)]) := by
    intro p0 p1 y2 y3 d hf H locs ls hl G
    unfold k_X9_tried_83 at hf
    obtain ⟨z1, hz1, hf⟩ := x_ob hf
    obtain ⟨hqz1, hz1⟩ := xon_of hz1
    refine xr_callV (ci := 2) (As := [.ref (b + p1), .int y2, .int y3]) (rest := []) (st1 := [.int z1.1]) S G hl.1 (fun _ => rfl) (mt_X2_talkMore l D cid b ex sa sv B0 sh p0 p1 y2 y3 d _ _ hz1) hqz1 (by decide) kw_831 kw_832 kw_833 kw_13 kw_834 hd_X2_talkMore ⟨Nat.le_of_ble_eq_true rfl, Nat.le_of_ble_eq_true rfl⟩ rfl rfl rfl (Nat.le_of_ble_eq_true rfl) ⟨Nat.le_of_ble_eq_true rfl, Nat.le_of_ble_eq_true rfl⟩ dX9_tried_83 (fun H locs G => ?_)
    cases hf
    exact xr_iret S G (fun _ => rfl) hr dX9_tried_86
  have K47 : ∀ (q0 : Nat) (x1 : Int32) (x2 : Int32) (x3 : Int32) (d : xD), k_X9_tried_47 sh q0 x1 x2 x3 d = some (r, dz) → ∀ (H : Heap) (locs : List Loc) (ls : Array Slot), lv_has ls 4 [(0, .ref (b + q0)), (1, .int x1), (2, .int x2), (3, .int x3)] → xG D cid b A sh d s H locs → W p l e (xRm 7 0 0) s m av below meth c H locs 0 0 (MQ below (xQ D cid b ex A (some (.int r)) sh dz) av s 0 0 A) (F0 m 47 ls []) := by
    intro q0 x1 x2 x3 d hf H locs ls hl G
    unfold k_X9_tried_47 at hf
    refine lv_aload_n hx hb dX9_tried_47 rfl (lv_at hl 0 rfl) ?_
    obtain ⟨v2, hv2, hf⟩ := x_ob hf
    refine xr_getR (ci := 9) (k := 10) S G hv2 rfl kw_491 dX9_tried_48 ?_
    refine lv_aload_n hx hb dX9_tried_51 rfl (lv_at hl 0 rfl) ?_
    obtain ⟨v3, hv3, hf⟩ := x_ob hf
    refine xr_getR (ci := 9) (k := 8) S G hv3 rfl kw_489 dX9_tried_52 ?_
    obtain ⟨d4, hd4, hf⟩ := x_ob hf
    obtain ⟨hqd4, hd4⟩ := xon_of hd4
    refine xr_callV (ci := 4) (As := [.ref (b + v3)]) (rest := []) (st1 := []) S G hl.1 (fun _ => rfl) (mt_X4_become l D cid b ex sa sv B0 sh v2 v3 d _ hd4) hqd4 (by decide) kw_901 kw_902 kw_903 kw_12 kw_904 hd_X4_become ⟨Nat.le_of_ble_eq_true rfl, Nat.le_of_ble_eq_true rfl⟩ rfl rfl rfl (Nat.le_of_ble_eq_true rfl) ⟨Nat.le_of_ble_eq_true rfl, Nat.le_of_ble_eq_true rfl⟩ dX9_tried_55 (fun H locs G => ?_)
    refine lv_aload_n hx hb dX9_tried_58 rfl (lv_at hl 0 rfl) ?_
    refine lv_iload_n hx hb dX9_tried_59 rfl (lv_at hl 1 rfl) ?_
    refine lv_iload_n hx hb dX9_tried_60 rfl (lv_at hl 2 rfl) ?_
    obtain ⟨d5, hd5, hf⟩ := x_ob hf
    obtain ⟨hqd5, hd5⟩ := xon_of hd5
    refine xr_callV (ci := 9) (As := [.int x1, .int x2]) (rest := []) (st1 := []) S G hl.1 (fun _ => rfl) (mt_X9_changeTrial l D cid b ex sa sv B0 sh q0 x1 x2 d4 _ hd5) hqd5 (by decide) kw_1032 kw_1034 ks_33 kw_1 kw_1035 hd_X9_changeTrial ⟨Nat.le_of_ble_eq_true rfl, Nat.le_of_ble_eq_true rfl⟩ rfl rfl rfl (Nat.le_of_ble_eq_true rfl) ⟨Nat.le_of_ble_eq_true rfl, Nat.le_of_ble_eq_true rfl⟩ dX9_tried_61 (fun H locs G => ?_)
    refine lv_aload_n hx hb dX9_tried_64 rfl (lv_at hl 0 rfl) ?_
    obtain ⟨v6, hv6, hf⟩ := x_ob hf
    refine xr_getR (ci := 9) (k := 12) S G hv6 rfl kw_493 dX9_tried_65 ?_
    refine lv_aload_n hx hb dX9_tried_68 rfl (lv_at hl 0 rfl) ?_
    obtain ⟨v7, hv7, hf⟩ := x_ob hf
    refine xr_getR (ci := 9) (k := 10) S G hv7 rfl kw_491 dX9_tried_69 ?_
    refine lv_iload_n hx hb dX9_tried_72 rfl (lv_at hl 3 rfl) ?_
    refine lv_iload_n hx hb dX9_tried_73 rfl (lv_at hl 1 rfl) ?_
    refine lv_iconst (v := (1 : Int32)) hx hb dX9_tried_74 (by decide) ?_
    refine lv_icmp_ne (tgt := 82) hx hb dX9_tried_75 (by decide) (fun c => ?_) (fun c => ?_)
    · have hf := x_neg c hf
      refine lv_iconst (v := (0 : Int32)) hx hb dX9_tried_82 (by decide) ?_
      exact K83 v6 v7 x3 (0 : Int32) d5 hf _ _ ls (lv_sub hl [] rfl) G
    · have hf := x_pos c hf
      refine lv_iconst (v := (1 : Int32)) hx hb dX9_tried_78 (by decide) ?_
      refine lv_goto (tgt := 83) hx hb dX9_tried_79 (by decide) ?_
      exact K83 v6 v7 x3 (1 : Int32) d5 hf _ _ ls (lv_sub hl [] rfl) G
  have K45 : ∀ (d : xD), k_X9_tried_45 sh d = some (r, dz) → ∀ (H : Heap) (locs : List Loc) (ls : Array Slot), lv_has ls 4 [] → xG D cid b A sh d s H locs → W p l e (xRm 7 0 0) s m av below meth c H locs 0 0 (MQ below (xQ D cid b ex A (some (.int r)) sh dz) av s 0 0 A) (F0 m 45 ls []) := by
    intro d hf H locs ls hl G
    unfold k_X9_tried_45 at hf
    refine lv_iconst (v := (-1 : Int32)) hx hb dX9_tried_45 (by decide) ?_
    cases hf
    exact xr_iret S G (fun _ => rfl) hr dX9_tried_46
  unfold f_X9_tried at hf
  refine lv_iload_n hx hb dX9_tried_0 rfl (lv_at hl 1 rfl) ?_
  refine lv_if_lt (tgt := 20) hx hb dX9_tried_1 (by decide) (fun c => ?_) (fun c => ?_)
  · have hf := x_pos c hf
    exact K20 d hf _ _ ls (lv_sub hl [] rfl) G
  · have hf := x_neg c hf
    refine lv_iload_n hx hb dX9_tried_4 rfl (lv_at hl 1 rfl) ?_
    refine lv_iconst (v := (5 : Int32)) hx hb dX9_tried_5 (by decide) ?_
    refine lv_icmp_gt (tgt := 20) hx hb dX9_tried_6 (by decide) (fun c => ?_) (fun c => ?_)
    · have hf := x_pos c hf
      exact K20 d hf _ _ ls (lv_sub hl [] rfl) G
    · have hf := x_neg c hf
      refine lv_iload_n hx hb dX9_tried_9 rfl (lv_at hl 3 rfl) ?_
      refine lv_if_lt (tgt := 20) hx hb dX9_tried_10 (by decide) (fun c => ?_) (fun c => ?_)
      · have hf := x_pos c hf
        exact K20 d hf _ _ ls (lv_sub hl [] rfl) G
      · have hf := x_neg c hf
        refine lv_iload_n hx hb dX9_tried_13 rfl (lv_at hl 3 rfl) ?_
        refine lv_sipush (v := (200 : Int32)) hx hb dX9_tried_14 (by decide) ?_
        refine lv_icmp_le (tgt := 22) hx hb dX9_tried_17 (by decide) (fun c => ?_) (fun c => ?_)
        · have hf := x_pos c hf
          refine lv_iload_n hx hb dX9_tried_22 rfl (lv_at hl 1 rfl) ?_
          refine lv_iconst (v := (2 : Int32)) hx hb dX9_tried_23 (by decide) ?_
          refine lv_icmp_ne (tgt := 41) hx hb dX9_tried_24 (by decide) (fun c => ?_) (fun c => ?_)
          · have hf := x_neg c hf
            refine lv_iload_n hx hb dX9_tried_41 rfl (lv_at hl 2 rfl) ?_
            refine lv_if_eq (tgt := 47) hx hb dX9_tried_42 (by decide) (fun c => ?_) (fun c => ?_)
            · have hf := x_pos c hf
              exact K47 q0 x1 x2 x3 d hf _ _ ls (lv_sub hl [0, 1, 2, 3] rfl) G
            · have hf := x_neg c hf
              exact K45 d hf _ _ ls (lv_sub hl [] rfl) G
          · have hf := x_pos c hf
            refine lv_aload_n hx hb dX9_tried_27 rfl (lv_at hl 0 rfl) ?_
            obtain ⟨v8, hv8, hf⟩ := x_ob hf
            refine xr_getR (ci := 9) (k := 4) S G hv8 rfl kw_485 dX9_tried_28 ?_
            refine lv_iload_n hx hb dX9_tried_31 rfl (lv_at hl 2 rfl) ?_
            obtain ⟨z9, hz9, hf⟩ := x_ob hf
            obtain ⟨hqz9, hz9⟩ := xon_of hz9
            refine xr_callV (ci := 3) (As := [.int x2]) (rest := []) (st1 := [.int z9.1]) S G hl.1 (fun _ => rfl) (mt_X3_hasWalker l D cid b ex sa sv B0 sh v8 x2 d _ _ hz9) hqz9 (by decide) kw_758 kw_759 kw_760 kw_2 kw_761 hd_X3_hasWalker ⟨Nat.le_of_ble_eq_true rfl, Nat.le_of_ble_eq_true rfl⟩ rfl rfl rfl (Nat.le_of_ble_eq_true rfl) ⟨Nat.le_of_ble_eq_true rfl, Nat.le_of_ble_eq_true rfl⟩ dX9_tried_32 (fun H locs G => ?_)
            refine lv_if_ne (tgt := 47) hx hb dX9_tried_35 (by decide) (fun c => ?_) (fun c => ?_)
            · have hf := x_neg c hf
              exact K47 q0 x1 x2 x3 z9.2 hf _ _ ls (lv_sub hl [0, 1, 2, 3] rfl) G
            · have hf := x_pos c hf
              refine lv_goto (tgt := 45) hx hb dX9_tried_38 (by decide) ?_
              exact K45 z9.2 hf _ _ ls (lv_sub hl [] rfl) G
        · have hf := x_neg c hf
          exact K20 d hf _ _ ls (lv_sub hl [] rfl) G
-- HalfLandings.undo()I
theorem dX9_undo_0 : decode cX9_undo 0 = .ok (.aload_n 0, 1) := by decide +kernel
theorem dX9_undo_1 : decode cX9_undo 1 = .ok (.getfield 82, 3) := by decide +kernel
theorem dX9_undo_4 : decode cX9_undo 4 = .ok (.getfield 321, 3) := by decide +kernel
theorem dX9_undo_7 : decode cX9_undo 7 = .ok (.ifCond .ne 5, 3) := by decide +kernel
theorem dX9_undo_10 : decode cX9_undo 10 = .ok (.iconst (-1), 1) := by decide +kernel
theorem dX9_undo_11 : decode cX9_undo 11 = .ok (.ireturn, 1) := by decide +kernel
theorem dX9_undo_12 : decode cX9_undo 12 = .ok (.aload_n 0, 1) := by decide +kernel
theorem dX9_undo_13 : decode cX9_undo 13 = .ok (.getfield 82, 3) := by decide +kernel
theorem dX9_undo_16 : decode cX9_undo 16 = .ok (.aload_n 0, 1) := by decide +kernel
theorem dX9_undo_17 : decode cX9_undo 17 = .ok (.getfield 56, 3) := by decide +kernel
theorem dX9_undo_20 : decode cX9_undo 20 = .ok (.invokevirtual 322, 3) := by decide +kernel
theorem dX9_undo_23 : decode cX9_undo 23 = .ok (.aload_n 0, 1) := by decide +kernel
theorem dX9_undo_24 : decode cX9_undo 24 = .ok (.getfield 82, 3) := by decide +kernel
theorem dX9_undo_27 : decode cX9_undo 27 = .ok (.getfield 321, 3) := by decide +kernel
theorem dX9_undo_30 : decode cX9_undo 30 = .ok (.ireturn, 1) := by decide +kernel
theorem hd_X9_undo : yX9_undo.cls = xCn 9 ∧ yX9_undo.cls ≠ "java/lang/invoke/MethodHandle" ∧ yX9_undo.cls ≠ "java/lang/invoke/VarHandle" ∧ (parseMethodDescriptor yX9_undo.desc).map (fun d => d.parameters.length) = some 0 := by decide +kernel
def f_X9_undo (sh : List xSh) (q0 : Nat) (d : xD) : Option (Int32 × xD) :=
  (xgR 9 sh d q0 13).bind fun v1 => (xgI 8 sh d v1 0).bind fun v2 => if v2 = 0 then (some ((-1 : Int32), d)) else ((xgR 9 sh d q0 13).bind fun v3 => (xgR 9 sh d q0 8).bind fun v4 => (xon 8 sh v3 (f_X8_takeBack sh v3 v4 d)).bind fun d5 => (xgR 9 sh d5 q0 13).bind fun v6 => (xgI 8 sh d5 v6 0).bind fun v7 => some (v7, d5))
set_option maxHeartbeats 4000000 in
set_option maxRecDepth 100000 in
theorem mt_X9_undo (l : Launch) (D : va_G) (cid : FieldType → ClassId) (b : Nat) (ex : Bool) (sa sv B0 : Nat) (sh : List xSh) (q0 : Nat) (d : xD) (r : Int32) (dz : xD) (hf : f_X9_undo sh q0 d = some (r, dz)) : xMet l yX9_undo cX9_undo 1 (some .int) 2 0 0 D cid b ex sa sv B0 [.ref (b + q0)] sh d (some (.int r)) sh dz := by
  refine xMet.of (by decide) (Nat.le_of_ble_eq_true rfl) ?_
  intro p e s m below meth c ls A S hr hin G hl
  have hl : lv_has ls 1 [(0, .ref (b + q0))] := hl
  generalize ([.ref (b + q0)] : List Value).toArray = av at S ⊢
  have hx := S.1
  have hb := S.2.1
  have hml := S.2.2.1
  have hown := S.2.2.2.1
  have hts := S.2.2.2.2.1
  unfold f_X9_undo at hf
  refine lv_aload_n hx hb dX9_undo_0 rfl (lv_at hl 0 rfl) ?_
  obtain ⟨v1, hv1, hf⟩ := x_ob hf
  refine xr_getR (ci := 9) (k := 13) S G hv1 rfl kw_494 dX9_undo_1 ?_
  obtain ⟨v2, hv2, hf⟩ := x_ob hf
  refine xr_getI (ci := 8) (k := 0) S G hv2 rfl kw_425 dX9_undo_4 ?_
  refine lv_if_ne (tgt := 12) hx hb dX9_undo_7 (by decide) (fun c => ?_) (fun c => ?_)
  · have hf := x_neg c hf
    refine lv_aload_n hx hb dX9_undo_12 rfl (lv_at hl 0 rfl) ?_
    obtain ⟨v3, hv3, hf⟩ := x_ob hf
    refine xr_getR (ci := 9) (k := 13) S G hv3 rfl kw_494 dX9_undo_13 ?_
    refine lv_aload_n hx hb dX9_undo_16 rfl (lv_at hl 0 rfl) ?_
    obtain ⟨v4, hv4, hf⟩ := x_ob hf
    refine xr_getR (ci := 9) (k := 8) S G hv4 rfl kw_489 dX9_undo_17 ?_
    obtain ⟨d5, hd5, hf⟩ := x_ob hf
    obtain ⟨hqd5, hd5⟩ := xon_of hd5
    refine xr_callV (ci := 8) (As := [.ref (b + v4)]) (rest := []) (st1 := []) S G hl.1 (fun _ => rfl) (mt_X8_takeBack l D cid b ex sa sv B0 sh v3 v4 d _ hd5) hqd5 (by decide) kw_1041 kw_1042 kw_1043 kw_14 kw_1044 hd_X8_takeBack ⟨Nat.le_of_ble_eq_true rfl, Nat.le_of_ble_eq_true rfl⟩ rfl rfl rfl (Nat.le_of_ble_eq_true rfl) ⟨Nat.le_of_ble_eq_true rfl, Nat.le_of_ble_eq_true rfl⟩ dX9_undo_20 (fun H locs G => ?_)
    refine lv_aload_n hx hb dX9_undo_23 rfl (lv_at hl 0 rfl) ?_
    obtain ⟨v6, hv6, hf⟩ := x_ob hf
    refine xr_getR (ci := 9) (k := 13) S G hv6 rfl kw_494 dX9_undo_24 ?_
    obtain ⟨v7, hv7, hf⟩ := x_ob hf
    refine xr_getI (ci := 8) (k := 0) S G hv7 rfl kw_425 dX9_undo_27 ?_
    cases hf
    exact xr_iret S G (fun _ => rfl) hr dX9_undo_30
  · have hf := x_pos c hf
    refine lv_iconst (v := (-1 : Int32)) hx hb dX9_undo_10 (by decide) ?_
    cases hf
    exact xr_iret S G (fun _ => rfl) hr dX9_undo_11
-- HalfLandings.keep()I
theorem dX9_keep_0 : decode cX9_keep 0 = .ok (.aload_n 0, 1) := by decide +kernel
theorem dX9_keep_1 : decode cX9_keep 1 = .ok (.getfield 60, 3) := by decide +kernel
theorem dX9_keep_4 : decode cX9_keep 4 = .ok (.aload_n 0, 1) := by decide +kernel
theorem dX9_keep_5 : decode cX9_keep 5 = .ok (.getfield 56, 3) := by decide +kernel
theorem dX9_keep_8 : decode cX9_keep 8 = .ok (.invokevirtual 233, 3) := by decide +kernel
theorem dX9_keep_11 : decode cX9_keep 11 = .ok (.aload_n 0, 1) := by decide +kernel
theorem dX9_keep_12 : decode cX9_keep 12 = .ok (.iconst 1, 1) := by decide +kernel
theorem dX9_keep_13 : decode cX9_keep 13 = .ok (.putfield 66, 3) := by decide +kernel
theorem dX9_keep_16 : decode cX9_keep 16 = .ok (.aload_n 0, 1) := by decide +kernel
theorem dX9_keep_17 : decode cX9_keep 17 = .ok (.getfield 56, 3) := by decide +kernel
theorem dX9_keep_20 : decode cX9_keep 20 = .ok (.getfield 226, 3) := by decide +kernel
theorem dX9_keep_23 : decode cX9_keep 23 = .ok (.ireturn, 1) := by decide +kernel
theorem hd_X9_keep : yX9_keep.cls = xCn 9 ∧ yX9_keep.cls ≠ "java/lang/invoke/MethodHandle" ∧ yX9_keep.cls ≠ "java/lang/invoke/VarHandle" ∧ (parseMethodDescriptor yX9_keep.desc).map (fun d => d.parameters.length) = some 0 := by decide +kernel
def f_X9_keep (sh : List xSh) (q0 : Nat) (d : xD) : Option (Int32 × xD) :=
  (xgR 9 sh d q0 9).bind fun v1 => (xgR 9 sh d q0 8).bind fun v2 => (xon 4 sh v1 (f_X4_become sh v1 v2 d)).bind fun d3 => (xpI 9 sh d3 q0 11 (1 : Int32)).bind fun d4 => (xgR 9 sh d4 q0 8).bind fun v5 => (xgI 4 sh d4 v5 0).bind fun v6 => some (v6, d4)
set_option maxHeartbeats 4000000 in
set_option maxRecDepth 100000 in
theorem mt_X9_keep (l : Launch) (D : va_G) (cid : FieldType → ClassId) (b : Nat) (ex : Bool) (sa sv B0 : Nat) (sh : List xSh) (q0 : Nat) (d : xD) (r : Int32) (dz : xD) (hf : f_X9_keep sh q0 d = some (r, dz)) : xMet l yX9_keep cX9_keep 1 (some .int) 2 0 0 D cid b ex sa sv B0 [.ref (b + q0)] sh d (some (.int r)) sh dz := by
  refine xMet.of (by decide) (Nat.le_of_ble_eq_true rfl) ?_
  intro p e s m below meth c ls A S hr hin G hl
  have hl : lv_has ls 1 [(0, .ref (b + q0))] := hl
  generalize ([.ref (b + q0)] : List Value).toArray = av at S ⊢
  have hx := S.1
  have hb := S.2.1
  have hml := S.2.2.1
  have hown := S.2.2.2.1
  have hts := S.2.2.2.2.1
  unfold f_X9_keep at hf
  refine lv_aload_n hx hb dX9_keep_0 rfl (lv_at hl 0 rfl) ?_
  obtain ⟨v1, hv1, hf⟩ := x_ob hf
  refine xr_getR (ci := 9) (k := 9) S G hv1 rfl kw_490 dX9_keep_1 ?_
  refine lv_aload_n hx hb dX9_keep_4 rfl (lv_at hl 0 rfl) ?_
  obtain ⟨v2, hv2, hf⟩ := x_ob hf
  refine xr_getR (ci := 9) (k := 8) S G hv2 rfl kw_489 dX9_keep_5 ?_
  obtain ⟨d3, hd3, hf⟩ := x_ob hf
  obtain ⟨hqd3, hd3⟩ := xon_of hd3
  refine xr_callV (ci := 4) (As := [.ref (b + v2)]) (rest := []) (st1 := []) S G hl.1 (fun _ => rfl) (mt_X4_become l D cid b ex sa sv B0 sh v1 v2 d _ hd3) hqd3 (by decide) kw_901 kw_902 kw_903 kw_12 kw_904 hd_X4_become ⟨Nat.le_of_ble_eq_true rfl, Nat.le_of_ble_eq_true rfl⟩ rfl rfl rfl (Nat.le_of_ble_eq_true rfl) ⟨Nat.le_of_ble_eq_true rfl, Nat.le_of_ble_eq_true rfl⟩ dX9_keep_8 (fun H locs G => ?_)
  refine lv_aload_n hx hb dX9_keep_11 rfl (lv_at hl 0 rfl) ?_
  refine lv_iconst (v := (1 : Int32)) hx hb dX9_keep_12 (by decide) ?_
  obtain ⟨d4, hd4, hf⟩ := x_ob hf
  refine xr_putI (ci := 9) (k := 11) S G hd4 rfl kw_492 dX9_keep_13 (fun H locs G => ?_)
  refine lv_aload_n hx hb dX9_keep_16 rfl (lv_at hl 0 rfl) ?_
  obtain ⟨v5, hv5, hf⟩ := x_ob hf
  refine xr_getR (ci := 9) (k := 8) S G hv5 rfl kw_489 dX9_keep_17 ?_
  obtain ⟨v6, hv6, hf⟩ := x_ob hf
  refine xr_getI (ci := 4) (k := 0) S G hv6 rfl kw_315 dX9_keep_20 ?_
  cases hf
  exact xr_iret S G (fun _ => rfl) hr dX9_keep_23
-- HalfLandings.back()I
theorem dX9_back_0 : decode cX9_back 0 = .ok (.aload_n 0, 1) := by decide +kernel
theorem dX9_back_1 : decode cX9_back 1 = .ok (.getfield 66, 3) := by decide +kernel
theorem dX9_back_4 : decode cX9_back 4 = .ok (.ifCond .ne 5, 3) := by decide +kernel
theorem dX9_back_7 : decode cX9_back 7 = .ok (.iconst (-1), 1) := by decide +kernel
theorem dX9_back_8 : decode cX9_back 8 = .ok (.ireturn, 1) := by decide +kernel
theorem dX9_back_9 : decode cX9_back 9 = .ok (.aload_n 0, 1) := by decide +kernel
theorem dX9_back_10 : decode cX9_back 10 = .ok (.getfield 56, 3) := by decide +kernel
theorem dX9_back_13 : decode cX9_back 13 = .ok (.aload_n 0, 1) := by decide +kernel
theorem dX9_back_14 : decode cX9_back 14 = .ok (.getfield 60, 3) := by decide +kernel
theorem dX9_back_17 : decode cX9_back 17 = .ok (.invokevirtual 233, 3) := by decide +kernel
theorem dX9_back_20 : decode cX9_back 20 = .ok (.aload_n 0, 1) := by decide +kernel
theorem dX9_back_21 : decode cX9_back 21 = .ok (.getfield 82, 3) := by decide +kernel
theorem dX9_back_24 : decode cX9_back 24 = .ok (.invokevirtual 112, 3) := by decide +kernel
theorem dX9_back_27 : decode cX9_back 27 = .ok (.aload_n 0, 1) := by decide +kernel
theorem dX9_back_28 : decode cX9_back 28 = .ok (.getfield 56, 3) := by decide +kernel
theorem dX9_back_31 : decode cX9_back 31 = .ok (.getfield 226, 3) := by decide +kernel
theorem dX9_back_34 : decode cX9_back 34 = .ok (.ireturn, 1) := by decide +kernel
theorem hd_X9_back : yX9_back.cls = xCn 9 ∧ yX9_back.cls ≠ "java/lang/invoke/MethodHandle" ∧ yX9_back.cls ≠ "java/lang/invoke/VarHandle" ∧ (parseMethodDescriptor yX9_back.desc).map (fun d => d.parameters.length) = some 0 := by decide +kernel
def f_X9_back (sh : List xSh) (q0 : Nat) (d : xD) : Option (Int32 × xD) :=
  (xgI 9 sh d q0 11).bind fun v1 => if v1 = 0 then (some ((-1 : Int32), d)) else ((xgR 9 sh d q0 8).bind fun v2 => (xgR 9 sh d q0 9).bind fun v3 => (xon 4 sh v2 (f_X4_become sh v2 v3 d)).bind fun d4 => (xgR 9 sh d4 q0 13).bind fun v5 => (xon 8 sh v5 (f_X8_clear sh v5 d4)).bind fun d6 => (xgR 9 sh d6 q0 8).bind fun v7 => (xgI 4 sh d6 v7 0).bind fun v8 => some (v8, d6))
set_option maxHeartbeats 4000000 in
set_option maxRecDepth 100000 in
theorem mt_X9_back (l : Launch) (D : va_G) (cid : FieldType → ClassId) (b : Nat) (ex : Bool) (sa sv B0 : Nat) (sh : List xSh) (q0 : Nat) (d : xD) (r : Int32) (dz : xD) (hf : f_X9_back sh q0 d = some (r, dz)) : xMet l yX9_back cX9_back 1 (some .int) 2 0 0 D cid b ex sa sv B0 [.ref (b + q0)] sh d (some (.int r)) sh dz := by
  refine xMet.of (by decide) (Nat.le_of_ble_eq_true rfl) ?_
  intro p e s m below meth c ls A S hr hin G hl
  have hl : lv_has ls 1 [(0, .ref (b + q0))] := hl
  generalize ([.ref (b + q0)] : List Value).toArray = av at S ⊢
  have hx := S.1
  have hb := S.2.1
  have hml := S.2.2.1
  have hown := S.2.2.2.1
  have hts := S.2.2.2.2.1
  unfold f_X9_back at hf
  refine lv_aload_n hx hb dX9_back_0 rfl (lv_at hl 0 rfl) ?_
  obtain ⟨v1, hv1, hf⟩ := x_ob hf
  refine xr_getI (ci := 9) (k := 11) S G hv1 rfl kw_492 dX9_back_1 ?_
  refine lv_if_ne (tgt := 9) hx hb dX9_back_4 (by decide) (fun c => ?_) (fun c => ?_)
  · have hf := x_neg c hf
    refine lv_aload_n hx hb dX9_back_9 rfl (lv_at hl 0 rfl) ?_
    obtain ⟨v2, hv2, hf⟩ := x_ob hf
    refine xr_getR (ci := 9) (k := 8) S G hv2 rfl kw_489 dX9_back_10 ?_
    refine lv_aload_n hx hb dX9_back_13 rfl (lv_at hl 0 rfl) ?_
    obtain ⟨v3, hv3, hf⟩ := x_ob hf
    refine xr_getR (ci := 9) (k := 9) S G hv3 rfl kw_490 dX9_back_14 ?_
    obtain ⟨d4, hd4, hf⟩ := x_ob hf
    obtain ⟨hqd4, hd4⟩ := xon_of hd4
    refine xr_callV (ci := 4) (As := [.ref (b + v3)]) (rest := []) (st1 := []) S G hl.1 (fun _ => rfl) (mt_X4_become l D cid b ex sa sv B0 sh v2 v3 d _ hd4) hqd4 (by decide) kw_901 kw_902 kw_903 kw_12 kw_904 hd_X4_become ⟨Nat.le_of_ble_eq_true rfl, Nat.le_of_ble_eq_true rfl⟩ rfl rfl rfl (Nat.le_of_ble_eq_true rfl) ⟨Nat.le_of_ble_eq_true rfl, Nat.le_of_ble_eq_true rfl⟩ dX9_back_17 (fun H locs G => ?_)
    refine lv_aload_n hx hb dX9_back_20 rfl (lv_at hl 0 rfl) ?_
    obtain ⟨v5, hv5, hf⟩ := x_ob hf
    refine xr_getR (ci := 9) (k := 13) S G hv5 rfl kw_494 dX9_back_21 ?_
    obtain ⟨d6, hd6, hf⟩ := x_ob hf
    obtain ⟨hqd6, hd6⟩ := xon_of hd6
    refine xr_callV (ci := 8) (As := []) (rest := []) (st1 := []) S G hl.1 (fun _ => rfl) (mt_X8_clear l D cid b ex sa sv B0 sh v5 d4 _ hd6) hqd6 (by decide) kw_710 kw_711 kw_712 kw_14 kw_713 hd_X8_clear ⟨Nat.le_of_ble_eq_true rfl, Nat.le_of_ble_eq_true rfl⟩ rfl rfl rfl (Nat.le_of_ble_eq_true rfl) ⟨Nat.le_of_ble_eq_true rfl, Nat.le_of_ble_eq_true rfl⟩ dX9_back_24 (fun H locs G => ?_)
    refine lv_aload_n hx hb dX9_back_27 rfl (lv_at hl 0 rfl) ?_
    obtain ⟨v7, hv7, hf⟩ := x_ob hf
    refine xr_getR (ci := 9) (k := 8) S G hv7 rfl kw_489 dX9_back_28 ?_
    obtain ⟨v8, hv8, hf⟩ := x_ob hf
    refine xr_getI (ci := 4) (k := 0) S G hv8 rfl kw_315 dX9_back_31 ?_
    cases hf
    exact xr_iret S G (fun _ => rfl) hr dX9_back_34
  · have hf := x_pos c hf
    refine lv_iconst (v := (-1 : Int32)) hx hb dX9_back_7 (by decide) ?_
    cases hf
    exact xr_iret S G (fun _ => rfl) hr dX9_back_8
-- HalfLandings.sumOf([II)I
theorem dX9_sumOf_0 : decode cX9_sumOf 0 = .ok (.iconst 0, 1) := by decide +kernel
theorem dX9_sumOf_1 : decode cX9_sumOf 1 = .ok (.istore_n 2, 1) := by decide +kernel
theorem dX9_sumOf_2 : decode cX9_sumOf 2 = .ok (.iconst 0, 1) := by decide +kernel
theorem dX9_sumOf_3 : decode cX9_sumOf 3 = .ok (.istore_n 3, 1) := by decide +kernel
theorem dX9_sumOf_4 : decode cX9_sumOf 4 = .ok (.iload_n 3, 1) := by decide +kernel
theorem dX9_sumOf_5 : decode cX9_sumOf 5 = .ok (.iload_n 1, 1) := by decide +kernel
theorem dX9_sumOf_6 : decode cX9_sumOf 6 = .ok (.if_icmp .ge 21, 3) := by decide +kernel
theorem dX9_sumOf_9 : decode cX9_sumOf 9 = .ok (.iload_n 3, 1) := by decide +kernel
theorem dX9_sumOf_10 : decode cX9_sumOf 10 = .ok (.aload_n 0, 1) := by decide +kernel
theorem dX9_sumOf_11 : decode cX9_sumOf 11 = .ok (.arraylength, 1) := by decide +kernel
theorem dX9_sumOf_12 : decode cX9_sumOf 12 = .ok (.if_icmp .ge 15, 3) := by decide +kernel
theorem dX9_sumOf_15 : decode cX9_sumOf 15 = .ok (.iload_n 2, 1) := by decide +kernel
theorem dX9_sumOf_16 : decode cX9_sumOf 16 = .ok (.aload_n 0, 1) := by decide +kernel
theorem dX9_sumOf_17 : decode cX9_sumOf 17 = .ok (.iload_n 3, 1) := by decide +kernel
theorem dX9_sumOf_18 : decode cX9_sumOf 18 = .ok (.iaload, 1) := by decide +kernel
theorem dX9_sumOf_19 : decode cX9_sumOf 19 = .ok (.iadd, 1) := by decide +kernel
theorem dX9_sumOf_20 : decode cX9_sumOf 20 = .ok (.istore_n 2, 1) := by decide +kernel
theorem dX9_sumOf_21 : decode cX9_sumOf 21 = .ok (.iinc 3 1, 3) := by decide +kernel
theorem dX9_sumOf_24 : decode cX9_sumOf 24 = .ok (.goto (-20), 3) := by decide +kernel
theorem dX9_sumOf_27 : decode cX9_sumOf 27 = .ok (.iload_n 2, 1) := by decide +kernel
theorem dX9_sumOf_28 : decode cX9_sumOf 28 = .ok (.ireturn, 1) := by decide +kernel
theorem hd_X9_sumOf : yX9_sumOf.cls ≠ "java/lang/invoke/MethodHandle" ∧ yX9_sumOf.cls ≠ "java/lang/invoke/VarHandle" ∧ (parseMethodDescriptor yX9_sumOf.desc).map (fun d => d.parameters.length) = some 2 := by decide +kernel
def k_X9_sumOf_27 (sh : List xSh) (x2 : Int32) (d : xD) : Option (Int32 × xD) :=
  some (x2, d)
def b_X9_sumOf_4 (sh : List xSh) (rec4 : Nat → Int32 → Int32 → Int32 → xD → Option (Int32 × xD)) (q0 : Nat) (x1 : Int32) (x2 : Int32) (x3 : Int32) (d : xD) : Option (Int32 × xD) :=
  if x1 ≤ x3 then (k_X9_sumOf_27 sh x2 d) else ((xlen .int sh q0).bind fun v1 => if (nI v1) ≤ x3 then (k_X9_sumOf_27 sh x2 d) else ((xaI .int sh d q0 x3).bind fun v2 => rec4 q0 x1 (x2 + v2) (x3 + 1) d))
def f_X9_sumOf (sh : List xSh) (q0 : Nat) (x1 : Int32) (d : xD) : Option (Int32 × xD) :=
  xloop (fun _ _ _ _ _ => none) (b_X9_sumOf_4 sh) xF q0 x1 (0 : Int32) (0 : Int32) d
set_option maxHeartbeats 4000000 in
set_option maxRecDepth 100000 in
theorem mt_X9_sumOf (l : Launch) (D : va_G) (cid : FieldType → ClassId) (b : Nat) (ex : Bool) (sa sv B0 : Nat) (sh : List xSh) (q0 : Nat) (x1 : Int32) (d : xD) (r : Int32) (dz : xD) (hf : f_X9_sumOf sh q0 x1 d = some (r, dz)) : xMet l yX9_sumOf cX9_sumOf 4 (some .int) 0 0 0 D cid b ex sa sv B0 [.ref (b + q0), .int x1] sh d (some (.int r)) sh dz := by
  refine xMet.of (by decide) (Nat.le_of_ble_eq_true rfl) ?_
  intro p e s m below meth c ls A S hr hin G hl
  have hl : lv_has ls 4 [(0, .ref (b + q0)), (1, .int x1)] := hl
  generalize ([.ref (b + q0), .int x1] : List Value).toArray = av at S ⊢
  have hx := S.1
  have hb := S.2.1
  have hml := S.2.2.1
  have hown := S.2.2.2.1
  have hts := S.2.2.2.2.1
  have K27 : ∀ (x2 : Int32) (d : xD), k_X9_sumOf_27 sh x2 d = some (r, dz) → ∀ (H : Heap) (locs : List Loc) (ls : Array Slot), lv_has ls 4 [(2, .int x2)] → xG D cid b A sh d s H locs → W p l e (xRm 0 0 0) s m av below meth c H locs 0 0 (MQ below (xQ D cid b ex A (some (.int r)) sh dz) av s 0 0 A) (F0 m 27 ls []) := by
    intro x2 d hf H locs ls hl G
    unfold k_X9_sumOf_27 at hf
    refine lv_iload_n hx hb dX9_sumOf_27 rfl (lv_at hl 0 rfl) ?_
    cases hf
    exact xr_iret S G (fun _ => rfl) hr dX9_sumOf_28
  have K4 : ∀ (n : Nat) (q0 : Nat) (x1 : Int32) (x2 : Int32) (x3 : Int32) (d : xD), xloop (fun _ _ _ _ _ => none) (b_X9_sumOf_4 sh) n q0 x1 x2 x3 d = some (r, dz) → ∀ (H : Heap) (locs : List Loc) (ls : Array Slot), lv_has ls 4 [(0, .ref (b + q0)), (1, .int x1), (2, .int x2), (3, .int x3)] → xG D cid b A sh d s H locs → W p l e (xRm 0 0 0) s m av below meth c H locs 0 0 (MQ below (xQ D cid b ex A (some (.int r)) sh dz) av s 0 0 A) (F0 m 4 ls []) := by
    intro n
    induction n with
    | zero =>
      intro q0 x1 x2 x3 d hf
      have hf : (none : Option (Int32 × xD)) = some (r, dz) := hf
      cases hf
    | succ n hrec4 =>
      intro q0 x1 x2 x3 d hf H locs ls hl G
      have hf : b_X9_sumOf_4 sh (xloop (fun _ _ _ _ _ => none) (b_X9_sumOf_4 sh) n) q0 x1 x2 x3 d = some (r, dz) := hf
      unfold b_X9_sumOf_4 at hf
      refine lv_iload_n hx hb dX9_sumOf_4 rfl (lv_at hl 3 rfl) ?_
      refine lv_iload_n hx hb dX9_sumOf_5 rfl (lv_at hl 1 rfl) ?_
      refine lv_icmp_ge (tgt := 27) hx hb dX9_sumOf_6 (by decide) (fun c => ?_) (fun c => ?_)
      · have hf := x_pos c hf
        exact K27 x2 d hf _ _ ls (lv_sub hl [2] rfl) G
      · have hf := x_neg c hf
        refine lv_iload_n hx hb dX9_sumOf_9 rfl (lv_at hl 3 rfl) ?_
        refine lv_aload_n hx hb dX9_sumOf_10 rfl (lv_at hl 0 rfl) ?_
        obtain ⟨v1, hv1, hf⟩ := x_ob hf
        refine xr_ilen S G hv1 dX9_sumOf_11 ?_
        refine lv_icmp_ge (tgt := 27) hx hb dX9_sumOf_12 (by decide) (fun c => ?_) (fun c => ?_)
        · have hf := x_pos c hf
          exact K27 x2 d hf _ _ ls (lv_sub hl [2] rfl) G
        · have hf := x_neg c hf
          refine lv_iload_n hx hb dX9_sumOf_15 rfl (lv_at hl 2 rfl) ?_
          refine lv_aload_n hx hb dX9_sumOf_16 rfl (lv_at hl 0 rfl) ?_
          refine lv_iload_n hx hb dX9_sumOf_17 rfl (lv_at hl 3 rfl) ?_
          obtain ⟨v2, hv2, hf⟩ := x_ob hf
          refine xr_iald S G hv2 dX9_sumOf_18 ?_
          refine lv_iadd hx hb dX9_sumOf_19 ?_
          refine lv_istore_n (lv' := [(2, .int (x2 + v2)), (0, .ref (b + q0)), (1, .int x1), (3, .int x3)]) hx hb dX9_sumOf_20 rfl hl (by decide) rfl (fun ls hl => ?_)
          refine lv_iinc (v := (x3 + 1)) (lv' := [(3, .int (x3 + 1)), (2, .int (x2 + v2)), (0, .ref (b + q0)), (1, .int x1)]) hx hb dX9_sumOf_21 hl (k := 3) rfl rfl (by decide) rfl (fun ls hl => ?_)
          refine lv_goto (tgt := 4) hx hb dX9_sumOf_24 (by decide) ?_
          exact hrec4 q0 x1 (x2 + v2) (x3 + 1) d hf _ _ ls (lv_sub hl [2, 3, 1, 0] rfl) G
  unfold f_X9_sumOf at hf
  refine lv_iconst (v := (0 : Int32)) hx hb dX9_sumOf_0 (by decide) ?_
  refine lv_istore_n (lv' := [(2, .int (0 : Int32)), (0, .ref (b + q0)), (1, .int x1)]) hx hb dX9_sumOf_1 rfl hl (by decide) rfl (fun ls hl => ?_)
  refine lv_iconst (v := (0 : Int32)) hx hb dX9_sumOf_2 (by decide) ?_
  refine lv_istore_n (lv' := [(3, .int (0 : Int32)), (2, .int (0 : Int32)), (0, .ref (b + q0)), (1, .int x1)]) hx hb dX9_sumOf_3 rfl hl (by decide) rfl (fun ls hl => ?_)
  exact K4 xF q0 x1 (0 : Int32) (0 : Int32) d hf _ _ ls (lv_sub hl [2, 3, 1, 0] rfl) G
-- HalfLandings.count(I)I
theorem dX9_count_0 : decode cX9_count 0 = .ok (.iload_n 1, 1) := by decide +kernel
theorem dX9_count_1 : decode cX9_count 1 = .ok (.tableswitch 208 0 13 #[71, 79, 87, 95, 103, 114, 122, 130, 139, 148, 166, 184, 192, 200], 71) := by decide +kernel
theorem dX9_count_72 : decode cX9_count 72 = .ok (.aload_n 0, 1) := by decide +kernel
theorem dX9_count_73 : decode cX9_count 73 = .ok (.getfield 28, 3) := by decide +kernel
theorem dX9_count_76 : decode cX9_count 76 = .ok (.getfield 255, 3) := by decide +kernel
theorem dX9_count_79 : decode cX9_count 79 = .ok (.ireturn, 1) := by decide +kernel
theorem dX9_count_80 : decode cX9_count 80 = .ok (.aload_n 0, 1) := by decide +kernel
theorem dX9_count_81 : decode cX9_count 81 = .ok (.getfield 28, 3) := by decide +kernel
theorem dX9_count_84 : decode cX9_count 84 = .ok (.getfield 325, 3) := by decide +kernel
theorem dX9_count_87 : decode cX9_count 87 = .ok (.ireturn, 1) := by decide +kernel
theorem dX9_count_88 : decode cX9_count 88 = .ok (.aload_n 0, 1) := by decide +kernel
theorem dX9_count_89 : decode cX9_count 89 = .ok (.getfield 28, 3) := by decide +kernel
theorem dX9_count_92 : decode cX9_count 92 = .ok (.getfield 328, 3) := by decide +kernel
theorem dX9_count_95 : decode cX9_count 95 = .ok (.ireturn, 1) := by decide +kernel
theorem dX9_count_96 : decode cX9_count 96 = .ok (.aload_n 0, 1) := by decide +kernel
theorem dX9_count_97 : decode cX9_count 97 = .ok (.getfield 28, 3) := by decide +kernel
theorem dX9_count_100 : decode cX9_count 100 = .ok (.getfield 220, 3) := by decide +kernel
theorem dX9_count_103 : decode cX9_count 103 = .ok (.ireturn, 1) := by decide +kernel
theorem dX9_count_104 : decode cX9_count 104 = .ok (.aload_n 0, 1) := by decide +kernel
theorem dX9_count_105 : decode cX9_count 105 = .ok (.getfield 28, 3) := by decide +kernel
theorem dX9_count_108 : decode cX9_count 108 = .ok (.getfield 331, 3) := by decide +kernel
theorem dX9_count_111 : decode cX9_count 111 = .ok (.getfield 335, 3) := by decide +kernel
theorem dX9_count_114 : decode cX9_count 114 = .ok (.ireturn, 1) := by decide +kernel
theorem dX9_count_115 : decode cX9_count 115 = .ok (.aload_n 0, 1) := by decide +kernel
theorem dX9_count_116 : decode cX9_count 116 = .ok (.getfield 56, 3) := by decide +kernel
theorem dX9_count_119 : decode cX9_count 119 = .ok (.getfield 226, 3) := by decide +kernel
theorem dX9_count_122 : decode cX9_count 122 = .ok (.ireturn, 1) := by decide +kernel
theorem dX9_count_123 : decode cX9_count 123 = .ok (.aload_n 0, 1) := by decide +kernel
theorem dX9_count_124 : decode cX9_count 124 = .ok (.getfield 56, 3) := by decide +kernel
theorem dX9_count_127 : decode cX9_count 127 = .ok (.getfield 340, 3) := by decide +kernel
theorem dX9_count_130 : decode cX9_count 130 = .ok (.ireturn, 1) := by decide +kernel
theorem dX9_count_131 : decode cX9_count 131 = .ok (.aload_n 0, 1) := by decide +kernel
theorem dX9_count_132 : decode cX9_count 132 = .ok (.getfield 56, 3) := by decide +kernel
theorem dX9_count_135 : decode cX9_count 135 = .ok (.iconst 3, 1) := by decide +kernel
theorem dX9_count_136 : decode cX9_count 136 = .ok (.invokevirtual 237, 3) := by decide +kernel
theorem dX9_count_139 : decode cX9_count 139 = .ok (.ireturn, 1) := by decide +kernel
theorem dX9_count_140 : decode cX9_count 140 = .ok (.aload_n 0, 1) := by decide +kernel
theorem dX9_count_141 : decode cX9_count 141 = .ok (.getfield 56, 3) := by decide +kernel
theorem dX9_count_144 : decode cX9_count 144 = .ok (.iconst 2, 1) := by decide +kernel
theorem dX9_count_145 : decode cX9_count 145 = .ok (.invokevirtual 237, 3) := by decide +kernel
theorem dX9_count_148 : decode cX9_count 148 = .ok (.ireturn, 1) := by decide +kernel
theorem dX9_count_149 : decode cX9_count 149 = .ok (.aload_n 0, 1) := by decide +kernel
theorem dX9_count_150 : decode cX9_count 150 = .ok (.getfield 56, 3) := by decide +kernel
theorem dX9_count_153 : decode cX9_count 153 = .ok (.getfield 168, 3) := by decide +kernel
theorem dX9_count_156 : decode cX9_count 156 = .ok (.aload_n 0, 1) := by decide +kernel
theorem dX9_count_157 : decode cX9_count 157 = .ok (.getfield 28, 3) := by decide +kernel
theorem dX9_count_160 : decode cX9_count 160 = .ok (.getfield 255, 3) := by decide +kernel
theorem dX9_count_163 : decode cX9_count 163 = .ok (.invokestatic 343, 3) := by decide +kernel
theorem dX9_count_166 : decode cX9_count 166 = .ok (.ireturn, 1) := by decide +kernel
theorem dX9_count_167 : decode cX9_count 167 = .ok (.aload_n 0, 1) := by decide +kernel
theorem dX9_count_168 : decode cX9_count 168 = .ok (.getfield 56, 3) := by decide +kernel
theorem dX9_count_171 : decode cX9_count 171 = .ok (.getfield 191, 3) := by decide +kernel
theorem dX9_count_174 : decode cX9_count 174 = .ok (.aload_n 0, 1) := by decide +kernel
theorem dX9_count_175 : decode cX9_count 175 = .ok (.getfield 28, 3) := by decide +kernel
theorem dX9_count_178 : decode cX9_count 178 = .ok (.getfield 328, 3) := by decide +kernel
theorem dX9_count_181 : decode cX9_count 181 = .ok (.invokestatic 343, 3) := by decide +kernel
theorem dX9_count_184 : decode cX9_count 184 = .ok (.ireturn, 1) := by decide +kernel
theorem dX9_count_185 : decode cX9_count 185 = .ok (.aload_n 0, 1) := by decide +kernel
theorem dX9_count_186 : decode cX9_count 186 = .ok (.getfield 89, 3) := by decide +kernel
theorem dX9_count_189 : decode cX9_count 189 = .ok (.getfield 285, 3) := by decide +kernel
theorem dX9_count_192 : decode cX9_count 192 = .ok (.ireturn, 1) := by decide +kernel
theorem dX9_count_193 : decode cX9_count 193 = .ok (.aload_n 0, 1) := by decide +kernel
theorem dX9_count_194 : decode cX9_count 194 = .ok (.getfield 89, 3) := by decide +kernel
theorem dX9_count_197 : decode cX9_count 197 = .ok (.invokevirtual 347, 3) := by decide +kernel
theorem dX9_count_200 : decode cX9_count 200 = .ok (.ireturn, 1) := by decide +kernel
theorem dX9_count_201 : decode cX9_count 201 = .ok (.aload_n 0, 1) := by decide +kernel
theorem dX9_count_202 : decode cX9_count 202 = .ok (.getfield 82, 3) := by decide +kernel
theorem dX9_count_205 : decode cX9_count 205 = .ok (.getfield 321, 3) := by decide +kernel
theorem dX9_count_208 : decode cX9_count 208 = .ok (.ireturn, 1) := by decide +kernel
theorem dX9_count_209 : decode cX9_count 209 = .ok (.iconst (-1), 1) := by decide +kernel
theorem dX9_count_210 : decode cX9_count 210 = .ok (.ireturn, 1) := by decide +kernel
theorem hd_X9_count : yX9_count.cls = xCn 9 ∧ yX9_count.cls ≠ "java/lang/invoke/MethodHandle" ∧ yX9_count.cls ≠ "java/lang/invoke/VarHandle" ∧ (parseMethodDescriptor yX9_count.desc).map (fun d => d.parameters.length) = some 1 := by decide +kernel
def f_X9_count (sh : List xSh) (q0 : Nat) (x1 : Int32) (d : xD) : Option (Int32 × xD) :=
  if x1 = (0 : Int32) then ((xgR 9 sh d q0 4).bind fun v2 => (xgI 3 sh d v2 4).bind fun v3 => some (v3, d)) else (if x1 = (1 : Int32) then ((xgR 9 sh d q0 4).bind fun v5 => (xgI 3 sh d v5 9).bind fun v6 => some (v6, d)) else (if x1 = (2 : Int32) then ((xgR 9 sh d q0 4).bind fun v8 => (xgI 3 sh d v8 15).bind fun v9 => some (v9, d)) else (if x1 = (3 : Int32) then ((xgR 9 sh d q0 4).bind fun v11 => (xgI 3 sh d v11 0).bind fun v12 => some (v12, d)) else (if x1 = (4 : Int32) then ((xgR 9 sh d q0 4).bind fun v14 => (xgR 3 sh d v14 19).bind fun v15 => (xgI 1 sh d v15 0).bind fun v16 => some (v16, d)) else (if x1 = (5 : Int32) then ((xgR 9 sh d q0 8).bind fun v18 => (xgI 4 sh d v18 0).bind fun v19 => some (v19, d)) else (if x1 = (6 : Int32) then ((xgR 9 sh d q0 8).bind fun v21 => (xgI 4 sh d v21 1).bind fun v22 => some (v22, d)) else (if x1 = (7 : Int32) then ((xgR 9 sh d q0 8).bind fun v24 => (xon 4 sh v24 (f_X4_howMany sh v24 (3 : Int32) d)).bind fun z25 => some (z25.1, z25.2)) else (if x1 = (8 : Int32) then ((xgR 9 sh d q0 8).bind fun v27 => (xon 4 sh v27 (f_X4_howMany sh v27 (2 : Int32) d)).bind fun z28 => some (z28.1, z28.2)) else (if x1 = (9 : Int32) then ((xgR 9 sh d q0 8).bind fun v30 => (xgR 4 sh d v30 13).bind fun v31 => (xgR 9 sh d q0 4).bind fun v32 => (xgI 3 sh d v32 4).bind fun v33 => (f_X9_sumOf sh v31 v33 d).bind fun z34 => some (z34.1, z34.2)) else (if x1 = (10 : Int32) then ((xgR 9 sh d q0 8).bind fun v36 => (xgR 4 sh d v36 18).bind fun v37 => (xgR 9 sh d q0 4).bind fun v38 => (xgI 3 sh d v38 15).bind fun v39 => (f_X9_sumOf sh v37 v39 d).bind fun z40 => some (z40.1, z40.2)) else (if x1 = (11 : Int32) then ((xgR 9 sh d q0 14).bind fun v42 => (xgI 5 sh d v42 0).bind fun v43 => some (v43, d)) else (if x1 = (12 : Int32) then ((xgR 9 sh d q0 14).bind fun v45 => (xon 5 sh v45 (f_X5_howManyKnown sh v45 d)).bind fun z46 => some (z46.1, z46.2)) else (if x1 = (13 : Int32) then ((xgR 9 sh d q0 13).bind fun v48 => (xgI 8 sh d v48 0).bind fun v49 => some (v49, d)) else (some ((-1 : Int32), d)))))))))))))))
set_option maxHeartbeats 4000000 in
set_option maxRecDepth 100000 in
theorem mt_X9_count (l : Launch) (D : va_G) (cid : FieldType → ClassId) (b : Nat) (ex : Bool) (sa sv B0 : Nat) (sh : List xSh) (q0 : Nat) (x1 : Int32) (d : xD) (r : Int32) (dz : xD) (hf : f_X9_count sh q0 x1 d = some (r, dz)) : xMet l yX9_count cX9_count 2 (some .int) 1 0 0 D cid b ex sa sv B0 [.ref (b + q0), .int x1] sh d (some (.int r)) sh dz := by
  refine xMet.of (by decide) (Nat.le_of_ble_eq_true rfl) ?_
  intro p e s m below meth c ls A S hr hin G hl
  have hl : lv_has ls 2 [(0, .ref (b + q0)), (1, .int x1)] := hl
  generalize ([.ref (b + q0), .int x1] : List Value).toArray = av at S ⊢
  have hx := S.1
  have hb := S.2.1
  have hml := S.2.2.1
  have hown := S.2.2.2.1
  have hts := S.2.2.2.2.1
  unfold f_X9_count at hf
  refine lv_iload_n hx hb dX9_count_0 rfl (lv_at hl 1 rfl) ?_
  by_cases c1 : x1 = (0 : Int32)
  · have hf := x_pos c1 hf
    refine xr_tab (k := (0 : Int32)) (tgt := 72) hx hb c1 dX9_count_1 (by decide) (by decide) rfl (by decide) ?_
    refine lv_aload_n hx hb dX9_count_72 rfl (lv_at hl 0 rfl) ?_
    obtain ⟨v2, hv2, hf⟩ := x_ob hf
    refine xr_getR (ci := 9) (k := 4) S G hv2 rfl kw_485 dX9_count_73 ?_
    obtain ⟨v3, hv3, hf⟩ := x_ob hf
    refine xr_getI (ci := 3) (k := 4) S G hv3 rfl kw_94 dX9_count_76 ?_
    cases hf
    exact xr_iret S G (fun _ => rfl) hr dX9_count_79
  · have hf := x_neg c1 hf
    by_cases c4 : x1 = (1 : Int32)
    · have hf := x_pos c4 hf
      refine xr_tab (k := (1 : Int32)) (tgt := 80) hx hb c4 dX9_count_1 (by decide) (by decide) rfl (by decide) ?_
      refine lv_aload_n hx hb dX9_count_80 rfl (lv_at hl 0 rfl) ?_
      obtain ⟨v5, hv5, hf⟩ := x_ob hf
      refine xr_getR (ci := 9) (k := 4) S G hv5 rfl kw_485 dX9_count_81 ?_
      obtain ⟨v6, hv6, hf⟩ := x_ob hf
      refine xr_getI (ci := 3) (k := 9) S G hv6 rfl kw_106 dX9_count_84 ?_
      cases hf
      exact xr_iret S G (fun _ => rfl) hr dX9_count_87
    · have hf := x_neg c4 hf
      by_cases c7 : x1 = (2 : Int32)
      · have hf := x_pos c7 hf
        refine xr_tab (k := (2 : Int32)) (tgt := 88) hx hb c7 dX9_count_1 (by decide) (by decide) rfl (by decide) ?_
        refine lv_aload_n hx hb dX9_count_88 rfl (lv_at hl 0 rfl) ?_
        obtain ⟨v8, hv8, hf⟩ := x_ob hf
        refine xr_getR (ci := 9) (k := 4) S G hv8 rfl kw_485 dX9_count_89 ?_
        obtain ⟨v9, hv9, hf⟩ := x_ob hf
        refine xr_getI (ci := 3) (k := 15) S G hv9 rfl kw_119 dX9_count_92 ?_
        cases hf
        exact xr_iret S G (fun _ => rfl) hr dX9_count_95
      · have hf := x_neg c7 hf
        by_cases c10 : x1 = (3 : Int32)
        · have hf := x_pos c10 hf
          refine xr_tab (k := (3 : Int32)) (tgt := 96) hx hb c10 dX9_count_1 (by decide) (by decide) rfl (by decide) ?_
          refine lv_aload_n hx hb dX9_count_96 rfl (lv_at hl 0 rfl) ?_
          obtain ⟨v11, hv11, hf⟩ := x_ob hf
          refine xr_getR (ci := 9) (k := 4) S G hv11 rfl kw_485 dX9_count_97 ?_
          obtain ⟨v12, hv12, hf⟩ := x_ob hf
          refine xr_getI (ci := 3) (k := 0) S G hv12 rfl kw_81 dX9_count_100 ?_
          cases hf
          exact xr_iret S G (fun _ => rfl) hr dX9_count_103
        · have hf := x_neg c10 hf
          by_cases c13 : x1 = (4 : Int32)
          · have hf := x_pos c13 hf
            refine xr_tab (k := (4 : Int32)) (tgt := 104) hx hb c13 dX9_count_1 (by decide) (by decide) rfl (by decide) ?_
            refine lv_aload_n hx hb dX9_count_104 rfl (lv_at hl 0 rfl) ?_
            obtain ⟨v14, hv14, hf⟩ := x_ob hf
            refine xr_getR (ci := 9) (k := 4) S G hv14 rfl kw_485 dX9_count_105 ?_
            obtain ⟨v15, hv15, hf⟩ := x_ob hf
            refine xr_getR (ci := 3) (k := 19) S G hv15 rfl kw_129 dX9_count_108 ?_
            obtain ⟨v16, hv16, hf⟩ := x_ob hf
            refine xr_getI (ci := 1) (k := 0) S G hv16 rfl kw_47 dX9_count_111 ?_
            cases hf
            exact xr_iret S G (fun _ => rfl) hr dX9_count_114
          · have hf := x_neg c13 hf
            by_cases c17 : x1 = (5 : Int32)
            · have hf := x_pos c17 hf
              refine xr_tab (k := (5 : Int32)) (tgt := 115) hx hb c17 dX9_count_1 (by decide) (by decide) rfl (by decide) ?_
              refine lv_aload_n hx hb dX9_count_115 rfl (lv_at hl 0 rfl) ?_
              obtain ⟨v18, hv18, hf⟩ := x_ob hf
              refine xr_getR (ci := 9) (k := 8) S G hv18 rfl kw_489 dX9_count_116 ?_
              obtain ⟨v19, hv19, hf⟩ := x_ob hf
              refine xr_getI (ci := 4) (k := 0) S G hv19 rfl kw_315 dX9_count_119 ?_
              cases hf
              exact xr_iret S G (fun _ => rfl) hr dX9_count_122
            · have hf := x_neg c17 hf
              by_cases c20 : x1 = (6 : Int32)
              · have hf := x_pos c20 hf
                refine xr_tab (k := (6 : Int32)) (tgt := 123) hx hb c20 dX9_count_1 (by decide) (by decide) rfl (by decide) ?_
                refine lv_aload_n hx hb dX9_count_123 rfl (lv_at hl 0 rfl) ?_
                obtain ⟨v21, hv21, hf⟩ := x_ob hf
                refine xr_getR (ci := 9) (k := 8) S G hv21 rfl kw_489 dX9_count_124 ?_
                obtain ⟨v22, hv22, hf⟩ := x_ob hf
                refine xr_getI (ci := 4) (k := 1) S G hv22 rfl kw_318 dX9_count_127 ?_
                cases hf
                exact xr_iret S G (fun _ => rfl) hr dX9_count_130
              · have hf := x_neg c20 hf
                by_cases c23 : x1 = (7 : Int32)
                · have hf := x_pos c23 hf
                  refine xr_tab (k := (7 : Int32)) (tgt := 131) hx hb c23 dX9_count_1 (by decide) (by decide) rfl (by decide) ?_
                  refine lv_aload_n hx hb dX9_count_131 rfl (lv_at hl 0 rfl) ?_
                  obtain ⟨v24, hv24, hf⟩ := x_ob hf
                  refine xr_getR (ci := 9) (k := 8) S G hv24 rfl kw_489 dX9_count_132 ?_
                  refine lv_iconst (v := (3 : Int32)) hx hb dX9_count_135 (by decide) ?_
                  obtain ⟨z25, hz25, hf⟩ := x_ob hf
                  obtain ⟨hqz25, hz25⟩ := xon_of hz25
                  refine xr_callV (ci := 4) (As := [.int (3 : Int32)]) (rest := []) (st1 := [.int z25.1]) S G hl.1 (fun _ => rfl) (mt_X4_howMany l D cid b ex sa sv B0 sh v24 (3 : Int32) d _ _ hz25) hqz25 (by decide) kw_905 kw_856 kw_857 kw_12 kw_858 hd_X4_howMany ⟨Nat.le_of_ble_eq_true rfl, Nat.le_of_ble_eq_true rfl⟩ rfl rfl rfl (Nat.le_of_ble_eq_true rfl) ⟨Nat.le_of_ble_eq_true rfl, Nat.le_of_ble_eq_true rfl⟩ dX9_count_136 (fun H locs G => ?_)
                  cases hf
                  exact xr_iret S G (fun _ => rfl) hr dX9_count_139
                · have hf := x_neg c23 hf
                  by_cases c26 : x1 = (8 : Int32)
                  · have hf := x_pos c26 hf
                    refine xr_tab (k := (8 : Int32)) (tgt := 140) hx hb c26 dX9_count_1 (by decide) (by decide) rfl (by decide) ?_
                    refine lv_aload_n hx hb dX9_count_140 rfl (lv_at hl 0 rfl) ?_
                    obtain ⟨v27, hv27, hf⟩ := x_ob hf
                    refine xr_getR (ci := 9) (k := 8) S G hv27 rfl kw_489 dX9_count_141 ?_
                    refine lv_iconst (v := (2 : Int32)) hx hb dX9_count_144 (by decide) ?_
                    obtain ⟨z28, hz28, hf⟩ := x_ob hf
                    obtain ⟨hqz28, hz28⟩ := xon_of hz28
                    refine xr_callV (ci := 4) (As := [.int (2 : Int32)]) (rest := []) (st1 := [.int z28.1]) S G hl.1 (fun _ => rfl) (mt_X4_howMany l D cid b ex sa sv B0 sh v27 (2 : Int32) d _ _ hz28) hqz28 (by decide) kw_905 kw_856 kw_857 kw_12 kw_858 hd_X4_howMany ⟨Nat.le_of_ble_eq_true rfl, Nat.le_of_ble_eq_true rfl⟩ rfl rfl rfl (Nat.le_of_ble_eq_true rfl) ⟨Nat.le_of_ble_eq_true rfl, Nat.le_of_ble_eq_true rfl⟩ dX9_count_145 (fun H locs G => ?_)
                    cases hf
                    exact xr_iret S G (fun _ => rfl) hr dX9_count_148
                  · have hf := x_neg c26 hf
                    by_cases c29 : x1 = (9 : Int32)
                    · have hf := x_pos c29 hf
                      refine xr_tab (k := (9 : Int32)) (tgt := 149) hx hb c29 dX9_count_1 (by decide) (by decide) rfl (by decide) ?_
                      refine lv_aload_n hx hb dX9_count_149 rfl (lv_at hl 0 rfl) ?_
                      obtain ⟨v30, hv30, hf⟩ := x_ob hf
                      refine xr_getR (ci := 9) (k := 8) S G hv30 rfl kw_489 dX9_count_150 ?_
                      obtain ⟨v31, hv31, hf⟩ := x_ob hf
                      refine xr_getR (ci := 4) (k := 13) S G hv31 rfl kw_352 dX9_count_153 ?_
                      refine lv_aload_n hx hb dX9_count_156 rfl (lv_at hl 0 rfl) ?_
                      obtain ⟨v32, hv32, hf⟩ := x_ob hf
                      refine xr_getR (ci := 9) (k := 4) S G hv32 rfl kw_485 dX9_count_157 ?_
                      obtain ⟨v33, hv33, hf⟩ := x_ob hf
                      refine xr_getI (ci := 3) (k := 4) S G hv33 rfl kw_94 dX9_count_160 ?_
                      obtain ⟨z34, hz34, hf⟩ := x_ob hf
                      refine xr_callS (As := [.ref (b + v31), .int v33]) (rest := []) (st1 := [.int z34.1]) S G hl.1 (fun _ => rfl) (mt_X9_sumOf l D cid b ex sa sv B0 sh v31 v33 d _ _ hz34) kw_1059 kw_1060 kw_1 kw_1061 hd_X9_sumOf ⟨Nat.le_of_ble_eq_true rfl, Nat.le_of_ble_eq_true rfl⟩ rfl rfl rfl (Nat.le_of_ble_eq_true rfl) ⟨Nat.le_of_ble_eq_true rfl, Nat.le_of_ble_eq_true rfl⟩ dX9_count_163 (fun H locs G => ?_)
                      cases hf
                      exact xr_iret S G (fun _ => rfl) hr dX9_count_166
                    · have hf := x_neg c29 hf
                      by_cases c35 : x1 = (10 : Int32)
                      · have hf := x_pos c35 hf
                        refine xr_tab (k := (10 : Int32)) (tgt := 167) hx hb c35 dX9_count_1 (by decide) (by decide) rfl (by decide) ?_
                        refine lv_aload_n hx hb dX9_count_167 rfl (lv_at hl 0 rfl) ?_
                        obtain ⟨v36, hv36, hf⟩ := x_ob hf
                        refine xr_getR (ci := 9) (k := 8) S G hv36 rfl kw_489 dX9_count_168 ?_
                        obtain ⟨v37, hv37, hf⟩ := x_ob hf
                        refine xr_getR (ci := 4) (k := 18) S G hv37 rfl kw_364 dX9_count_171 ?_
                        refine lv_aload_n hx hb dX9_count_174 rfl (lv_at hl 0 rfl) ?_
                        obtain ⟨v38, hv38, hf⟩ := x_ob hf
                        refine xr_getR (ci := 9) (k := 4) S G hv38 rfl kw_485 dX9_count_175 ?_
                        obtain ⟨v39, hv39, hf⟩ := x_ob hf
                        refine xr_getI (ci := 3) (k := 15) S G hv39 rfl kw_119 dX9_count_178 ?_
                        obtain ⟨z40, hz40, hf⟩ := x_ob hf
                        refine xr_callS (As := [.ref (b + v37), .int v39]) (rest := []) (st1 := [.int z40.1]) S G hl.1 (fun _ => rfl) (mt_X9_sumOf l D cid b ex sa sv B0 sh v37 v39 d _ _ hz40) kw_1059 kw_1060 kw_1 kw_1061 hd_X9_sumOf ⟨Nat.le_of_ble_eq_true rfl, Nat.le_of_ble_eq_true rfl⟩ rfl rfl rfl (Nat.le_of_ble_eq_true rfl) ⟨Nat.le_of_ble_eq_true rfl, Nat.le_of_ble_eq_true rfl⟩ dX9_count_181 (fun H locs G => ?_)
                        cases hf
                        exact xr_iret S G (fun _ => rfl) hr dX9_count_184
                      · have hf := x_neg c35 hf
                        by_cases c41 : x1 = (11 : Int32)
                        · have hf := x_pos c41 hf
                          refine xr_tab (k := (11 : Int32)) (tgt := 185) hx hb c41 dX9_count_1 (by decide) (by decide) rfl (by decide) ?_
                          refine lv_aload_n hx hb dX9_count_185 rfl (lv_at hl 0 rfl) ?_
                          obtain ⟨v42, hv42, hf⟩ := x_ob hf
                          refine xr_getR (ci := 9) (k := 14) S G hv42 rfl kw_495 dX9_count_186 ?_
                          obtain ⟨v43, hv43, hf⟩ := x_ob hf
                          refine xr_getI (ci := 5) (k := 0) S G hv43 rfl kw_442 dX9_count_189 ?_
                          cases hf
                          exact xr_iret S G (fun _ => rfl) hr dX9_count_192
                        · have hf := x_neg c41 hf
                          by_cases c44 : x1 = (12 : Int32)
                          · have hf := x_pos c44 hf
                            refine xr_tab (k := (12 : Int32)) (tgt := 193) hx hb c44 dX9_count_1 (by decide) (by decide) rfl (by decide) ?_
                            refine lv_aload_n hx hb dX9_count_193 rfl (lv_at hl 0 rfl) ?_
                            obtain ⟨v45, hv45, hf⟩ := x_ob hf
                            refine xr_getR (ci := 9) (k := 14) S G hv45 rfl kw_495 dX9_count_194 ?_
                            obtain ⟨z46, hz46, hf⟩ := x_ob hf
                            obtain ⟨hqz46, hz46⟩ := xon_of hz46
                            refine xr_callV (ci := 5) (As := []) (rest := []) (st1 := [.int z46.1]) S G hl.1 (fun _ => rfl) (mt_X5_howManyKnown l D cid b ex sa sv B0 sh v45 d _ _ hz46) hqz46 (by decide) kw_1062 kw_1002 kw_1003 kw_15 kw_1004 hd_X5_howManyKnown ⟨Nat.le_of_ble_eq_true rfl, Nat.le_of_ble_eq_true rfl⟩ rfl rfl rfl (Nat.le_of_ble_eq_true rfl) ⟨Nat.le_of_ble_eq_true rfl, Nat.le_of_ble_eq_true rfl⟩ dX9_count_197 (fun H locs G => ?_)
                            cases hf
                            exact xr_iret S G (fun _ => rfl) hr dX9_count_200
                          · have hf := x_neg c44 hf
                            by_cases c47 : x1 = (13 : Int32)
                            · have hf := x_pos c47 hf
                              refine xr_tab (k := (13 : Int32)) (tgt := 201) hx hb c47 dX9_count_1 (by decide) (by decide) rfl (by decide) ?_
                              refine lv_aload_n hx hb dX9_count_201 rfl (lv_at hl 0 rfl) ?_
                              obtain ⟨v48, hv48, hf⟩ := x_ob hf
                              refine xr_getR (ci := 9) (k := 13) S G hv48 rfl kw_494 dX9_count_202 ?_
                              obtain ⟨v49, hv49, hf⟩ := x_ob hf
                              refine xr_getI (ci := 8) (k := 0) S G hv49 rfl kw_425 dX9_count_205 ?_
                              cases hf
                              exact xr_iret S G (fun _ => rfl) hr dX9_count_208
                            · have hf := x_neg c47 hf
                              have hks : ∀ z ∈ ([0, 1, 2, 3, 4, 5, 6, 7, 8, 9, 10, 11, 12, 13] : List Int), (x1).toInt ≠ z := by
                                intro z hz
                                simp only [List.mem_cons, List.not_mem_nil, or_false] at hz
                                rcases hz with rfl | rfl | rfl | rfl | rfl | rfl | rfl | rfl | rfl | rfl | rfl | rfl | rfl | rfl
                                · exact x_toInt_ne 0 c1 (by decide)
                                · exact x_toInt_ne 1 c4 (by decide)
                                · exact x_toInt_ne 2 c7 (by decide)
                                · exact x_toInt_ne 3 c10 (by decide)
                                · exact x_toInt_ne 4 c13 (by decide)
                                · exact x_toInt_ne 5 c17 (by decide)
                                · exact x_toInt_ne 6 c20 (by decide)
                                · exact x_toInt_ne 7 c23 (by decide)
                                · exact x_toInt_ne 8 c26 (by decide)
                                · exact x_toInt_ne 9 c29 (by decide)
                                · exact x_toInt_ne 10 c35 (by decide)
                                · exact x_toInt_ne 11 c41 (by decide)
                                · exact x_toInt_ne 12 c44 (by decide)
                                · exact x_toInt_ne 13 c47 (by decide)
                              refine xr_tabD (tgt := 209) [0, 1, 2, 3, 4, 5, 6, 7, 8, 9, 10, 11, 12, 13] hx hb dX9_count_1 hks (by decide) (by decide) (by decide) ?_
                              refine lv_iconst (v := (-1 : Int32)) hx hb dX9_count_209 (by decide) ?_
                              cases hf
                              exact xr_iret S G (fun _ => rfl) hr dX9_count_210

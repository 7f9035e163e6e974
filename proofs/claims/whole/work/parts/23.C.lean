-- HalfLandings$Minutes.walk(LHalfLandings$Scene;I)V
theorem dX2_walk_0 : decode cX2_walk 0 = .ok (.aload_n 1, 1) := by decide +kernel
theorem dX2_walk_1 : decode cX2_walk 1 = .ok (.getfield 63, 3) := by decide +kernel
theorem dX2_walk_4 : decode cX2_walk 4 = .ok (.iload_n 2, 1) := by decide +kernel
theorem dX2_walk_5 : decode cX2_walk 5 = .ok (.iaload, 1) := by decide +kernel
theorem dX2_walk_6 : decode cX2_walk 6 = .ok (.istore_n 3, 1) := by decide +kernel
theorem dX2_walk_7 : decode cX2_walk 7 = .ok (.iconst 0, 1) := by decide +kernel
theorem dX2_walk_8 : decode cX2_walk 8 = .ok (.istore 4, 2) := by decide +kernel
theorem dX2_walk_10 : decode cX2_walk 10 = .ok (.iload 4, 2) := by decide +kernel
theorem dX2_walk_12 : decode cX2_walk 12 = .ok (.iload_n 3, 1) := by decide +kernel
theorem dX2_walk_13 : decode cX2_walk 13 = .ok (.if_icmp .ge 144, 3) := by decide +kernel
theorem dX2_walk_16 : decode cX2_walk 16 = .ok (.aload_n 1, 1) := by decide +kernel
theorem dX2_walk_17 : decode cX2_walk 17 = .ok (.getfield 66, 3) := by decide +kernel
theorem dX2_walk_20 : decode cX2_walk 20 = .ok (.iload_n 2, 1) := by decide +kernel
theorem dX2_walk_21 : decode cX2_walk 21 = .ok (.iaload, 1) := by decide +kernel
theorem dX2_walk_22 : decode cX2_walk 22 = .ok (.aload_n 1, 1) := by decide +kernel
theorem dX2_walk_23 : decode cX2_walk 23 = .ok (.getfield 69, 3) := by decide +kernel
theorem dX2_walk_26 : decode cX2_walk 26 = .ok (.iload_n 2, 1) := by decide +kernel
theorem dX2_walk_27 : decode cX2_walk 27 = .ok (.iaload, 1) := by decide +kernel
theorem dX2_walk_28 : decode cX2_walk 28 = .ok (.iconst 1, 1) := by decide +kernel
theorem dX2_walk_29 : decode cX2_walk 29 = .ok (.if_icmp .ne 7, 3) := by decide +kernel
theorem dX2_walk_32 : decode cX2_walk 32 = .ok (.iconst (-1), 1) := by decide +kernel
theorem dX2_walk_33 : decode cX2_walk 33 = .ok (.goto 4, 3) := by decide +kernel
theorem dX2_walk_36 : decode cX2_walk 36 = .ok (.iconst 1, 1) := by decide +kernel
theorem dX2_walk_37 : decode cX2_walk 37 = .ok (.iadd, 1) := by decide +kernel
theorem dX2_walk_38 : decode cX2_walk 38 = .ok (.istore 5, 2) := by decide +kernel
theorem dX2_walk_40 : decode cX2_walk 40 = .ok (.iload 5, 2) := by decide +kernel
theorem dX2_walk_42 : decode cX2_walk 42 = .ok (.aload_n 1, 1) := by decide +kernel
theorem dX2_walk_43 : decode cX2_walk 43 = .ok (.getfield 72, 3) := by decide +kernel
theorem dX2_walk_46 : decode cX2_walk 46 = .ok (.if_icmp .ne 18, 3) := by decide +kernel
theorem dX2_walk_49 : decode cX2_walk 49 = .ok (.aload_n 1, 1) := by decide +kernel
theorem dX2_walk_50 : decode cX2_walk 50 = .ok (.getfield 69, 3) := by decide +kernel
theorem dX2_walk_53 : decode cX2_walk 53 = .ok (.iload_n 2, 1) := by decide +kernel
theorem dX2_walk_54 : decode cX2_walk 54 = .ok (.iconst 1, 1) := by decide +kernel
theorem dX2_walk_55 : decode cX2_walk 55 = .ok (.aload_n 1, 1) := by decide +kernel
theorem dX2_walk_56 : decode cX2_walk 56 = .ok (.getfield 69, 3) := by decide +kernel
theorem dX2_walk_59 : decode cX2_walk 59 = .ok (.iload_n 2, 1) := by decide +kernel
theorem dX2_walk_60 : decode cX2_walk 60 = .ok (.iaload, 1) := by decide +kernel
theorem dX2_walk_61 : decode cX2_walk 61 = .ok (.isub, 1) := by decide +kernel
theorem dX2_walk_62 : decode cX2_walk 62 = .ok (.iastore, 1) := by decide +kernel
theorem dX2_walk_63 : decode cX2_walk 63 = .ok (.return_, 1) := by decide +kernel
theorem dX2_walk_64 : decode cX2_walk 64 = .ok (.iload 5, 2) := by decide +kernel
theorem dX2_walk_66 : decode cX2_walk 66 = .ok (.ifCond .lt 15, 3) := by decide +kernel
theorem dX2_walk_69 : decode cX2_walk 69 = .ok (.iload 5, 2) := by decide +kernel
theorem dX2_walk_71 : decode cX2_walk 71 = .ok (.aload_n 0, 1) := by decide +kernel
theorem dX2_walk_72 : decode cX2_walk 72 = .ok (.getfield 17, 3) := by decide +kernel
theorem dX2_walk_75 : decode cX2_walk 75 = .ok (.getfield 75, 3) := by decide +kernel
theorem dX2_walk_78 : decode cX2_walk 78 = .ok (.if_icmp .le 11, 3) := by decide +kernel
theorem dX2_walk_81 : decode cX2_walk 81 = .ok (.aload_n 1, 1) := by decide +kernel
theorem dX2_walk_82 : decode cX2_walk 82 = .ok (.getfield 36, 3) := by decide +kernel
theorem dX2_walk_85 : decode cX2_walk 85 = .ok (.iload_n 2, 1) := by decide +kernel
theorem dX2_walk_86 : decode cX2_walk 86 = .ok (.iconst 3, 1) := by decide +kernel
theorem dX2_walk_87 : decode cX2_walk 87 = .ok (.iastore, 1) := by decide +kernel
theorem dX2_walk_88 : decode cX2_walk 88 = .ok (.return_, 1) := by decide +kernel
theorem dX2_walk_89 : decode cX2_walk 89 = .ok (.aload_n 1, 1) := by decide +kernel
theorem dX2_walk_90 : decode cX2_walk 90 = .ok (.getfield 66, 3) := by decide +kernel
theorem dX2_walk_93 : decode cX2_walk 93 = .ok (.iload_n 2, 1) := by decide +kernel
theorem dX2_walk_94 : decode cX2_walk 94 = .ok (.iload 5, 2) := by decide +kernel
theorem dX2_walk_96 : decode cX2_walk 96 = .ok (.iastore, 1) := by decide +kernel
theorem dX2_walk_97 : decode cX2_walk 97 = .ok (.iload 5, 2) := by decide +kernel
theorem dX2_walk_99 : decode cX2_walk 99 = .ok (.ifCond .eq 15, 3) := by decide +kernel
theorem dX2_walk_102 : decode cX2_walk 102 = .ok (.iload 5, 2) := by decide +kernel
theorem dX2_walk_104 : decode cX2_walk 104 = .ok (.aload_n 0, 1) := by decide +kernel
theorem dX2_walk_105 : decode cX2_walk 105 = .ok (.getfield 17, 3) := by decide +kernel
theorem dX2_walk_108 : decode cX2_walk 108 = .ok (.getfield 75, 3) := by decide +kernel
theorem dX2_walk_111 : decode cX2_walk 111 = .ok (.if_icmp .ne 11, 3) := by decide +kernel
theorem dX2_walk_114 : decode cX2_walk 114 = .ok (.aload_n 1, 1) := by decide +kernel
theorem dX2_walk_115 : decode cX2_walk 115 = .ok (.getfield 36, 3) := by decide +kernel
theorem dX2_walk_118 : decode cX2_walk 118 = .ok (.iload_n 2, 1) := by decide +kernel
theorem dX2_walk_119 : decode cX2_walk 119 = .ok (.iconst 3, 1) := by decide +kernel
theorem dX2_walk_120 : decode cX2_walk 120 = .ok (.iastore, 1) := by decide +kernel
theorem dX2_walk_121 : decode cX2_walk 121 = .ok (.return_, 1) := by decide +kernel
theorem dX2_walk_122 : decode cX2_walk 122 = .ok (.aload_n 0, 1) := by decide +kernel
theorem dX2_walk_123 : decode cX2_walk 123 = .ok (.getfield 17, 3) := by decide +kernel
theorem dX2_walk_126 : decode cX2_walk 126 = .ok (.iload 5, 2) := by decide +kernel
theorem dX2_walk_128 : decode cX2_walk 128 = .ok (.invokevirtual 78, 3) := by decide +kernel
theorem dX2_walk_131 : decode cX2_walk 131 = .ok (.istore 6, 2) := by decide +kernel
theorem dX2_walk_133 : decode cX2_walk 133 = .ok (.iload 6, 2) := by decide +kernel
theorem dX2_walk_135 : decode cX2_walk 135 = .ok (.iconst (-1), 1) := by decide +kernel
theorem dX2_walk_136 : decode cX2_walk 136 = .ok (.if_icmp .eq 15, 3) := by decide +kernel
theorem dX2_walk_139 : decode cX2_walk 139 = .ok (.aload_n 0, 1) := by decide +kernel
theorem dX2_walk_140 : decode cX2_walk 140 = .ok (.aload_n 1, 1) := by decide +kernel
theorem dX2_walk_141 : decode cX2_walk 141 = .ok (.iload_n 2, 1) := by decide +kernel
theorem dX2_walk_142 : decode cX2_walk 142 = .ok (.iload 6, 2) := by decide +kernel
theorem dX2_walk_144 : decode cX2_walk 144 = .ok (.invokevirtual 81, 3) := by decide +kernel
theorem dX2_walk_147 : decode cX2_walk 147 = .ok (.ifCond .eq 4, 3) := by decide +kernel
theorem dX2_walk_150 : decode cX2_walk 150 = .ok (.return_, 1) := by decide +kernel
theorem dX2_walk_151 : decode cX2_walk 151 = .ok (.iinc 4 1, 3) := by decide +kernel
theorem dX2_walk_154 : decode cX2_walk 154 = .ok (.goto (-144), 3) := by decide +kernel
theorem dX2_walk_157 : decode cX2_walk 157 = .ok (.return_, 1) := by decide +kernel
theorem hd_X2_walk : yX2_walk.cls = xCn 2 ∧ yX2_walk.cls ≠ "java/lang/invoke/MethodHandle" ∧ yX2_walk.cls ≠ "java/lang/invoke/VarHandle" ∧ (parseMethodDescriptor yX2_walk.desc).map (fun d => d.parameters.length) = some 2 := by decide +kernel
def k_X2_walk_157 (sh : List xSh) (d : xD) : Option xD :=
  some d
def k_X2_walk_81 (sh : List xSh) (q1 : Nat) (x2 : Int32) (d : xD) : Option xD :=
  (xgR 4 sh d q1 5).bind fun v1 => (xsI .int sh d v1 x2 (3 : Int32)).bind fun d2 => some d2
def k_X2_walk_114 (sh : List xSh) (q1 : Nat) (x2 : Int32) (d : xD) : Option xD :=
  (xgR 4 sh d q1 5).bind fun v3 => (xsI .int sh d v3 x2 (3 : Int32)).bind fun d4 => some d4
def k_X2_walk_151 (sh : List xSh) (rec10 : Nat → Nat → Int32 → Int32 → Int32 → xD → Option xD) (q0 : Nat) (q1 : Nat) (x2 : Int32) (x3 : Int32) (x4 : Int32) (d : xD) : Option xD :=
  rec10 q0 q1 x2 x3 (x4 + 1) d
def k_X2_walk_150 (sh : List xSh) (d : xD) : Option xD :=
  some d
def k_X2_walk_49 (sh : List xSh) (q1 : Nat) (x2 : Int32) (d : xD) : Option xD :=
  (xgR 4 sh d q1 7).bind fun v5 => (xgR 4 sh d q1 7).bind fun v6 => (xaI .int sh d v6 x2).bind fun v7 => (xsI .int sh d v5 x2 ((1 : Int32) - v7)).bind fun d8 => some d8
def k_X2_walk_37 (sh : List xSh) (rec10 : Nat → Nat → Int32 → Int32 → Int32 → xD → Option xD) (q0 : Nat) (q1 : Nat) (x2 : Int32) (x3 : Int32) (x4 : Int32) (y0 : Int32) (y1 : Int32) (d : xD) : Option xD :=
  (xgI 4 sh d q1 2).bind fun v9 => if (y0 + y1) = v9 then (k_X2_walk_49 sh q1 x2 d) else (if (y0 + y1) < 0 then (k_X2_walk_81 sh q1 x2 d) else ((xgR 2 sh d q0 0).bind fun v10 => (xgI 3 sh d v10 0).bind fun v11 => if (y0 + y1) ≤ v11 then ((xgR 4 sh d q1 6).bind fun v12 => (xsI .int sh d v12 x2 (y0 + y1)).bind fun d13 => if (y0 + y1) = 0 then (k_X2_walk_114 sh q1 x2 d13) else ((xgR 2 sh d13 q0 0).bind fun v14 => (xgI 3 sh d13 v14 0).bind fun v15 => if (y0 + y1) = v15 then (k_X2_walk_114 sh q1 x2 d13) else ((xgR 2 sh d13 q0 0).bind fun v16 => (xon 3 sh v16 (f_X3_benchOn sh v16 (y0 + y1) d13)).bind fun z17 => if z17.1 = (-1 : Int32) then (k_X2_walk_151 sh rec10 q0 q1 x2 x3 x4 z17.2) else ((xon 2 sh q0 (f_X2_sitsDown sh q0 q1 x2 z17.1 z17.2)).bind fun z18 => if z18.1 = 0 then (k_X2_walk_151 sh rec10 q0 q1 x2 x3 x4 z18.2) else (k_X2_walk_150 sh z18.2))))) else (k_X2_walk_81 sh q1 x2 d)))
def b_X2_walk_10 (sh : List xSh) (rec10 : Nat → Nat → Int32 → Int32 → Int32 → xD → Option xD) (q0 : Nat) (q1 : Nat) (x2 : Int32) (x3 : Int32) (x4 : Int32) (d : xD) : Option xD :=
  if x3 ≤ x4 then (k_X2_walk_157 sh d) else ((xgR 4 sh d q1 6).bind fun v19 => (xaI .int sh d v19 x2).bind fun v20 => (xgR 4 sh d q1 7).bind fun v21 => (xaI .int sh d v21 x2).bind fun v22 => if v22 = (1 : Int32) then (k_X2_walk_37 sh rec10 q0 q1 x2 x3 x4 v20 (-1 : Int32) d) else (k_X2_walk_37 sh rec10 q0 q1 x2 x3 x4 v20 (1 : Int32) d))
def f_X2_walk (sh : List xSh) (q0 : Nat) (q1 : Nat) (x2 : Int32) (d : xD) : Option xD :=
  (xgR 4 sh d q1 8).bind fun v23 => (xaI .int sh d v23 x2).bind fun v24 => xloop (fun _ _ _ _ _ _ => none) (b_X2_walk_10 sh) xF q0 q1 x2 v24 (0 : Int32) d
set_option maxHeartbeats 4000000 in
set_option maxRecDepth 100000 in
theorem mt_X2_walk (l : Launch) (D : va_G) (cid : FieldType → ClassId) (b : Nat) (ex : Bool) (sa sv B0 : Nat) (sh : List xSh) (q0 : Nat) (q1 : Nat) (x2 : Int32) (d : xD) (dz : xD) (hf : f_X2_walk sh q0 q1 x2 d = some dz) : xMet l yX2_walk cX2_walk 7 none 4 0 0 D cid b ex sa sv B0 [.ref (b + q0), .ref (b + q1), .int x2] sh d none sh dz := by
  refine xMet.of (by decide) (Nat.le_of_ble_eq_true rfl) ?_
  intro p e s m below meth c ls A S hr hin G hl
  have hl : lv_has ls 7 [(0, .ref (b + q0)), (1, .ref (b + q1)), (2, .int x2)] := hl
  generalize ([.ref (b + q0), .ref (b + q1), .int x2] : List Value).toArray = av at S ⊢
  have hx := S.1
  have hb := S.2.1
  have hml := S.2.2.1
  have hown := S.2.2.2.1
  have hts := S.2.2.2.2.1
  have K157 : ∀ (d : xD), k_X2_walk_157 sh d = some dz → ∀ (H : Heap) (locs : List Loc) (ls : Array Slot), lv_has ls 7 [] → xG D cid b A sh d s H locs → W p l e (xRm 4 0 0) s m av below meth c H locs 0 0 (MQ below (xQ D cid b ex A none sh dz) av s 0 0 A) (F0 m 157 ls []) := by
    intro d hf H locs ls hl G
    unfold k_X2_walk_157 at hf
    cases hf
    exact xr_vret S G (fun _ => rfl) hr dX2_walk_157
  have K81 : ∀ (q1 : Nat) (x2 : Int32) (d : xD), k_X2_walk_81 sh q1 x2 d = some dz → ∀ (H : Heap) (locs : List Loc) (ls : Array Slot), lv_has ls 7 [(1, .ref (b + q1)), (2, .int x2)] → xG D cid b A sh d s H locs → W p l e (xRm 4 0 0) s m av below meth c H locs 0 0 (MQ below (xQ D cid b ex A none sh dz) av s 0 0 A) (F0 m 81 ls []) := by
    intro q1 x2 d hf H locs ls hl G
    unfold k_X2_walk_81 at hf
    refine lv_aload_n hx hb dX2_walk_81 rfl (lv_at hl 0 rfl) ?_
    obtain ⟨v1, hv1, hf⟩ := x_ob hf
    refine xr_getR (ci := 4) (k := 5) S G hv1 rfl kw_328 dX2_walk_82 ?_
    refine lv_iload_n hx hb dX2_walk_85 rfl (lv_at hl 1 rfl) ?_
    refine lv_iconst (v := (3 : Int32)) hx hb dX2_walk_86 (by decide) ?_
    obtain ⟨d2, hd2, hf⟩ := x_ob hf
    refine xr_iast S G hd2 dX2_walk_87 (fun H locs G => ?_)
    cases hf
    exact xr_vret S G (fun _ => rfl) hr dX2_walk_88
  have K114 : ∀ (q1 : Nat) (x2 : Int32) (d : xD), k_X2_walk_114 sh q1 x2 d = some dz → ∀ (H : Heap) (locs : List Loc) (ls : Array Slot), lv_has ls 7 [(1, .ref (b + q1)), (2, .int x2)] → xG D cid b A sh d s H locs → W p l e (xRm 4 0 0) s m av below meth c H locs 0 0 (MQ below (xQ D cid b ex A none sh dz) av s 0 0 A) (F0 m 114 ls []) := by
    intro q1 x2 d hf H locs ls hl G
    unfold k_X2_walk_114 at hf
    refine lv_aload_n hx hb dX2_walk_114 rfl (lv_at hl 0 rfl) ?_
    obtain ⟨v3, hv3, hf⟩ := x_ob hf
    refine xr_getR (ci := 4) (k := 5) S G hv3 rfl kw_328 dX2_walk_115 ?_
    refine lv_iload_n hx hb dX2_walk_118 rfl (lv_at hl 1 rfl) ?_
    refine lv_iconst (v := (3 : Int32)) hx hb dX2_walk_119 (by decide) ?_
    obtain ⟨d4, hd4, hf⟩ := x_ob hf
    refine xr_iast S G hd4 dX2_walk_120 (fun H locs G => ?_)
    cases hf
    exact xr_vret S G (fun _ => rfl) hr dX2_walk_121
  have K151 : ∀ (rec10 : Nat → Nat → Int32 → Int32 → Int32 → xD → Option xD) (hrec10 : ∀ (q0 : Nat) (q1 : Nat) (x2 : Int32) (x3 : Int32) (x4 : Int32) (d : xD), rec10 q0 q1 x2 x3 x4 d = some dz → ∀ (H : Heap) (locs : List Loc) (ls : Array Slot), lv_has ls 7 [(0, .ref (b + q0)), (1, .ref (b + q1)), (2, .int x2), (3, .int x3), (4, .int x4)] → xG D cid b A sh d s H locs → W p l e (xRm 4 0 0) s m av below meth c H locs 0 0 (MQ below (xQ D cid b ex A none sh dz) av s 0 0 A) (F0 m 10 ls [])) (q0 : Nat) (q1 : Nat) (x2 : Int32) (x3 : Int32) (x4 : Int32) (d : xD), k_X2_walk_151 sh rec10 q0 q1 x2 x3 x4 d = some dz → ∀ (H : Heap) (locs : List Loc) (ls : Array Slot), lv_has ls 7 [(0, .ref (b + q0)), (1, .ref (b + q1)), (2, .int x2), (3, .int x3), (4, .int x4)] → xG D cid b A sh d s H locs → W p l e (xRm 4 0 0) s m av below meth c H locs 0 0 (MQ below (xQ D cid b ex A none sh dz) av s 0 0 A) (F0 m 151 ls []) := by
    intro rec10 hrec10 q0 q1 x2 x3 x4 d hf H locs ls hl G
    unfold k_X2_walk_151 at hf
    refine lv_iinc (v := (x4 + 1)) (lv' := [(4, .int (x4 + 1)), (0, .ref (b + q0)), (1, .ref (b + q1)), (2, .int x2), (3, .int x3)]) hx hb dX2_walk_151 hl (k := 4) rfl rfl (by decide) rfl (fun ls hl => ?_)
    refine lv_goto (tgt := 10) hx hb dX2_walk_154 (by decide) ?_
    exact hrec10 q0 q1 x2 x3 (x4 + 1) d hf _ _ ls (lv_sub hl [1, 2, 3, 4, 0] rfl) G
  have K150 : ∀ (d : xD), k_X2_walk_150 sh d = some dz → ∀ (H : Heap) (locs : List Loc) (ls : Array Slot), lv_has ls 7 [] → xG D cid b A sh d s H locs → W p l e (xRm 4 0 0) s m av below meth c H locs 0 0 (MQ below (xQ D cid b ex A none sh dz) av s 0 0 A) (F0 m 150 ls []) := by
    intro d hf H locs ls hl G
    unfold k_X2_walk_150 at hf
    cases hf
    exact xr_vret S G (fun _ => rfl) hr dX2_walk_150
  have K49 : ∀ (q1 : Nat) (x2 : Int32) (d : xD), k_X2_walk_49 sh q1 x2 d = some dz → ∀ (H : Heap) (locs : List Loc) (ls : Array Slot), lv_has ls 7 [(1, .ref (b + q1)), (2, .int x2)] → xG D cid b A sh d s H locs → W p l e (xRm 4 0 0) s m av below meth c H locs 0 0 (MQ below (xQ D cid b ex A none sh dz) av s 0 0 A) (F0 m 49 ls []) := by
    intro q1 x2 d hf H locs ls hl G
    unfold k_X2_walk_49 at hf
    refine lv_aload_n hx hb dX2_walk_49 rfl (lv_at hl 0 rfl) ?_
    obtain ⟨v5, hv5, hf⟩ := x_ob hf
    refine xr_getR (ci := 4) (k := 7) S G hv5 rfl kw_334 dX2_walk_50 ?_
    refine lv_iload_n hx hb dX2_walk_53 rfl (lv_at hl 1 rfl) ?_
    refine lv_iconst (v := (1 : Int32)) hx hb dX2_walk_54 (by decide) ?_
    refine lv_aload_n hx hb dX2_walk_55 rfl (lv_at hl 0 rfl) ?_
    obtain ⟨v6, hv6, hf⟩ := x_ob hf
    refine xr_getR (ci := 4) (k := 7) S G hv6 rfl kw_334 dX2_walk_56 ?_
    refine lv_iload_n hx hb dX2_walk_59 rfl (lv_at hl 1 rfl) ?_
    obtain ⟨v7, hv7, hf⟩ := x_ob hf
    refine xr_iald S G hv7 dX2_walk_60 ?_
    refine lv_isub hx hb dX2_walk_61 ?_
    obtain ⟨d8, hd8, hf⟩ := x_ob hf
    refine xr_iast S G hd8 dX2_walk_62 (fun H locs G => ?_)
    cases hf
    exact xr_vret S G (fun _ => rfl) hr dX2_walk_63
  have K37 : ∀ (rec10 : Nat → Nat → Int32 → Int32 → Int32 → xD → Option xD) (hrec10 : ∀ (q0 : Nat) (q1 : Nat) (x2 : Int32) (x3 : Int32) (x4 : Int32) (d : xD), rec10 q0 q1 x2 x3 x4 d = some dz → ∀ (H : Heap) (locs : List Loc) (ls : Array Slot), lv_has ls 7 [(0, .ref (b + q0)), (1, .ref (b + q1)), (2, .int x2), (3, .int x3), (4, .int x4)] → xG D cid b A sh d s H locs → W p l e (xRm 4 0 0) s m av below meth c H locs 0 0 (MQ below (xQ D cid b ex A none sh dz) av s 0 0 A) (F0 m 10 ls [])) (q0 : Nat) (q1 : Nat) (x2 : Int32) (x3 : Int32) (x4 : Int32) (y0 : Int32) (y1 : Int32) (d : xD), k_X2_walk_37 sh rec10 q0 q1 x2 x3 x4 y0 y1 d = some dz → ∀ (H : Heap) (locs : List Loc) (ls : Array Slot), lv_has ls 7 [(0, .ref (b + q0)), (1, .ref (b + q1)), (2, .int x2), (3, .int x3), (4, .int x4)] → xG D cid b A sh d s H locs → W p l e (xRm 4 0 0) s m av below meth c H locs 0 0 (MQ below (xQ D cid b ex A none sh dz) av s 0 0 A) (F0 m 37 ls [.int y1, .int y0]) := by
    intro rec10 hrec10 q0 q1 x2 x3 x4 y0 y1 d hf H locs ls hl G
    unfold k_X2_walk_37 at hf
    refine lv_iadd hx hb dX2_walk_37 ?_
    refine lv_istore (lv' := [(5, .int (y0 + y1)), (0, .ref (b + q0)), (1, .ref (b + q1)), (2, .int x2), (3, .int x3), (4, .int x4)]) hx hb dX2_walk_38 hl (by decide) rfl (fun ls hl => ?_)
    refine lv_iload hx hb dX2_walk_40 (lv_at hl 0 rfl) ?_
    refine lv_aload_n hx hb dX2_walk_42 rfl (lv_at hl 2 rfl) ?_
    obtain ⟨v9, hv9, hf⟩ := x_ob hf
    refine xr_getI (ci := 4) (k := 2) S G hv9 rfl kw_321 dX2_walk_43 ?_
    refine lv_icmp_ne (tgt := 64) hx hb dX2_walk_46 (by decide) (fun c => ?_) (fun c => ?_)
    · have hf := x_neg c hf
      refine lv_iload hx hb dX2_walk_64 (lv_at hl 0 rfl) ?_
      refine lv_if_lt (tgt := 81) hx hb dX2_walk_66 (by decide) (fun c => ?_) (fun c => ?_)
      · have hf := x_pos c hf
        exact K81 q1 x2 d hf _ _ ls (lv_sub hl [2, 3] rfl) G
      · have hf := x_neg c hf
        refine lv_iload hx hb dX2_walk_69 (lv_at hl 0 rfl) ?_
        refine lv_aload_n hx hb dX2_walk_71 rfl (lv_at hl 1 rfl) ?_
        obtain ⟨v10, hv10, hf⟩ := x_ob hf
        refine xr_getR (ci := 2) (k := 0) S G hv10 rfl kw_410 dX2_walk_72 ?_
        obtain ⟨v11, hv11, hf⟩ := x_ob hf
        refine xr_getI (ci := 3) (k := 0) S G hv11 rfl kw_80 dX2_walk_75 ?_
        refine lv_icmp_le (tgt := 89) hx hb dX2_walk_78 (by decide) (fun c => ?_) (fun c => ?_)
        · have hf := x_pos c hf
          refine lv_aload_n hx hb dX2_walk_89 rfl (lv_at hl 2 rfl) ?_
          obtain ⟨v12, hv12, hf⟩ := x_ob hf
          refine xr_getR (ci := 4) (k := 6) S G hv12 rfl kw_331 dX2_walk_90 ?_
          refine lv_iload_n hx hb dX2_walk_93 rfl (lv_at hl 3 rfl) ?_
          refine lv_iload hx hb dX2_walk_94 (lv_at hl 0 rfl) ?_
          obtain ⟨d13, hd13, hf⟩ := x_ob hf
          refine xr_iast S G hd13 dX2_walk_96 (fun H locs G => ?_)
          refine lv_iload hx hb dX2_walk_97 (lv_at hl 0 rfl) ?_
          refine lv_if_eq (tgt := 114) hx hb dX2_walk_99 (by decide) (fun c => ?_) (fun c => ?_)
          · have hf := x_pos c hf
            exact K114 q1 x2 d13 hf _ _ ls (lv_sub hl [2, 3] rfl) G
          · have hf := x_neg c hf
            refine lv_iload hx hb dX2_walk_102 (lv_at hl 0 rfl) ?_
            refine lv_aload_n hx hb dX2_walk_104 rfl (lv_at hl 1 rfl) ?_
            obtain ⟨v14, hv14, hf⟩ := x_ob hf
            refine xr_getR (ci := 2) (k := 0) S G hv14 rfl kw_410 dX2_walk_105 ?_
            obtain ⟨v15, hv15, hf⟩ := x_ob hf
            refine xr_getI (ci := 3) (k := 0) S G hv15 rfl kw_80 dX2_walk_108 ?_
            refine lv_icmp_ne (tgt := 122) hx hb dX2_walk_111 (by decide) (fun c => ?_) (fun c => ?_)
            · have hf := x_neg c hf
              refine lv_aload_n hx hb dX2_walk_122 rfl (lv_at hl 1 rfl) ?_
              obtain ⟨v16, hv16, hf⟩ := x_ob hf
              refine xr_getR (ci := 2) (k := 0) S G hv16 rfl kw_410 dX2_walk_123 ?_
              refine lv_iload hx hb dX2_walk_126 (lv_at hl 0 rfl) ?_
              obtain ⟨z17, hz17, hf⟩ := x_ob hf
              obtain ⟨hqz17, hz17⟩ := xon_of hz17
              refine xr_callV (ci := 3) (As := [.int (y0 + y1)]) (rest := []) (st1 := [.int z17.1]) S G hl.1 (fun _ => rfl) (mt_X3_benchOn l D cid b ex sa sv B0 sh v16 (y0 + y1) d13 _ _ hz17) hqz17 (by decide) kw_843 kw_625 kw_626 kw_2 kw_627 hd_X3_benchOn ⟨Nat.le_of_ble_eq_true rfl, Nat.le_of_ble_eq_true rfl⟩ rfl rfl rfl (Nat.le_of_ble_eq_true rfl) ⟨Nat.le_of_ble_eq_true rfl, Nat.le_of_ble_eq_true rfl⟩ dX2_walk_128 (fun H locs G => ?_)
              refine lv_istore (lv' := [(6, .int z17.1), (5, .int (y0 + y1)), (0, .ref (b + q0)), (1, .ref (b + q1)), (2, .int x2), (3, .int x3), (4, .int x4)]) hx hb dX2_walk_131 hl (by decide) rfl (fun ls hl => ?_)
              refine lv_iload hx hb dX2_walk_133 (lv_at hl 0 rfl) ?_
              refine lv_iconst (v := (-1 : Int32)) hx hb dX2_walk_135 (by decide) ?_
              refine lv_icmp_eq (tgt := 151) hx hb dX2_walk_136 (by decide) (fun c => ?_) (fun c => ?_)
              · have hf := x_pos c hf
                exact K151 _ hrec10 q0 q1 x2 x3 x4 z17.2 hf _ _ ls (lv_sub hl [2, 3, 4, 5, 6] rfl) G
              · have hf := x_neg c hf
                refine lv_aload_n hx hb dX2_walk_139 rfl (lv_at hl 2 rfl) ?_
                refine lv_aload_n hx hb dX2_walk_140 rfl (lv_at hl 3 rfl) ?_
                refine lv_iload_n hx hb dX2_walk_141 rfl (lv_at hl 4 rfl) ?_
                refine lv_iload hx hb dX2_walk_142 (lv_at hl 0 rfl) ?_
                obtain ⟨z18, hz18, hf⟩ := x_ob hf
                obtain ⟨hqz18, hz18⟩ := xon_of hz18
                refine xr_callV (ci := 2) (As := [.ref (b + q1), .int x2, .int z17.1]) (rest := []) (st1 := [.int z18.1]) S G hl.1 (fun _ => rfl) (mt_X2_sitsDown l D cid b ex sa sv B0 sh q0 q1 x2 z17.1 z17.2 _ _ hz18) hqz18 (by decide) kw_844 kw_846 ks_23 kw_13 kw_847 hd_X2_sitsDown ⟨Nat.le_of_ble_eq_true rfl, Nat.le_of_ble_eq_true rfl⟩ rfl rfl rfl (Nat.le_of_ble_eq_true rfl) ⟨Nat.le_of_ble_eq_true rfl, Nat.le_of_ble_eq_true rfl⟩ dX2_walk_144 (fun H locs G => ?_)
                refine lv_if_eq (tgt := 151) hx hb dX2_walk_147 (by decide) (fun c => ?_) (fun c => ?_)
                · have hf := x_pos c hf
                  exact K151 _ hrec10 q0 q1 x2 x3 x4 z18.2 hf _ _ ls (lv_sub hl [2, 3, 4, 5, 6] rfl) G
                · have hf := x_neg c hf
                  exact K150 z18.2 hf _ _ ls (lv_sub hl [] rfl) G
            · have hf := x_pos c hf
              exact K114 q1 x2 d13 hf _ _ ls (lv_sub hl [2, 3] rfl) G
        · have hf := x_neg c hf
          exact K81 q1 x2 d hf _ _ ls (lv_sub hl [2, 3] rfl) G
    · have hf := x_pos c hf
      exact K49 q1 x2 d hf _ _ ls (lv_sub hl [2, 3] rfl) G
  have K10 : ∀ (n : Nat) (q0 : Nat) (q1 : Nat) (x2 : Int32) (x3 : Int32) (x4 : Int32) (d : xD), xloop (fun _ _ _ _ _ _ => none) (b_X2_walk_10 sh) n q0 q1 x2 x3 x4 d = some dz → ∀ (H : Heap) (locs : List Loc) (ls : Array Slot), lv_has ls 7 [(0, .ref (b + q0)), (1, .ref (b + q1)), (2, .int x2), (3, .int x3), (4, .int x4)] → xG D cid b A sh d s H locs → W p l e (xRm 4 0 0) s m av below meth c H locs 0 0 (MQ below (xQ D cid b ex A none sh dz) av s 0 0 A) (F0 m 10 ls []) := by
    intro n
    induction n with
    | zero =>
      intro q0 q1 x2 x3 x4 d hf
      have hf : (none : Option xD) = some dz := hf
      cases hf
    | succ n hrec10 =>
      intro q0 q1 x2 x3 x4 d hf H locs ls hl G
      have hf : b_X2_walk_10 sh (xloop (fun _ _ _ _ _ _ => none) (b_X2_walk_10 sh) n) q0 q1 x2 x3 x4 d = some dz := hf
      unfold b_X2_walk_10 at hf
      refine lv_iload hx hb dX2_walk_10 (lv_at hl 4 rfl) ?_
      refine lv_iload_n hx hb dX2_walk_12 rfl (lv_at hl 3 rfl) ?_
      refine lv_icmp_ge (tgt := 157) hx hb dX2_walk_13 (by decide) (fun c => ?_) (fun c => ?_)
      · have hf := x_pos c hf
        exact K157 d hf _ _ ls (lv_sub hl [] rfl) G
      · have hf := x_neg c hf
        refine lv_aload_n hx hb dX2_walk_16 rfl (lv_at hl 1 rfl) ?_
        obtain ⟨v19, hv19, hf⟩ := x_ob hf
        refine xr_getR (ci := 4) (k := 6) S G hv19 rfl kw_331 dX2_walk_17 ?_
        refine lv_iload_n hx hb dX2_walk_20 rfl (lv_at hl 2 rfl) ?_
        obtain ⟨v20, hv20, hf⟩ := x_ob hf
        refine xr_iald S G hv20 dX2_walk_21 ?_
        refine lv_aload_n hx hb dX2_walk_22 rfl (lv_at hl 1 rfl) ?_
        obtain ⟨v21, hv21, hf⟩ := x_ob hf
        refine xr_getR (ci := 4) (k := 7) S G hv21 rfl kw_334 dX2_walk_23 ?_
        refine lv_iload_n hx hb dX2_walk_26 rfl (lv_at hl 2 rfl) ?_
        obtain ⟨v22, hv22, hf⟩ := x_ob hf
        refine xr_iald S G hv22 dX2_walk_27 ?_
        refine lv_iconst (v := (1 : Int32)) hx hb dX2_walk_28 (by decide) ?_
        refine lv_icmp_ne (tgt := 36) hx hb dX2_walk_29 (by decide) (fun c => ?_) (fun c => ?_)
        · have hf := x_neg c hf
          refine lv_iconst (v := (1 : Int32)) hx hb dX2_walk_36 (by decide) ?_
          exact K37 _ hrec10 q0 q1 x2 x3 x4 v20 (1 : Int32) d hf _ _ ls (lv_sub hl [0, 1, 2, 3, 4] rfl) G
        · have hf := x_pos c hf
          refine lv_iconst (v := (-1 : Int32)) hx hb dX2_walk_32 (by decide) ?_
          refine lv_goto (tgt := 37) hx hb dX2_walk_33 (by decide) ?_
          exact K37 _ hrec10 q0 q1 x2 x3 x4 v20 (-1 : Int32) d hf _ _ ls (lv_sub hl [0, 1, 2, 3, 4] rfl) G
  unfold f_X2_walk at hf
  refine lv_aload_n hx hb dX2_walk_0 rfl (lv_at hl 1 rfl) ?_
  obtain ⟨v23, hv23, hf⟩ := x_ob hf
  refine xr_getR (ci := 4) (k := 8) S G hv23 rfl kw_337 dX2_walk_1 ?_
  refine lv_iload_n hx hb dX2_walk_4 rfl (lv_at hl 2 rfl) ?_
  obtain ⟨v24, hv24, hf⟩ := x_ob hf
  refine xr_iald S G hv24 dX2_walk_5 ?_
  refine lv_istore_n (lv' := [(3, .int v24), (0, .ref (b + q0)), (1, .ref (b + q1)), (2, .int x2)]) hx hb dX2_walk_6 rfl hl (by decide) rfl (fun ls hl => ?_)
  refine lv_iconst (v := (0 : Int32)) hx hb dX2_walk_7 (by decide) ?_
  refine lv_istore (lv' := [(4, .int (0 : Int32)), (3, .int v24), (0, .ref (b + q0)), (1, .ref (b + q1)), (2, .int x2)]) hx hb dX2_walk_8 hl (by decide) rfl (fun ls hl => ?_)
  exact K10 xF q0 q1 x2 v24 (0 : Int32) d hf _ _ ls (lv_sub hl [2, 3, 4, 1, 0] rfl) G
-- HalfLandings$Scene.howMany(I)I
theorem dX4_howMany_0 : decode cX4_howMany 0 = .ok (.iconst 0, 1) := by decide +kernel
theorem dX4_howMany_1 : decode cX4_howMany 1 = .ok (.istore_n 2, 1) := by decide +kernel
theorem dX4_howMany_2 : decode cX4_howMany 2 = .ok (.iconst 0, 1) := by decide +kernel
theorem dX4_howMany_3 : decode cX4_howMany 3 = .ok (.istore_n 3, 1) := by decide +kernel
theorem dX4_howMany_4 : decode cX4_howMany 4 = .ok (.iload_n 3, 1) := by decide +kernel
theorem dX4_howMany_5 : decode cX4_howMany 5 = .ok (.aload_n 0, 1) := by decide +kernel
theorem dX4_howMany_6 : decode cX4_howMany 6 = .ok (.getfield 25, 3) := by decide +kernel
theorem dX4_howMany_9 : decode cX4_howMany 9 = .ok (.if_icmp .ge 22, 3) := by decide +kernel
theorem dX4_howMany_12 : decode cX4_howMany 12 = .ok (.aload_n 0, 1) := by decide +kernel
theorem dX4_howMany_13 : decode cX4_howMany 13 = .ok (.getfield 28, 3) := by decide +kernel
theorem dX4_howMany_16 : decode cX4_howMany 16 = .ok (.iload_n 3, 1) := by decide +kernel
theorem dX4_howMany_17 : decode cX4_howMany 17 = .ok (.iaload, 1) := by decide +kernel
theorem dX4_howMany_18 : decode cX4_howMany 18 = .ok (.iload_n 1, 1) := by decide +kernel
theorem dX4_howMany_19 : decode cX4_howMany 19 = .ok (.if_icmp .ne 6, 3) := by decide +kernel
theorem dX4_howMany_22 : decode cX4_howMany 22 = .ok (.iinc 2 1, 3) := by decide +kernel
theorem dX4_howMany_25 : decode cX4_howMany 25 = .ok (.iinc 3 1, 3) := by decide +kernel
theorem dX4_howMany_28 : decode cX4_howMany 28 = .ok (.goto (-24), 3) := by decide +kernel
theorem dX4_howMany_31 : decode cX4_howMany 31 = .ok (.iload_n 2, 1) := by decide +kernel
theorem dX4_howMany_32 : decode cX4_howMany 32 = .ok (.ireturn, 1) := by decide +kernel
theorem hd_X4_howMany : yX4_howMany.cls = xCn 4 ∧ yX4_howMany.cls ≠ "java/lang/invoke/MethodHandle" ∧ yX4_howMany.cls ≠ "java/lang/invoke/VarHandle" ∧ (parseMethodDescriptor yX4_howMany.desc).map (fun d => d.parameters.length) = some 1 := by decide +kernel
def k_X4_howMany_31 (sh : List xSh) (x2 : Int32) (d : xD) : Option (Int32 × xD) :=
  some (x2, d)
def k_X4_howMany_25 (sh : List xSh) (rec4 : Nat → Int32 → Int32 → Int32 → xD → Option (Int32 × xD)) (q0 : Nat) (x1 : Int32) (x2 : Int32) (x3 : Int32) (d : xD) : Option (Int32 × xD) :=
  rec4 q0 x1 x2 (x3 + 1) d
def b_X4_howMany_4 (sh : List xSh) (rec4 : Nat → Int32 → Int32 → Int32 → xD → Option (Int32 × xD)) (q0 : Nat) (x1 : Int32) (x2 : Int32) (x3 : Int32) (d : xD) : Option (Int32 × xD) :=
  (xgI 4 sh d q0 4).bind fun v1 => if v1 ≤ x3 then (k_X4_howMany_31 sh x2 d) else ((xgR 4 sh d q0 5).bind fun v2 => (xaI .int sh d v2 x3).bind fun v3 => if v3 = x1 then (k_X4_howMany_25 sh rec4 q0 x1 (x2 + 1) x3 d) else (k_X4_howMany_25 sh rec4 q0 x1 x2 x3 d))
def f_X4_howMany (sh : List xSh) (q0 : Nat) (x1 : Int32) (d : xD) : Option (Int32 × xD) :=
  xloop (fun _ _ _ _ _ => none) (b_X4_howMany_4 sh) xF q0 x1 (0 : Int32) (0 : Int32) d
set_option maxHeartbeats 4000000 in
set_option maxRecDepth 100000 in
theorem mt_X4_howMany (l : Launch) (D : va_G) (cid : FieldType → ClassId) (b : Nat) (ex : Bool) (sa sv B0 : Nat) (sh : List xSh) (q0 : Nat) (x1 : Int32) (d : xD) (r : Int32) (dz : xD) (hf : f_X4_howMany sh q0 x1 d = some (r, dz)) : xMet l yX4_howMany cX4_howMany 4 (some .int) 0 0 0 D cid b ex sa sv B0 [.ref (b + q0), .int x1] sh d (some (.int r)) sh dz := by
  refine xMet.of (by decide) (Nat.le_of_ble_eq_true rfl) ?_
  intro p e s m below meth c ls A S hr hin G hl
  have hl : lv_has ls 4 [(0, .ref (b + q0)), (1, .int x1)] := hl
  generalize ([.ref (b + q0), .int x1] : List Value).toArray = av at S ⊢
  have hx := S.1
  have hb := S.2.1
  have hml := S.2.2.1
  have hown := S.2.2.2.1
  have hts := S.2.2.2.2.1
  have K31 : ∀ (x2 : Int32) (d : xD), k_X4_howMany_31 sh x2 d = some (r, dz) → ∀ (H : Heap) (locs : List Loc) (ls : Array Slot), lv_has ls 4 [(2, .int x2)] → xG D cid b A sh d s H locs → W p l e (xRm 0 0 0) s m av below meth c H locs 0 0 (MQ below (xQ D cid b ex A (some (.int r)) sh dz) av s 0 0 A) (F0 m 31 ls []) := by
    intro x2 d hf H locs ls hl G
    unfold k_X4_howMany_31 at hf
    refine lv_iload_n hx hb dX4_howMany_31 rfl (lv_at hl 0 rfl) ?_
    cases hf
    exact xr_iret S G (fun _ => rfl) hr dX4_howMany_32
  have K25 : ∀ (rec4 : Nat → Int32 → Int32 → Int32 → xD → Option (Int32 × xD)) (hrec4 : ∀ (q0 : Nat) (x1 : Int32) (x2 : Int32) (x3 : Int32) (d : xD), rec4 q0 x1 x2 x3 d = some (r, dz) → ∀ (H : Heap) (locs : List Loc) (ls : Array Slot), lv_has ls 4 [(0, .ref (b + q0)), (1, .int x1), (2, .int x2), (3, .int x3)] → xG D cid b A sh d s H locs → W p l e (xRm 0 0 0) s m av below meth c H locs 0 0 (MQ below (xQ D cid b ex A (some (.int r)) sh dz) av s 0 0 A) (F0 m 4 ls [])) (q0 : Nat) (x1 : Int32) (x2 : Int32) (x3 : Int32) (d : xD), k_X4_howMany_25 sh rec4 q0 x1 x2 x3 d = some (r, dz) → ∀ (H : Heap) (locs : List Loc) (ls : Array Slot), lv_has ls 4 [(0, .ref (b + q0)), (1, .int x1), (2, .int x2), (3, .int x3)] → xG D cid b A sh d s H locs → W p l e (xRm 0 0 0) s m av below meth c H locs 0 0 (MQ below (xQ D cid b ex A (some (.int r)) sh dz) av s 0 0 A) (F0 m 25 ls []) := by
    intro rec4 hrec4 q0 x1 x2 x3 d hf H locs ls hl G
    unfold k_X4_howMany_25 at hf
    refine lv_iinc (v := (x3 + 1)) (lv' := [(3, .int (x3 + 1)), (0, .ref (b + q0)), (1, .int x1), (2, .int x2)]) hx hb dX4_howMany_25 hl (k := 3) rfl rfl (by decide) rfl (fun ls hl => ?_)
    refine lv_goto (tgt := 4) hx hb dX4_howMany_28 (by decide) ?_
    exact hrec4 q0 x1 x2 (x3 + 1) d hf _ _ ls (lv_sub hl [1, 2, 3, 0] rfl) G
  have K4 : ∀ (n : Nat) (q0 : Nat) (x1 : Int32) (x2 : Int32) (x3 : Int32) (d : xD), xloop (fun _ _ _ _ _ => none) (b_X4_howMany_4 sh) n q0 x1 x2 x3 d = some (r, dz) → ∀ (H : Heap) (locs : List Loc) (ls : Array Slot), lv_has ls 4 [(0, .ref (b + q0)), (1, .int x1), (2, .int x2), (3, .int x3)] → xG D cid b A sh d s H locs → W p l e (xRm 0 0 0) s m av below meth c H locs 0 0 (MQ below (xQ D cid b ex A (some (.int r)) sh dz) av s 0 0 A) (F0 m 4 ls []) := by
    intro n
    induction n with
    | zero =>
      intro q0 x1 x2 x3 d hf
      have hf : (none : Option (Int32 × xD)) = some (r, dz) := hf
      cases hf
    | succ n hrec4 =>
      intro q0 x1 x2 x3 d hf H locs ls hl G
      have hf : b_X4_howMany_4 sh (xloop (fun _ _ _ _ _ => none) (b_X4_howMany_4 sh) n) q0 x1 x2 x3 d = some (r, dz) := hf
      unfold b_X4_howMany_4 at hf
      refine lv_iload_n hx hb dX4_howMany_4 rfl (lv_at hl 3 rfl) ?_
      refine lv_aload_n hx hb dX4_howMany_5 rfl (lv_at hl 0 rfl) ?_
      obtain ⟨v1, hv1, hf⟩ := x_ob hf
      refine xr_getI (ci := 4) (k := 4) S G hv1 rfl kw_326 dX4_howMany_6 ?_
      refine lv_icmp_ge (tgt := 31) hx hb dX4_howMany_9 (by decide) (fun c => ?_) (fun c => ?_)
      · have hf := x_pos c hf
        exact K31 x2 d hf _ _ ls (lv_sub hl [2] rfl) G
      · have hf := x_neg c hf
        refine lv_aload_n hx hb dX4_howMany_12 rfl (lv_at hl 0 rfl) ?_
        obtain ⟨v2, hv2, hf⟩ := x_ob hf
        refine xr_getR (ci := 4) (k := 5) S G hv2 rfl kw_327 dX4_howMany_13 ?_
        refine lv_iload_n hx hb dX4_howMany_16 rfl (lv_at hl 3 rfl) ?_
        obtain ⟨v3, hv3, hf⟩ := x_ob hf
        refine xr_iald S G hv3 dX4_howMany_17 ?_
        refine lv_iload_n hx hb dX4_howMany_18 rfl (lv_at hl 1 rfl) ?_
        refine lv_icmp_ne (tgt := 25) hx hb dX4_howMany_19 (by decide) (fun c => ?_) (fun c => ?_)
        · have hf := x_neg c hf
          exact K25 _ hrec4 q0 x1 x2 x3 d hf _ _ ls (lv_sub hl [0, 1, 2, 3] rfl) G
        · have hf := x_pos c hf
          refine lv_iinc (v := (x2 + 1)) (lv' := [(2, .int (x2 + 1)), (0, .ref (b + q0)), (1, .int x1), (3, .int x3)]) hx hb dX4_howMany_22 hl (k := 2) rfl rfl (by decide) rfl (fun ls hl => ?_)
          exact K25 _ hrec4 q0 x1 (x2 + 1) x3 d hf _ _ ls (lv_sub hl [1, 2, 0, 3] rfl) G
  unfold f_X4_howMany at hf
  refine lv_iconst (v := (0 : Int32)) hx hb dX4_howMany_0 (by decide) ?_
  refine lv_istore_n (lv' := [(2, .int (0 : Int32)), (0, .ref (b + q0)), (1, .int x1)]) hx hb dX4_howMany_1 rfl hl (by decide) rfl (fun ls hl => ?_)
  refine lv_iconst (v := (0 : Int32)) hx hb dX4_howMany_2 (by decide) ?_
  refine lv_istore_n (lv' := [(3, .int (0 : Int32)), (2, .int (0 : Int32)), (0, .ref (b + q0)), (1, .int x1)]) hx hb dX4_howMany_3 rfl hl (by decide) rfl (fun ls hl => ?_)
  exact K4 xF q0 x1 (0 : Int32) (0 : Int32) d hf _ _ ls (lv_sub hl [2, 3, 1, 0] rfl) G
-- HalfLandings$Minutes.sitTogether(LHalfLandings$Scene;II)Z
theorem dX2_sitTogether_0 : decode cX2_sitTogether 0 = .ok (.aload_n 0, 1) := by decide +kernel
theorem dX2_sitTogether_1 : decode cX2_sitTogether 1 = .ok (.getfield 36, 3) := by decide +kernel
theorem dX2_sitTogether_4 : decode cX2_sitTogether 4 = .ok (.iload_n 1, 1) := by decide +kernel
theorem dX2_sitTogether_5 : decode cX2_sitTogether 5 = .ok (.iaload, 1) := by decide +kernel
theorem dX2_sitTogether_6 : decode cX2_sitTogether 6 = .ok (.iconst 2, 1) := by decide +kernel
theorem dX2_sitTogether_7 : decode cX2_sitTogether 7 = .ok (.if_icmp .ne 32, 3) := by decide +kernel
theorem dX2_sitTogether_10 : decode cX2_sitTogether 10 = .ok (.aload_n 0, 1) := by decide +kernel
theorem dX2_sitTogether_11 : decode cX2_sitTogether 11 = .ok (.getfield 36, 3) := by decide +kernel
theorem dX2_sitTogether_14 : decode cX2_sitTogether 14 = .ok (.iload_n 2, 1) := by decide +kernel
theorem dX2_sitTogether_15 : decode cX2_sitTogether 15 = .ok (.iaload, 1) := by decide +kernel
theorem dX2_sitTogether_16 : decode cX2_sitTogether 16 = .ok (.iconst 2, 1) := by decide +kernel
theorem dX2_sitTogether_17 : decode cX2_sitTogether 17 = .ok (.if_icmp .ne 22, 3) := by decide +kernel
theorem dX2_sitTogether_20 : decode cX2_sitTogether 20 = .ok (.aload_n 0, 1) := by decide +kernel
theorem dX2_sitTogether_21 : decode cX2_sitTogether 21 = .ok (.getfield 66, 3) := by decide +kernel
theorem dX2_sitTogether_24 : decode cX2_sitTogether 24 = .ok (.iload_n 1, 1) := by decide +kernel
theorem dX2_sitTogether_25 : decode cX2_sitTogether 25 = .ok (.iaload, 1) := by decide +kernel
theorem dX2_sitTogether_26 : decode cX2_sitTogether 26 = .ok (.aload_n 0, 1) := by decide +kernel
theorem dX2_sitTogether_27 : decode cX2_sitTogether 27 = .ok (.getfield 66, 3) := by decide +kernel
theorem dX2_sitTogether_30 : decode cX2_sitTogether 30 = .ok (.iload_n 2, 1) := by decide +kernel
theorem dX2_sitTogether_31 : decode cX2_sitTogether 31 = .ok (.iaload, 1) := by decide +kernel
theorem dX2_sitTogether_32 : decode cX2_sitTogether 32 = .ok (.if_icmp .ne 7, 3) := by decide +kernel
theorem dX2_sitTogether_35 : decode cX2_sitTogether 35 = .ok (.iconst 1, 1) := by decide +kernel
theorem dX2_sitTogether_36 : decode cX2_sitTogether 36 = .ok (.goto 4, 3) := by decide +kernel
theorem dX2_sitTogether_39 : decode cX2_sitTogether 39 = .ok (.iconst 0, 1) := by decide +kernel
theorem dX2_sitTogether_40 : decode cX2_sitTogether 40 = .ok (.ireturn, 1) := by decide +kernel
theorem hd_X2_sitTogether : yX2_sitTogether.cls ≠ "java/lang/invoke/MethodHandle" ∧ yX2_sitTogether.cls ≠ "java/lang/invoke/VarHandle" ∧ (parseMethodDescriptor yX2_sitTogether.desc).map (fun d => d.parameters.length) = some 3 := by decide +kernel
def k_X2_sitTogether_40 (sh : List xSh) (y0 : Int32) (d : xD) : Option (Int32 × xD) :=
  (xz y0).bind fun v1 => some (v1, d)
def k_X2_sitTogether_39 (sh : List xSh) (d : xD) : Option (Int32 × xD) :=
  k_X2_sitTogether_40 sh (0 : Int32) d
def f_X2_sitTogether (sh : List xSh) (q0 : Nat) (x1 : Int32) (x2 : Int32) (d : xD) : Option (Int32 × xD) :=
  (xgR 4 sh d q0 5).bind fun v2 => (xaI .int sh d v2 x1).bind fun v3 => if v3 = (2 : Int32) then ((xgR 4 sh d q0 5).bind fun v4 => (xaI .int sh d v4 x2).bind fun v5 => if v5 = (2 : Int32) then ((xgR 4 sh d q0 6).bind fun v6 => (xaI .int sh d v6 x1).bind fun v7 => (xgR 4 sh d q0 6).bind fun v8 => (xaI .int sh d v8 x2).bind fun v9 => if v7 = v9 then (k_X2_sitTogether_40 sh (1 : Int32) d) else (k_X2_sitTogether_39 sh d)) else (k_X2_sitTogether_39 sh d)) else (k_X2_sitTogether_39 sh d)
set_option maxHeartbeats 4000000 in
set_option maxRecDepth 100000 in
theorem mt_X2_sitTogether (l : Launch) (D : va_G) (cid : FieldType → ClassId) (b : Nat) (ex : Bool) (sa sv B0 : Nat) (sh : List xSh) (q0 : Nat) (x1 : Int32) (x2 : Int32) (d : xD) (r : Int32) (dz : xD) (hf : f_X2_sitTogether sh q0 x1 x2 d = some (r, dz)) : xMet l yX2_sitTogether cX2_sitTogether 3 (some .boolean) 0 0 0 D cid b ex sa sv B0 [.ref (b + q0), .int x1, .int x2] sh d (some (.int r)) sh dz := by
  refine xMet.of (by decide) (Nat.le_of_ble_eq_true rfl) ?_
  intro p e s m below meth c ls A S hr hin G hl
  have hl : lv_has ls 3 [(0, .ref (b + q0)), (1, .int x1), (2, .int x2)] := hl
  generalize ([.ref (b + q0), .int x1, .int x2] : List Value).toArray = av at S ⊢
  have hx := S.1
  have hb := S.2.1
  have hml := S.2.2.1
  have hown := S.2.2.2.1
  have hts := S.2.2.2.2.1
  have K40 : ∀ (y0 : Int32) (d : xD), k_X2_sitTogether_40 sh y0 d = some (r, dz) → ∀ (H : Heap) (locs : List Loc) (ls : Array Slot), lv_has ls 3 [] → xG D cid b A sh d s H locs → W p l e (xRm 0 0 0) s m av below meth c H locs 0 0 (MQ below (xQ D cid b ex A (some (.int r)) sh dz) av s 0 0 A) (F0 m 40 ls [.int y0]) := by
    intro y0 d hf H locs ls hl G
    unfold k_X2_sitTogether_40 at hf
    obtain ⟨v1, hv1, hf⟩ := x_ob hf
    cases hf
    exact xr_zret S G (fun _ => rfl) hr hv1 dX2_sitTogether_40
  have K39 : ∀ (d : xD), k_X2_sitTogether_39 sh d = some (r, dz) → ∀ (H : Heap) (locs : List Loc) (ls : Array Slot), lv_has ls 3 [] → xG D cid b A sh d s H locs → W p l e (xRm 0 0 0) s m av below meth c H locs 0 0 (MQ below (xQ D cid b ex A (some (.int r)) sh dz) av s 0 0 A) (F0 m 39 ls []) := by
    intro d hf H locs ls hl G
    unfold k_X2_sitTogether_39 at hf
    refine lv_iconst (v := (0 : Int32)) hx hb dX2_sitTogether_39 (by decide) ?_
    exact K40 (0 : Int32) d hf _ _ ls (lv_sub hl [] rfl) G
  unfold f_X2_sitTogether at hf
  refine lv_aload_n hx hb dX2_sitTogether_0 rfl (lv_at hl 0 rfl) ?_
  obtain ⟨v2, hv2, hf⟩ := x_ob hf
  refine xr_getR (ci := 4) (k := 5) S G hv2 rfl kw_328 dX2_sitTogether_1 ?_
  refine lv_iload_n hx hb dX2_sitTogether_4 rfl (lv_at hl 1 rfl) ?_
  obtain ⟨v3, hv3, hf⟩ := x_ob hf
  refine xr_iald S G hv3 dX2_sitTogether_5 ?_
  refine lv_iconst (v := (2 : Int32)) hx hb dX2_sitTogether_6 (by decide) ?_
  refine lv_icmp_ne (tgt := 39) hx hb dX2_sitTogether_7 (by decide) (fun c => ?_) (fun c => ?_)
  · have hf := x_neg c hf
    exact K39 d hf _ _ ls (lv_sub hl [] rfl) G
  · have hf := x_pos c hf
    refine lv_aload_n hx hb dX2_sitTogether_10 rfl (lv_at hl 0 rfl) ?_
    obtain ⟨v4, hv4, hf⟩ := x_ob hf
    refine xr_getR (ci := 4) (k := 5) S G hv4 rfl kw_328 dX2_sitTogether_11 ?_
    refine lv_iload_n hx hb dX2_sitTogether_14 rfl (lv_at hl 2 rfl) ?_
    obtain ⟨v5, hv5, hf⟩ := x_ob hf
    refine xr_iald S G hv5 dX2_sitTogether_15 ?_
    refine lv_iconst (v := (2 : Int32)) hx hb dX2_sitTogether_16 (by decide) ?_
    refine lv_icmp_ne (tgt := 39) hx hb dX2_sitTogether_17 (by decide) (fun c => ?_) (fun c => ?_)
    · have hf := x_neg c hf
      exact K39 d hf _ _ ls (lv_sub hl [] rfl) G
    · have hf := x_pos c hf
      refine lv_aload_n hx hb dX2_sitTogether_20 rfl (lv_at hl 0 rfl) ?_
      obtain ⟨v6, hv6, hf⟩ := x_ob hf
      refine xr_getR (ci := 4) (k := 6) S G hv6 rfl kw_331 dX2_sitTogether_21 ?_
      refine lv_iload_n hx hb dX2_sitTogether_24 rfl (lv_at hl 1 rfl) ?_
      obtain ⟨v7, hv7, hf⟩ := x_ob hf
      refine xr_iald S G hv7 dX2_sitTogether_25 ?_
      refine lv_aload_n hx hb dX2_sitTogether_26 rfl (lv_at hl 0 rfl) ?_
      obtain ⟨v8, hv8, hf⟩ := x_ob hf
      refine xr_getR (ci := 4) (k := 6) S G hv8 rfl kw_331 dX2_sitTogether_27 ?_
      refine lv_iload_n hx hb dX2_sitTogether_30 rfl (lv_at hl 2 rfl) ?_
      obtain ⟨v9, hv9, hf⟩ := x_ob hf
      refine xr_iald S G hv9 dX2_sitTogether_31 ?_
      refine lv_icmp_ne (tgt := 39) hx hb dX2_sitTogether_32 (by decide) (fun c => ?_) (fun c => ?_)
      · have hf := x_neg c hf
        exact K39 d hf _ _ ls (lv_sub hl [] rfl) G
      · have hf := x_pos c hf
        refine lv_iconst (v := (1 : Int32)) hx hb dX2_sitTogether_35 (by decide) ?_
        refine lv_goto (tgt := 40) hx hb dX2_sitTogether_36 (by decide) ?_
        exact K40 (1 : Int32) d hf _ _ ls (lv_sub hl [] rfl) G
-- HalfLandings$Minutes.amount(LHalfLandings$Scene;II)I
theorem dX2_amount_0 : decode cX2_amount 0 = .ok (.aload_n 0, 1) := by decide +kernel
theorem dX2_amount_1 : decode cX2_amount 1 = .ok (.getfield 17, 3) := by decide +kernel
theorem dX2_amount_4 : decode cX2_amount 4 = .ok (.aload_n 1, 1) := by decide +kernel
theorem dX2_amount_5 : decode cX2_amount 5 = .ok (.getfield 66, 3) := by decide +kernel
theorem dX2_amount_8 : decode cX2_amount 8 = .ok (.iload_n 3, 1) := by decide +kernel
theorem dX2_amount_9 : decode cX2_amount 9 = .ok (.iaload, 1) := by decide +kernel
theorem dX2_amount_10 : decode cX2_amount 10 = .ok (.invokevirtual 78, 3) := by decide +kernel
theorem dX2_amount_13 : decode cX2_amount 13 = .ok (.istore 4, 2) := by decide +kernel
theorem dX2_amount_15 : decode cX2_amount 15 = .ok (.iload 4, 2) := by decide +kernel
theorem dX2_amount_17 : decode cX2_amount 17 = .ok (.iconst (-1), 1) := by decide +kernel
theorem dX2_amount_18 : decode cX2_amount 18 = .ok (.if_icmp .ne 9, 3) := by decide +kernel
theorem dX2_amount_21 : decode cX2_amount 21 = .ok (.ldc2_w 110, 3) := by decide +kernel
theorem dX2_amount_24 : decode cX2_amount 24 = .ok (.goto 12, 3) := by decide +kernel
theorem dX2_amount_27 : decode cX2_amount 27 = .ok (.aload_n 0, 1) := by decide +kernel
theorem dX2_amount_28 : decode cX2_amount 28 = .ok (.aload_n 1, 1) := by decide +kernel
theorem dX2_amount_29 : decode cX2_amount 29 = .ok (.iload_n 2, 1) := by decide +kernel
theorem dX2_amount_30 : decode cX2_amount 30 = .ok (.iload_n 3, 1) := by decide +kernel
theorem dX2_amount_31 : decode cX2_amount 31 = .ok (.iload 4, 2) := by decide +kernel
theorem dX2_amount_33 : decode cX2_amount 33 = .ok (.invokevirtual 106, 3) := by decide +kernel
theorem dX2_amount_36 : decode cX2_amount 36 = .ok (.lstore 5, 2) := by decide +kernel
theorem dX2_amount_38 : decode cX2_amount 38 = .ok (.lload 5, 2) := by decide +kernel
theorem dX2_amount_40 : decode cX2_amount 40 = .ok (.ldc2_w 110, 3) := by decide +kernel
theorem dX2_amount_43 : decode cX2_amount 43 = .ok (.lcmp, 1) := by decide +kernel
theorem dX2_amount_44 : decode cX2_amount 44 = .ok (.ifCond .ne 5, 3) := by decide +kernel
theorem dX2_amount_47 : decode cX2_amount 47 = .ok (.iconst 1, 1) := by decide +kernel
theorem dX2_amount_48 : decode cX2_amount 48 = .ok (.ireturn, 1) := by decide +kernel
theorem dX2_amount_49 : decode cX2_amount 49 = .ok (.lconst 0, 1) := by decide +kernel
theorem dX2_amount_50 : decode cX2_amount 50 = .ok (.lload 5, 2) := by decide +kernel
theorem dX2_amount_52 : decode cX2_amount 52 = .ok (.ldc2_w 162, 3) := by decide +kernel
theorem dX2_amount_55 : decode cX2_amount 55 = .ok (.invokestatic 164, 3) := by decide +kernel
theorem dX2_amount_58 : decode cX2_amount 58 = .ok (.invokestatic 167, 3) := by decide +kernel
theorem dX2_amount_61 : decode cX2_amount 61 = .ok (.l2i, 1) := by decide +kernel
theorem dX2_amount_62 : decode cX2_amount 62 = .ok (.ireturn, 1) := by decide +kernel
theorem hd_X2_amount : yX2_amount.cls = xCn 2 ∧ yX2_amount.cls ≠ "java/lang/invoke/MethodHandle" ∧ yX2_amount.cls ≠ "java/lang/invoke/VarHandle" ∧ (parseMethodDescriptor yX2_amount.desc).map (fun d => d.parameters.length) = some 3 := by decide +kernel
def k_X2_amount_36 (sh : List xSh) (y0 : Int64) (d : xD) : Option (Int32 × xD) :=
  if (lg_cmp y0 (-9223372036854775808 : Int64)) = 0 then (some ((1 : Int32), d)) else (some (((if (if (99 : Int64) < y0 then (99 : Int64) else y0) < (0 : Int64) then (0 : Int64) else (if (99 : Int64) < y0 then (99 : Int64) else y0))).toInt32, d))
def f_X2_amount (sh : List xSh) (q0 : Nat) (q1 : Nat) (x2 : Int32) (x3 : Int32) (d : xD) : Option (Int32 × xD) :=
  (xgR 2 sh d q0 0).bind fun v1 => (xgR 4 sh d q1 6).bind fun v2 => (xaI .int sh d v2 x3).bind fun v3 => (xon 3 sh v1 (f_X3_benchOn sh v1 v3 d)).bind fun z4 => if z4.1 = (-1 : Int32) then (k_X2_amount_36 sh (-9223372036854775808 : Int64) z4.2) else ((xon 2 sh q0 (f_X2_worth sh q0 q1 x2 x3 z4.1 z4.2)).bind fun z5 => k_X2_amount_36 sh z5.1 z5.2)
set_option maxHeartbeats 4000000 in
set_option maxRecDepth 100000 in
theorem mt_X2_amount (l : Launch) (D : va_G) (cid : FieldType → ClassId) (b : Nat) (ex : Bool) (sa sv B0 : Nat) (sh : List xSh) (q0 : Nat) (q1 : Nat) (x2 : Int32) (x3 : Int32) (d : xD) (r : Int32) (dz : xD) (hf : f_X2_amount sh q0 q1 x2 x3 d = some (r, dz)) : xMet l yX2_amount cX2_amount 7 (some .int) 3 0 0 D cid b ex sa sv B0 [.ref (b + q0), .ref (b + q1), .int x2, .int x3] sh d (some (.int r)) sh dz := by
  refine xMet.of (by decide) (Nat.le_of_ble_eq_true rfl) ?_
  intro p e s m below meth c ls A S hr hin G hl
  have hl : lv_has ls 7 [(0, .ref (b + q0)), (1, .ref (b + q1)), (2, .int x2), (3, .int x3)] := hl
  generalize ([.ref (b + q0), .ref (b + q1), .int x2, .int x3] : List Value).toArray = av at S ⊢
  have hx := S.1
  have hb := S.2.1
  have hml := S.2.2.1
  have hown := S.2.2.2.1
  have hts := S.2.2.2.2.1
  have K36 : ∀ (y0 : Int64) (d : xD), k_X2_amount_36 sh y0 d = some (r, dz) → ∀ (H : Heap) (locs : List Loc) (ls : Array Slot), lv_has ls 7 [] → xG D cid b A sh d s H locs → W p l e (xRm 3 0 0) s m av below meth c H locs 0 0 (MQ below (xQ D cid b ex A (some (.int r)) sh dz) av s 0 0 A) (F0 m 36 ls [.long y0]) := by
    intro y0 d hf H locs ls hl G
    unfold k_X2_amount_36 at hf
    refine lv_lstore (lv' := [(5, .long y0)]) hx hb dX2_amount_36 hl (by decide) rfl (fun ls hl => ?_)
    refine lv_lload hx hb dX2_amount_38 (lv_at hl 0 rfl) ?_
    refine lv_ldc2 (v := (-9223372036854775808 : Int64)) hx hb hown (hts _ kw_771) dX2_amount_40 ?_
    refine W.lcmp hx hb dX2_amount_43 ?_
    refine lv_if_ne (tgt := 49) hx hb dX2_amount_44 (by decide) (fun c => ?_) (fun c => ?_)
    · have hf := x_neg c hf
      refine lv_lconst (v := (0 : Int64)) hx hb dX2_amount_49 (by decide) ?_
      refine lv_lload hx hb dX2_amount_50 (lv_at hl 0 rfl) ?_
      refine lv_ldc2 (v := (99 : Int64)) hx hb hown (hts _ kw_870) dX2_amount_52 ?_
      refine va_mmin_long hx hb (hml.trans hl.1.symm) hown (hts _ kw_871) (hts _ kw_872) (hts _ kw_18) (hts _ kp_mmin_long) (Nat.le_of_ble_eq_true rfl) (Nat.le_of_ble_eq_true rfl) (Nat.le_refl _) (Nat.le_refl _) dX2_amount_55 ?_
      refine va_mmax_long hx hb (hml.trans hl.1.symm) hown (hts _ kw_874) (hts _ kw_875) (hts _ kw_18) (hts _ kp_mmax_long) (Nat.le_of_ble_eq_true rfl) (Nat.le_of_ble_eq_true rfl) (Nat.le_refl _) (Nat.le_refl _) dX2_amount_58 ?_
      refine lv_l2i (v := ((if (if (99 : Int64) < y0 then (99 : Int64) else y0) < (0 : Int64) then (0 : Int64) else (if (99 : Int64) < y0 then (99 : Int64) else y0))).toInt32) hx hb dX2_amount_61 rfl ?_
      cases hf
      exact xr_iret S G (fun _ => rfl) hr dX2_amount_62
    · have hf := x_pos c hf
      refine lv_iconst (v := (1 : Int32)) hx hb dX2_amount_47 (by decide) ?_
      cases hf
      exact xr_iret S G (fun _ => rfl) hr dX2_amount_48
  unfold f_X2_amount at hf
  refine lv_aload_n hx hb dX2_amount_0 rfl (lv_at hl 0 rfl) ?_
  obtain ⟨v1, hv1, hf⟩ := x_ob hf
  refine xr_getR (ci := 2) (k := 0) S G hv1 rfl kw_410 dX2_amount_1 ?_
  refine lv_aload_n hx hb dX2_amount_4 rfl (lv_at hl 1 rfl) ?_
  obtain ⟨v2, hv2, hf⟩ := x_ob hf
  refine xr_getR (ci := 4) (k := 6) S G hv2 rfl kw_331 dX2_amount_5 ?_
  refine lv_iload_n hx hb dX2_amount_8 rfl (lv_at hl 3 rfl) ?_
  obtain ⟨v3, hv3, hf⟩ := x_ob hf
  refine xr_iald S G hv3 dX2_amount_9 ?_
  obtain ⟨z4, hz4, hf⟩ := x_ob hf
  obtain ⟨hqz4, hz4⟩ := xon_of hz4
  refine xr_callV (ci := 3) (As := [.int v3]) (rest := []) (st1 := [.int z4.1]) S G hl.1 (fun _ => rfl) (mt_X3_benchOn l D cid b ex sa sv B0 sh v1 v3 d _ _ hz4) hqz4 (by decide) kw_843 kw_625 kw_626 kw_2 kw_627 hd_X3_benchOn ⟨Nat.le_of_ble_eq_true rfl, Nat.le_of_ble_eq_true rfl⟩ rfl rfl rfl (Nat.le_of_ble_eq_true rfl) ⟨Nat.le_of_ble_eq_true rfl, Nat.le_of_ble_eq_true rfl⟩ dX2_amount_10 (fun H locs G => ?_)
  refine lv_istore (lv' := [(4, .int z4.1), (0, .ref (b + q0)), (1, .ref (b + q1)), (2, .int x2), (3, .int x3)]) hx hb dX2_amount_13 hl (by decide) rfl (fun ls hl => ?_)
  refine lv_iload hx hb dX2_amount_15 (lv_at hl 0 rfl) ?_
  refine lv_iconst (v := (-1 : Int32)) hx hb dX2_amount_17 (by decide) ?_
  refine lv_icmp_ne (tgt := 27) hx hb dX2_amount_18 (by decide) (fun c => ?_) (fun c => ?_)
  · have hf := x_neg c hf
    refine lv_aload_n hx hb dX2_amount_27 rfl (lv_at hl 1 rfl) ?_
    refine lv_aload_n hx hb dX2_amount_28 rfl (lv_at hl 2 rfl) ?_
    refine lv_iload_n hx hb dX2_amount_29 rfl (lv_at hl 3 rfl) ?_
    refine lv_iload_n hx hb dX2_amount_30 rfl (lv_at hl 4 rfl) ?_
    refine lv_iload hx hb dX2_amount_31 (lv_at hl 0 rfl) ?_
    obtain ⟨z5, hz5, hf⟩ := x_ob hf
    obtain ⟨hqz5, hz5⟩ := xon_of hz5
    refine xr_callV (ci := 2) (As := [.ref (b + q1), .int x2, .int x3, .int z4.1]) (rest := []) (st1 := [.long z5.1]) S G hl.1 (fun _ => rfl) (mt_X2_worth l D cid b ex sa sv B0 sh q0 q1 x2 x3 z4.1 z4.2 _ _ hz5) hqz5 (by decide) kw_854 kw_764 kw_765 kw_13 kw_766 hd_X2_worth ⟨Nat.le_of_ble_eq_true rfl, Nat.le_of_ble_eq_true rfl⟩ rfl rfl rfl (Nat.le_of_ble_eq_true rfl) ⟨Nat.le_of_ble_eq_true rfl, Nat.le_of_ble_eq_true rfl⟩ dX2_amount_33 (fun H locs G => ?_)
    exact K36 z5.1 z5.2 hf _ _ ls (lv_sub hl [] rfl) G
  · have hf := x_pos c hf
    refine lv_ldc2 (v := (-9223372036854775808 : Int64)) hx hb hown (hts _ kw_771) dX2_amount_21 ?_
    refine lv_goto (tgt := 36) hx hb dX2_amount_24 (by decide) ?_
    exact K36 (-9223372036854775808 : Int64) z4.2 hf _ _ ls (lv_sub hl [] rfl) G
-- HalfLandings$Minutes.talkByTwo(LHalfLandings$Scene;)V
theorem dX2_talkByTwo_0 : decode cX2_talkByTwo 0 = .ok (.iconst 0, 1) := by decide +kernel
theorem dX2_talkByTwo_1 : decode cX2_talkByTwo 1 = .ok (.istore_n 2, 1) := by decide +kernel
theorem dX2_talkByTwo_2 : decode cX2_talkByTwo 2 = .ok (.iload_n 2, 1) := by decide +kernel
theorem dX2_talkByTwo_3 : decode cX2_talkByTwo 3 = .ok (.aload_n 0, 1) := by decide +kernel
theorem dX2_talkByTwo_4 : decode cX2_talkByTwo 4 = .ok (.getfield 17, 3) := by decide +kernel
theorem dX2_talkByTwo_7 : decode cX2_talkByTwo 7 = .ok (.getfield 31, 3) := by decide +kernel
theorem dX2_talkByTwo_10 : decode cX2_talkByTwo 10 = .ok (.if_icmp .ge 88, 3) := by decide +kernel
theorem dX2_talkByTwo_13 : decode cX2_talkByTwo 13 = .ok (.iload_n 2, 1) := by decide +kernel
theorem dX2_talkByTwo_14 : decode cX2_talkByTwo 14 = .ok (.iconst 1, 1) := by decide +kernel
theorem dX2_talkByTwo_15 : decode cX2_talkByTwo 15 = .ok (.iadd, 1) := by decide +kernel
theorem dX2_talkByTwo_16 : decode cX2_talkByTwo 16 = .ok (.istore_n 3, 1) := by decide +kernel
theorem dX2_talkByTwo_17 : decode cX2_talkByTwo 17 = .ok (.iload_n 3, 1) := by decide +kernel
theorem dX2_talkByTwo_18 : decode cX2_talkByTwo 18 = .ok (.aload_n 0, 1) := by decide +kernel
theorem dX2_talkByTwo_19 : decode cX2_talkByTwo 19 = .ok (.getfield 17, 3) := by decide +kernel
theorem dX2_talkByTwo_22 : decode cX2_talkByTwo 22 = .ok (.getfield 31, 3) := by decide +kernel
theorem dX2_talkByTwo_25 : decode cX2_talkByTwo 25 = .ok (.if_icmp .ge 67, 3) := by decide +kernel
theorem dX2_talkByTwo_28 : decode cX2_talkByTwo 28 = .ok (.aload_n 1, 1) := by decide +kernel
theorem dX2_talkByTwo_29 : decode cX2_talkByTwo 29 = .ok (.iload_n 2, 1) := by decide +kernel
theorem dX2_talkByTwo_30 : decode cX2_talkByTwo 30 = .ok (.iload_n 3, 1) := by decide +kernel
theorem dX2_talkByTwo_31 : decode cX2_talkByTwo 31 = .ok (.invokestatic 112, 3) := by decide +kernel
theorem dX2_talkByTwo_34 : decode cX2_talkByTwo 34 = .ok (.ifCond .eq 52, 3) := by decide +kernel
theorem dX2_talkByTwo_37 : decode cX2_talkByTwo 37 = .ok (.aload_n 0, 1) := by decide +kernel
theorem dX2_talkByTwo_38 : decode cX2_talkByTwo 38 = .ok (.aload_n 1, 1) := by decide +kernel
theorem dX2_talkByTwo_39 : decode cX2_talkByTwo 39 = .ok (.iconst 1, 1) := by decide +kernel
theorem dX2_talkByTwo_40 : decode cX2_talkByTwo 40 = .ok (.iload_n 2, 1) := by decide +kernel
theorem dX2_talkByTwo_41 : decode cX2_talkByTwo 41 = .ok (.invokevirtual 115, 3) := by decide +kernel
theorem dX2_talkByTwo_44 : decode cX2_talkByTwo 44 = .ok (.istore 4, 2) := by decide +kernel
theorem dX2_talkByTwo_46 : decode cX2_talkByTwo 46 = .ok (.aload_n 1, 1) := by decide +kernel
theorem dX2_talkByTwo_47 : decode cX2_talkByTwo 47 = .ok (.aload_n 1, 1) := by decide +kernel
theorem dX2_talkByTwo_48 : decode cX2_talkByTwo 48 = .ok (.getfield 21, 3) := by decide +kernel
theorem dX2_talkByTwo_51 : decode cX2_talkByTwo 51 = .ok (.iload 4, 2) := by decide +kernel
theorem dX2_talkByTwo_53 : decode cX2_talkByTwo 53 = .ok (.iadd, 1) := by decide +kernel
theorem dX2_talkByTwo_54 : decode cX2_talkByTwo 54 = .ok (.ldc 119, 2) := by decide +kernel
theorem dX2_talkByTwo_56 : decode cX2_talkByTwo 56 = .ok (.invokestatic 120, 3) := by decide +kernel
theorem dX2_talkByTwo_59 : decode cX2_talkByTwo 59 = .ok (.putfield 21, 3) := by decide +kernel
theorem dX2_talkByTwo_62 : decode cX2_talkByTwo 62 = .ok (.aload_n 1, 1) := by decide +kernel
theorem dX2_talkByTwo_63 : decode cX2_talkByTwo 63 = .ok (.getfield 125, 3) := by decide +kernel
theorem dX2_talkByTwo_66 : decode cX2_talkByTwo 66 = .ok (.iload_n 2, 1) := by decide +kernel
theorem dX2_talkByTwo_67 : decode cX2_talkByTwo 67 = .ok (.dup2, 1) := by decide +kernel
theorem dX2_talkByTwo_68 : decode cX2_talkByTwo 68 = .ok (.iaload, 1) := by decide +kernel
theorem dX2_talkByTwo_69 : decode cX2_talkByTwo 69 = .ok (.iconst 1, 1) := by decide +kernel
theorem dX2_talkByTwo_70 : decode cX2_talkByTwo 70 = .ok (.iload_n 3, 1) := by decide +kernel
theorem dX2_talkByTwo_71 : decode cX2_talkByTwo 71 = .ok (.ishl, 1) := by decide +kernel
theorem dX2_talkByTwo_72 : decode cX2_talkByTwo 72 = .ok (.ior, 1) := by decide +kernel
theorem dX2_talkByTwo_73 : decode cX2_talkByTwo 73 = .ok (.iastore, 1) := by decide +kernel
theorem dX2_talkByTwo_74 : decode cX2_talkByTwo 74 = .ok (.aload_n 1, 1) := by decide +kernel
theorem dX2_talkByTwo_75 : decode cX2_talkByTwo 75 = .ok (.getfield 125, 3) := by decide +kernel
theorem dX2_talkByTwo_78 : decode cX2_talkByTwo 78 = .ok (.iload_n 3, 1) := by decide +kernel
theorem dX2_talkByTwo_79 : decode cX2_talkByTwo 79 = .ok (.dup2, 1) := by decide +kernel
theorem dX2_talkByTwo_80 : decode cX2_talkByTwo 80 = .ok (.iaload, 1) := by decide +kernel
theorem dX2_talkByTwo_81 : decode cX2_talkByTwo 81 = .ok (.iconst 1, 1) := by decide +kernel
theorem dX2_talkByTwo_82 : decode cX2_talkByTwo 82 = .ok (.iload_n 2, 1) := by decide +kernel
theorem dX2_talkByTwo_83 : decode cX2_talkByTwo 83 = .ok (.ishl, 1) := by decide +kernel
theorem dX2_talkByTwo_84 : decode cX2_talkByTwo 84 = .ok (.ior, 1) := by decide +kernel
theorem dX2_talkByTwo_85 : decode cX2_talkByTwo 85 = .ok (.iastore, 1) := by decide +kernel
theorem dX2_talkByTwo_86 : decode cX2_talkByTwo 86 = .ok (.iinc 3 1, 3) := by decide +kernel
theorem dX2_talkByTwo_89 : decode cX2_talkByTwo 89 = .ok (.goto (-72), 3) := by decide +kernel
theorem dX2_talkByTwo_92 : decode cX2_talkByTwo 92 = .ok (.iinc 2 1, 3) := by decide +kernel
theorem dX2_talkByTwo_95 : decode cX2_talkByTwo 95 = .ok (.goto (-93), 3) := by decide +kernel
theorem dX2_talkByTwo_98 : decode cX2_talkByTwo 98 = .ok (.return_, 1) := by decide +kernel
theorem hd_X2_talkByTwo : yX2_talkByTwo.cls = xCn 2 ∧ yX2_talkByTwo.cls ≠ "java/lang/invoke/MethodHandle" ∧ yX2_talkByTwo.cls ≠ "java/lang/invoke/VarHandle" ∧ (parseMethodDescriptor yX2_talkByTwo.desc).map (fun d => d.parameters.length) = some 1 := by decide +kernel
def k_X2_talkByTwo_98 (sh : List xSh) (d : xD) : Option xD :=
  some d
def k_X2_talkByTwo_92 (sh : List xSh) (rec2 : Nat → Nat → Int32 → xD → Option xD) (q0 : Nat) (q1 : Nat) (x2 : Int32) (d : xD) : Option xD :=
  rec2 q0 q1 (x2 + 1) d
def k_X2_talkByTwo_86 (sh : List xSh) (rec2 : Nat → Nat → Int32 → xD → Option xD) (rec17 : Nat → Nat → Int32 → Int32 → xD → Option xD) (q0 : Nat) (q1 : Nat) (x2 : Int32) (x3 : Int32) (d : xD) : Option xD :=
  rec17 q0 q1 x2 (x3 + 1) d
def b_X2_talkByTwo_17 (sh : List xSh) (rec2 : Nat → Nat → Int32 → xD → Option xD) (rec17 : Nat → Nat → Int32 → Int32 → xD → Option xD) (q0 : Nat) (q1 : Nat) (x2 : Int32) (x3 : Int32) (d : xD) : Option xD :=
  (xgR 2 sh d q0 0).bind fun v1 => (xgI 3 sh d v1 9).bind fun v2 => if v2 ≤ x3 then (k_X2_talkByTwo_92 sh rec2 q0 q1 x2 d) else ((f_X2_sitTogether sh q1 x2 x3 d).bind fun z3 => if z3.1 = 0 then (k_X2_talkByTwo_86 sh rec2 rec17 q0 q1 x2 x3 z3.2) else ((xon 2 sh q0 (f_X2_amount sh q0 q1 (1 : Int32) x2 z3.2)).bind fun z4 => (xgI 4 sh z4.2 q1 1).bind fun v5 => (xpI 4 sh z4.2 q1 1 (if (99999 : Int32) < (v5 + z4.1) then (99999 : Int32) else (v5 + z4.1))).bind fun d6 => (xgR 4 sh d6 q1 11).bind fun v7 => (xaI .int sh d6 v7 x2).bind fun v8 => (xsI .int sh d6 v7 x2 (v8 ||| ((1 : Int32) <<< (x3 &&& 31)))).bind fun d9 => (xgR 4 sh d9 q1 11).bind fun v10 => (xaI .int sh d9 v10 x3).bind fun v11 => (xsI .int sh d9 v10 x3 (v11 ||| ((1 : Int32) <<< (x2 &&& 31)))).bind fun d12 => k_X2_talkByTwo_86 sh rec2 rec17 q0 q1 x2 x3 d12))
def b_X2_talkByTwo_2 (sh : List xSh) (rec2 : Nat → Nat → Int32 → xD → Option xD) (q0 : Nat) (q1 : Nat) (x2 : Int32) (d : xD) : Option xD :=
  (xgR 2 sh d q0 0).bind fun v13 => (xgI 3 sh d v13 9).bind fun v14 => if v14 ≤ x2 then (k_X2_talkByTwo_98 sh d) else (xloop (fun _ _ _ _ _ => none) (b_X2_talkByTwo_17 sh rec2) xF q0 q1 x2 (x2 + (1 : Int32)) d)
def f_X2_talkByTwo (sh : List xSh) (q0 : Nat) (q1 : Nat) (d : xD) : Option xD :=
  xloop (fun _ _ _ _ => none) (b_X2_talkByTwo_2 sh) xF q0 q1 (0 : Int32) d
set_option maxHeartbeats 4000000 in
set_option maxRecDepth 100000 in
theorem mt_X2_talkByTwo (l : Launch) (D : va_G) (cid : FieldType → ClassId) (b : Nat) (ex : Bool) (sa sv B0 : Nat) (sh : List xSh) (q0 : Nat) (q1 : Nat) (d : xD) (dz : xD) (hf : f_X2_talkByTwo sh q0 q1 d = some dz) : xMet l yX2_talkByTwo cX2_talkByTwo 5 none 4 0 0 D cid b ex sa sv B0 [.ref (b + q0), .ref (b + q1)] sh d none sh dz := by
  refine xMet.of (by decide) (Nat.le_of_ble_eq_true rfl) ?_
  intro p e s m below meth c ls A S hr hin G hl
  have hl : lv_has ls 5 [(0, .ref (b + q0)), (1, .ref (b + q1))] := hl
  generalize ([.ref (b + q0), .ref (b + q1)] : List Value).toArray = av at S ⊢
  have hx := S.1
  have hb := S.2.1
  have hml := S.2.2.1
  have hown := S.2.2.2.1
  have hts := S.2.2.2.2.1
  have K98 : ∀ (d : xD), k_X2_talkByTwo_98 sh d = some dz → ∀ (H : Heap) (locs : List Loc) (ls : Array Slot), lv_has ls 5 [] → xG D cid b A sh d s H locs → W p l e (xRm 4 0 0) s m av below meth c H locs 0 0 (MQ below (xQ D cid b ex A none sh dz) av s 0 0 A) (F0 m 98 ls []) := by
    intro d hf H locs ls hl G
    unfold k_X2_talkByTwo_98 at hf
    cases hf
    exact xr_vret S G (fun _ => rfl) hr dX2_talkByTwo_98
  have K92 : ∀ (rec2 : Nat → Nat → Int32 → xD → Option xD) (hrec2 : ∀ (q0 : Nat) (q1 : Nat) (x2 : Int32) (d : xD), rec2 q0 q1 x2 d = some dz → ∀ (H : Heap) (locs : List Loc) (ls : Array Slot), lv_has ls 5 [(0, .ref (b + q0)), (1, .ref (b + q1)), (2, .int x2)] → xG D cid b A sh d s H locs → W p l e (xRm 4 0 0) s m av below meth c H locs 0 0 (MQ below (xQ D cid b ex A none sh dz) av s 0 0 A) (F0 m 2 ls [])) (q0 : Nat) (q1 : Nat) (x2 : Int32) (d : xD), k_X2_talkByTwo_92 sh rec2 q0 q1 x2 d = some dz → ∀ (H : Heap) (locs : List Loc) (ls : Array Slot), lv_has ls 5 [(0, .ref (b + q0)), (1, .ref (b + q1)), (2, .int x2)] → xG D cid b A sh d s H locs → W p l e (xRm 4 0 0) s m av below meth c H locs 0 0 (MQ below (xQ D cid b ex A none sh dz) av s 0 0 A) (F0 m 92 ls []) := by
    intro rec2 hrec2 q0 q1 x2 d hf H locs ls hl G
    unfold k_X2_talkByTwo_92 at hf
    refine lv_iinc (v := (x2 + 1)) (lv' := [(2, .int (x2 + 1)), (0, .ref (b + q0)), (1, .ref (b + q1))]) hx hb dX2_talkByTwo_92 hl (k := 2) rfl rfl (by decide) rfl (fun ls hl => ?_)
    refine lv_goto (tgt := 2) hx hb dX2_talkByTwo_95 (by decide) ?_
    exact hrec2 q0 q1 (x2 + 1) d hf _ _ ls (lv_sub hl [1, 2, 0] rfl) G
  have K86 : ∀ (rec2 : Nat → Nat → Int32 → xD → Option xD) (hrec2 : ∀ (q0 : Nat) (q1 : Nat) (x2 : Int32) (d : xD), rec2 q0 q1 x2 d = some dz → ∀ (H : Heap) (locs : List Loc) (ls : Array Slot), lv_has ls 5 [(0, .ref (b + q0)), (1, .ref (b + q1)), (2, .int x2)] → xG D cid b A sh d s H locs → W p l e (xRm 4 0 0) s m av below meth c H locs 0 0 (MQ below (xQ D cid b ex A none sh dz) av s 0 0 A) (F0 m 2 ls [])) (rec17 : Nat → Nat → Int32 → Int32 → xD → Option xD) (hrec17 : ∀ (q0 : Nat) (q1 : Nat) (x2 : Int32) (x3 : Int32) (d : xD), rec17 q0 q1 x2 x3 d = some dz → ∀ (H : Heap) (locs : List Loc) (ls : Array Slot), lv_has ls 5 [(0, .ref (b + q0)), (1, .ref (b + q1)), (2, .int x2), (3, .int x3)] → xG D cid b A sh d s H locs → W p l e (xRm 4 0 0) s m av below meth c H locs 0 0 (MQ below (xQ D cid b ex A none sh dz) av s 0 0 A) (F0 m 17 ls [])) (q0 : Nat) (q1 : Nat) (x2 : Int32) (x3 : Int32) (d : xD), k_X2_talkByTwo_86 sh rec2 rec17 q0 q1 x2 x3 d = some dz → ∀ (H : Heap) (locs : List Loc) (ls : Array Slot), lv_has ls 5 [(0, .ref (b + q0)), (1, .ref (b + q1)), (2, .int x2), (3, .int x3)] → xG D cid b A sh d s H locs → W p l e (xRm 4 0 0) s m av below meth c H locs 0 0 (MQ below (xQ D cid b ex A none sh dz) av s 0 0 A) (F0 m 86 ls []) := by
    intro rec2 hrec2 rec17 hrec17 q0 q1 x2 x3 d hf H locs ls hl G
    unfold k_X2_talkByTwo_86 at hf
    refine lv_iinc (v := (x3 + 1)) (lv' := [(3, .int (x3 + 1)), (0, .ref (b + q0)), (1, .ref (b + q1)), (2, .int x2)]) hx hb dX2_talkByTwo_86 hl (k := 3) rfl rfl (by decide) rfl (fun ls hl => ?_)
    refine lv_goto (tgt := 17) hx hb dX2_talkByTwo_89 (by decide) ?_
    exact hrec17 q0 q1 x2 (x3 + 1) d hf _ _ ls (lv_sub hl [1, 2, 3, 0] rfl) G
  have K17 : ∀ (rec2 : Nat → Nat → Int32 → xD → Option xD) (hrec2 : ∀ (q0 : Nat) (q1 : Nat) (x2 : Int32) (d : xD), rec2 q0 q1 x2 d = some dz → ∀ (H : Heap) (locs : List Loc) (ls : Array Slot), lv_has ls 5 [(0, .ref (b + q0)), (1, .ref (b + q1)), (2, .int x2)] → xG D cid b A sh d s H locs → W p l e (xRm 4 0 0) s m av below meth c H locs 0 0 (MQ below (xQ D cid b ex A none sh dz) av s 0 0 A) (F0 m 2 ls [])) (n : Nat) (q0 : Nat) (q1 : Nat) (x2 : Int32) (x3 : Int32) (d : xD), xloop (fun _ _ _ _ _ => none) (b_X2_talkByTwo_17 sh rec2) n q0 q1 x2 x3 d = some dz → ∀ (H : Heap) (locs : List Loc) (ls : Array Slot), lv_has ls 5 [(0, .ref (b + q0)), (1, .ref (b + q1)), (2, .int x2), (3, .int x3)] → xG D cid b A sh d s H locs → W p l e (xRm 4 0 0) s m av below meth c H locs 0 0 (MQ below (xQ D cid b ex A none sh dz) av s 0 0 A) (F0 m 17 ls []) := by
    intro rec2 hrec2 n
    induction n with
    | zero =>
      intro q0 q1 x2 x3 d hf
      have hf : (none : Option xD) = some dz := hf
      cases hf
    | succ n hrec17 =>
      intro q0 q1 x2 x3 d hf H locs ls hl G
      have hf : b_X2_talkByTwo_17 sh rec2 (xloop (fun _ _ _ _ _ => none) (b_X2_talkByTwo_17 sh rec2) n) q0 q1 x2 x3 d = some dz := hf
      unfold b_X2_talkByTwo_17 at hf
      refine lv_iload_n hx hb dX2_talkByTwo_17 rfl (lv_at hl 3 rfl) ?_
      refine lv_aload_n hx hb dX2_talkByTwo_18 rfl (lv_at hl 0 rfl) ?_
      obtain ⟨v1, hv1, hf⟩ := x_ob hf
      refine xr_getR (ci := 2) (k := 0) S G hv1 rfl kw_410 dX2_talkByTwo_19 ?_
      obtain ⟨v2, hv2, hf⟩ := x_ob hf
      refine xr_getI (ci := 3) (k := 9) S G hv2 rfl kw_104 dX2_talkByTwo_22 ?_
      refine lv_icmp_ge (tgt := 92) hx hb dX2_talkByTwo_25 (by decide) (fun c => ?_) (fun c => ?_)
      · have hf := x_pos c hf
        exact K92 _ hrec2 q0 q1 x2 d hf _ _ ls (lv_sub hl [0, 1, 2] rfl) G
      · have hf := x_neg c hf
        refine lv_aload_n hx hb dX2_talkByTwo_28 rfl (lv_at hl 1 rfl) ?_
        refine lv_iload_n hx hb dX2_talkByTwo_29 rfl (lv_at hl 2 rfl) ?_
        refine lv_iload_n hx hb dX2_talkByTwo_30 rfl (lv_at hl 3 rfl) ?_
        obtain ⟨z3, hz3, hf⟩ := x_ob hf
        refine xr_callS (As := [.ref (b + q1), .int x2, .int x3]) (rest := []) (st1 := [.int z3.1]) S G hl.1 (fun _ => rfl) (mt_X2_sitTogether l D cid b ex sa sv B0 sh q1 x2 x3 d _ _ hz3) kw_863 kw_864 kw_13 kw_865 hd_X2_sitTogether ⟨Nat.le_of_ble_eq_true rfl, Nat.le_of_ble_eq_true rfl⟩ rfl rfl rfl (Nat.le_of_ble_eq_true rfl) ⟨Nat.le_of_ble_eq_true rfl, Nat.le_of_ble_eq_true rfl⟩ dX2_talkByTwo_31 (fun H locs G => ?_)
        refine lv_if_eq (tgt := 86) hx hb dX2_talkByTwo_34 (by decide) (fun c => ?_) (fun c => ?_)
        · have hf := x_pos c hf
          exact K86 _ hrec2 _ hrec17 q0 q1 x2 x3 z3.2 hf _ _ ls (lv_sub hl [0, 1, 2, 3] rfl) G
        · have hf := x_neg c hf
          refine lv_aload_n hx hb dX2_talkByTwo_37 rfl (lv_at hl 0 rfl) ?_
          refine lv_aload_n hx hb dX2_talkByTwo_38 rfl (lv_at hl 1 rfl) ?_
          refine lv_iconst (v := (1 : Int32)) hx hb dX2_talkByTwo_39 (by decide) ?_
          refine lv_iload_n hx hb dX2_talkByTwo_40 rfl (lv_at hl 2 rfl) ?_
          obtain ⟨z4, hz4, hf⟩ := x_ob hf
          obtain ⟨hqz4, hz4⟩ := xon_of hz4
          refine xr_callV (ci := 2) (As := [.ref (b + q1), .int (1 : Int32), .int x2]) (rest := []) (st1 := [.int z4.1]) S G hl.1 (fun _ => rfl) (mt_X2_amount l D cid b ex sa sv B0 sh q0 q1 (1 : Int32) x2 z3.2 _ _ hz4) hqz4 (by decide) kw_866 kw_868 ks_25 kw_13 kw_869 hd_X2_amount ⟨Nat.le_of_ble_eq_true rfl, Nat.le_of_ble_eq_true rfl⟩ rfl rfl rfl (Nat.le_of_ble_eq_true rfl) ⟨Nat.le_of_ble_eq_true rfl, Nat.le_of_ble_eq_true rfl⟩ dX2_talkByTwo_41 (fun H locs G => ?_)
          refine lv_istore (lv' := [(4, .int z4.1), (0, .ref (b + q0)), (1, .ref (b + q1)), (2, .int x2), (3, .int x3)]) hx hb dX2_talkByTwo_44 hl (by decide) rfl (fun ls hl => ?_)
          refine lv_aload_n hx hb dX2_talkByTwo_46 rfl (lv_at hl 2 rfl) ?_
          refine lv_aload_n hx hb dX2_talkByTwo_47 rfl (lv_at hl 2 rfl) ?_
          obtain ⟨v5, hv5, hf⟩ := x_ob hf
          refine xr_getI (ci := 4) (k := 1) S G hv5 rfl kw_317 dX2_talkByTwo_48 ?_
          refine lv_iload hx hb dX2_talkByTwo_51 (lv_at hl 0 rfl) ?_
          refine lv_iadd hx hb dX2_talkByTwo_53 ?_
          refine lv_ldc (v := (99999 : Int32)) hx hb hown (hts _ kw_877) dX2_talkByTwo_54 ?_
          refine va_mmin hx hb (hml.trans hl.1.symm) hown (hts _ kw_878) (hts _ kw_556) (hts _ kw_18) (hts _ kp_mmin) (Nat.le_of_ble_eq_true rfl) (Nat.le_of_ble_eq_true rfl) (Nat.le_refl _) (Nat.le_refl _) dX2_talkByTwo_56 ?_
          obtain ⟨d6, hd6, hf⟩ := x_ob hf
          refine xr_putI (ci := 4) (k := 1) S G hd6 rfl kw_317 dX2_talkByTwo_59 (fun H locs G => ?_)
          refine lv_aload_n hx hb dX2_talkByTwo_62 rfl (lv_at hl 2 rfl) ?_
          obtain ⟨v7, hv7, hf⟩ := x_ob hf
          refine xr_getR (ci := 4) (k := 11) S G hv7 rfl kw_346 dX2_talkByTwo_63 ?_
          refine lv_iload_n hx hb dX2_talkByTwo_66 rfl (lv_at hl 3 rfl) ?_
          refine lv_dup2_11 hx hb dX2_talkByTwo_67 rfl rfl ?_
          obtain ⟨v8, hv8, hf⟩ := x_ob hf
          refine xr_iald S G hv8 dX2_talkByTwo_68 ?_
          refine lv_iconst (v := (1 : Int32)) hx hb dX2_talkByTwo_69 (by decide) ?_
          refine lv_iload_n hx hb dX2_talkByTwo_70 rfl (lv_at hl 4 rfl) ?_
          refine lv_ishl hx hb dX2_talkByTwo_71 ?_
          refine lv_ior hx hb dX2_talkByTwo_72 ?_
          obtain ⟨d9, hd9, hf⟩ := x_ob hf
          refine xr_iast S G hd9 dX2_talkByTwo_73 (fun H locs G => ?_)
          refine lv_aload_n hx hb dX2_talkByTwo_74 rfl (lv_at hl 2 rfl) ?_
          obtain ⟨v10, hv10, hf⟩ := x_ob hf
          refine xr_getR (ci := 4) (k := 11) S G hv10 rfl kw_346 dX2_talkByTwo_75 ?_
          refine lv_iload_n hx hb dX2_talkByTwo_78 rfl (lv_at hl 4 rfl) ?_
          refine lv_dup2_11 hx hb dX2_talkByTwo_79 rfl rfl ?_
          obtain ⟨v11, hv11, hf⟩ := x_ob hf
          refine xr_iald S G hv11 dX2_talkByTwo_80 ?_
          refine lv_iconst (v := (1 : Int32)) hx hb dX2_talkByTwo_81 (by decide) ?_
          refine lv_iload_n hx hb dX2_talkByTwo_82 rfl (lv_at hl 3 rfl) ?_
          refine lv_ishl hx hb dX2_talkByTwo_83 ?_
          refine lv_ior hx hb dX2_talkByTwo_84 ?_
          obtain ⟨d12, hd12, hf⟩ := x_ob hf
          refine xr_iast S G hd12 dX2_talkByTwo_85 (fun H locs G => ?_)
          exact K86 _ hrec2 _ hrec17 q0 q1 x2 x3 d12 hf _ _ ls (lv_sub hl [1, 2, 3, 4] rfl) G
  have K2 : ∀ (n : Nat) (q0 : Nat) (q1 : Nat) (x2 : Int32) (d : xD), xloop (fun _ _ _ _ => none) (b_X2_talkByTwo_2 sh) n q0 q1 x2 d = some dz → ∀ (H : Heap) (locs : List Loc) (ls : Array Slot), lv_has ls 5 [(0, .ref (b + q0)), (1, .ref (b + q1)), (2, .int x2)] → xG D cid b A sh d s H locs → W p l e (xRm 4 0 0) s m av below meth c H locs 0 0 (MQ below (xQ D cid b ex A none sh dz) av s 0 0 A) (F0 m 2 ls []) := by
    intro n
    induction n with
    | zero =>
      intro q0 q1 x2 d hf
      have hf : (none : Option xD) = some dz := hf
      cases hf
    | succ n hrec2 =>
      intro q0 q1 x2 d hf H locs ls hl G
      have hf : b_X2_talkByTwo_2 sh (xloop (fun _ _ _ _ => none) (b_X2_talkByTwo_2 sh) n) q0 q1 x2 d = some dz := hf
      unfold b_X2_talkByTwo_2 at hf
      refine lv_iload_n hx hb dX2_talkByTwo_2 rfl (lv_at hl 2 rfl) ?_
      refine lv_aload_n hx hb dX2_talkByTwo_3 rfl (lv_at hl 0 rfl) ?_
      obtain ⟨v13, hv13, hf⟩ := x_ob hf
      refine xr_getR (ci := 2) (k := 0) S G hv13 rfl kw_410 dX2_talkByTwo_4 ?_
      obtain ⟨v14, hv14, hf⟩ := x_ob hf
      refine xr_getI (ci := 3) (k := 9) S G hv14 rfl kw_104 dX2_talkByTwo_7 ?_
      refine lv_icmp_ge (tgt := 98) hx hb dX2_talkByTwo_10 (by decide) (fun c => ?_) (fun c => ?_)
      · have hf := x_pos c hf
        exact K98 d hf _ _ ls (lv_sub hl [] rfl) G
      · have hf := x_neg c hf
        refine lv_iload_n hx hb dX2_talkByTwo_13 rfl (lv_at hl 2 rfl) ?_
        refine lv_iconst (v := (1 : Int32)) hx hb dX2_talkByTwo_14 (by decide) ?_
        refine lv_iadd hx hb dX2_talkByTwo_15 ?_
        refine lv_istore_n (lv' := [(3, .int (x2 + (1 : Int32))), (0, .ref (b + q0)), (1, .ref (b + q1)), (2, .int x2)]) hx hb dX2_talkByTwo_16 rfl hl (by decide) rfl (fun ls hl => ?_)
        exact K17 _ hrec2 xF q0 q1 x2 (x2 + (1 : Int32)) d hf _ _ ls (lv_sub hl [1, 2, 3, 0] rfl) G
  unfold f_X2_talkByTwo at hf
  refine lv_iconst (v := (0 : Int32)) hx hb dX2_talkByTwo_0 (by decide) ?_
  refine lv_istore_n (lv' := [(2, .int (0 : Int32)), (0, .ref (b + q0)), (1, .ref (b + q1))]) hx hb dX2_talkByTwo_1 rfl hl (by decide) rfl (fun ls hl => ?_)
  exact K2 xF q0 q1 (0 : Int32) d hf _ _ ls (lv_sub hl [1, 2, 0] rfl) G
-- HalfLandings$Minutes.wearBenches(LHalfLandings$Scene;)V
theorem dX2_wearBenches_0 : decode cX2_wearBenches 0 = .ok (.iconst 0, 1) := by decide +kernel
theorem dX2_wearBenches_1 : decode cX2_wearBenches 1 = .ok (.istore_n 2, 1) := by decide +kernel
theorem dX2_wearBenches_2 : decode cX2_wearBenches 2 = .ok (.iload_n 2, 1) := by decide +kernel
theorem dX2_wearBenches_3 : decode cX2_wearBenches 3 = .ok (.aload_n 0, 1) := by decide +kernel
theorem dX2_wearBenches_4 : decode cX2_wearBenches 4 = .ok (.getfield 17, 3) := by decide +kernel
theorem dX2_wearBenches_7 : decode cX2_wearBenches 7 = .ok (.getfield 31, 3) := by decide +kernel
theorem dX2_wearBenches_10 : decode cX2_wearBenches 10 = .ok (.if_icmp .ge 68, 3) := by decide +kernel
theorem dX2_wearBenches_13 : decode cX2_wearBenches 13 = .ok (.aload_n 0, 1) := by decide +kernel
theorem dX2_wearBenches_14 : decode cX2_wearBenches 14 = .ok (.getfield 17, 3) := by decide +kernel
theorem dX2_wearBenches_17 : decode cX2_wearBenches 17 = .ok (.aload_n 1, 1) := by decide +kernel
theorem dX2_wearBenches_18 : decode cX2_wearBenches 18 = .ok (.getfield 66, 3) := by decide +kernel
theorem dX2_wearBenches_21 : decode cX2_wearBenches 21 = .ok (.iload_n 2, 1) := by decide +kernel
theorem dX2_wearBenches_22 : decode cX2_wearBenches 22 = .ok (.iaload, 1) := by decide +kernel
theorem dX2_wearBenches_23 : decode cX2_wearBenches 23 = .ok (.invokevirtual 78, 3) := by decide +kernel
theorem dX2_wearBenches_26 : decode cX2_wearBenches 26 = .ok (.istore_n 3, 1) := by decide +kernel
theorem dX2_wearBenches_27 : decode cX2_wearBenches 27 = .ok (.aload_n 1, 1) := by decide +kernel
theorem dX2_wearBenches_28 : decode cX2_wearBenches 28 = .ok (.getfield 36, 3) := by decide +kernel
theorem dX2_wearBenches_31 : decode cX2_wearBenches 31 = .ok (.iload_n 2, 1) := by decide +kernel
theorem dX2_wearBenches_32 : decode cX2_wearBenches 32 = .ok (.iaload, 1) := by decide +kernel
theorem dX2_wearBenches_33 : decode cX2_wearBenches 33 = .ok (.iconst 2, 1) := by decide +kernel
theorem dX2_wearBenches_34 : decode cX2_wearBenches 34 = .ok (.if_icmp .ne 38, 3) := by decide +kernel
theorem dX2_wearBenches_37 : decode cX2_wearBenches 37 = .ok (.iload_n 3, 1) := by decide +kernel
theorem dX2_wearBenches_38 : decode cX2_wearBenches 38 = .ok (.iconst (-1), 1) := by decide +kernel
theorem dX2_wearBenches_39 : decode cX2_wearBenches 39 = .ok (.if_icmp .eq 33, 3) := by decide +kernel
theorem dX2_wearBenches_42 : decode cX2_wearBenches 42 = .ok (.aload_n 0, 1) := by decide +kernel
theorem dX2_wearBenches_43 : decode cX2_wearBenches 43 = .ok (.aload_n 1, 1) := by decide +kernel
theorem dX2_wearBenches_44 : decode cX2_wearBenches 44 = .ok (.iconst 2, 1) := by decide +kernel
theorem dX2_wearBenches_45 : decode cX2_wearBenches 45 = .ok (.iload_n 2, 1) := by decide +kernel
theorem dX2_wearBenches_46 : decode cX2_wearBenches 46 = .ok (.invokevirtual 115, 3) := by decide +kernel
theorem dX2_wearBenches_49 : decode cX2_wearBenches 49 = .ok (.istore 4, 2) := by decide +kernel
theorem dX2_wearBenches_51 : decode cX2_wearBenches 51 = .ok (.aload_n 1, 1) := by decide +kernel
theorem dX2_wearBenches_52 : decode cX2_wearBenches 52 = .ok (.getfield 128, 3) := by decide +kernel
theorem dX2_wearBenches_55 : decode cX2_wearBenches 55 = .ok (.iload_n 3, 1) := by decide +kernel
theorem dX2_wearBenches_56 : decode cX2_wearBenches 56 = .ok (.aload_n 1, 1) := by decide +kernel
theorem dX2_wearBenches_57 : decode cX2_wearBenches 57 = .ok (.getfield 128, 3) := by decide +kernel
theorem dX2_wearBenches_60 : decode cX2_wearBenches 60 = .ok (.iload_n 3, 1) := by decide +kernel
theorem dX2_wearBenches_61 : decode cX2_wearBenches 61 = .ok (.iaload, 1) := by decide +kernel
theorem dX2_wearBenches_62 : decode cX2_wearBenches 62 = .ok (.iload 4, 2) := by decide +kernel
theorem dX2_wearBenches_64 : decode cX2_wearBenches 64 = .ok (.iadd, 1) := by decide +kernel
theorem dX2_wearBenches_65 : decode cX2_wearBenches 65 = .ok (.sipush 9999, 3) := by decide +kernel
theorem dX2_wearBenches_68 : decode cX2_wearBenches 68 = .ok (.invokestatic 120, 3) := by decide +kernel
theorem dX2_wearBenches_71 : decode cX2_wearBenches 71 = .ok (.iastore, 1) := by decide +kernel
theorem dX2_wearBenches_72 : decode cX2_wearBenches 72 = .ok (.iinc 2 1, 3) := by decide +kernel
theorem dX2_wearBenches_75 : decode cX2_wearBenches 75 = .ok (.goto (-73), 3) := by decide +kernel
theorem dX2_wearBenches_78 : decode cX2_wearBenches 78 = .ok (.return_, 1) := by decide +kernel
theorem hd_X2_wearBenches : yX2_wearBenches.cls = xCn 2 ∧ yX2_wearBenches.cls ≠ "java/lang/invoke/MethodHandle" ∧ yX2_wearBenches.cls ≠ "java/lang/invoke/VarHandle" ∧ (parseMethodDescriptor yX2_wearBenches.desc).map (fun d => d.parameters.length) = some 1 := by decide +kernel
def k_X2_wearBenches_78 (sh : List xSh) (d : xD) : Option xD :=
  some d
def k_X2_wearBenches_72 (sh : List xSh) (rec2 : Nat → Nat → Int32 → xD → Option xD) (q0 : Nat) (q1 : Nat) (x2 : Int32) (d : xD) : Option xD :=
  rec2 q0 q1 (x2 + 1) d
def b_X2_wearBenches_2 (sh : List xSh) (rec2 : Nat → Nat → Int32 → xD → Option xD) (q0 : Nat) (q1 : Nat) (x2 : Int32) (d : xD) : Option xD :=
  (xgR 2 sh d q0 0).bind fun v1 => (xgI 3 sh d v1 9).bind fun v2 => if v2 ≤ x2 then (k_X2_wearBenches_78 sh d) else ((xgR 2 sh d q0 0).bind fun v3 => (xgR 4 sh d q1 6).bind fun v4 => (xaI .int sh d v4 x2).bind fun v5 => (xon 3 sh v3 (f_X3_benchOn sh v3 v5 d)).bind fun z6 => (xgR 4 sh z6.2 q1 5).bind fun v7 => (xaI .int sh z6.2 v7 x2).bind fun v8 => if v8 = (2 : Int32) then (if z6.1 = (-1 : Int32) then (k_X2_wearBenches_72 sh rec2 q0 q1 x2 z6.2) else ((xon 2 sh q0 (f_X2_amount sh q0 q1 (2 : Int32) x2 z6.2)).bind fun z9 => (xgR 4 sh z9.2 q1 13).bind fun v10 => (xgR 4 sh z9.2 q1 13).bind fun v11 => (xaI .int sh z9.2 v11 z6.1).bind fun v12 => (xsI .int sh z9.2 v10 z6.1 (if (9999 : Int32) < (v12 + z9.1) then (9999 : Int32) else (v12 + z9.1))).bind fun d13 => k_X2_wearBenches_72 sh rec2 q0 q1 x2 d13)) else (k_X2_wearBenches_72 sh rec2 q0 q1 x2 z6.2))
def f_X2_wearBenches (sh : List xSh) (q0 : Nat) (q1 : Nat) (d : xD) : Option xD :=
  xloop (fun _ _ _ _ => none) (b_X2_wearBenches_2 sh) xF q0 q1 (0 : Int32) d
set_option maxHeartbeats 4000000 in
set_option maxRecDepth 100000 in
theorem mt_X2_wearBenches (l : Launch) (D : va_G) (cid : FieldType → ClassId) (b : Nat) (ex : Bool) (sa sv B0 : Nat) (sh : List xSh) (q0 : Nat) (q1 : Nat) (d : xD) (dz : xD) (hf : f_X2_wearBenches sh q0 q1 d = some dz) : xMet l yX2_wearBenches cX2_wearBenches 5 none 4 0 0 D cid b ex sa sv B0 [.ref (b + q0), .ref (b + q1)] sh d none sh dz := by
  refine xMet.of (by decide) (Nat.le_of_ble_eq_true rfl) ?_
  intro p e s m below meth c ls A S hr hin G hl
  have hl : lv_has ls 5 [(0, .ref (b + q0)), (1, .ref (b + q1))] := hl
  generalize ([.ref (b + q0), .ref (b + q1)] : List Value).toArray = av at S ⊢
  have hx := S.1
  have hb := S.2.1
  have hml := S.2.2.1
  have hown := S.2.2.2.1
  have hts := S.2.2.2.2.1
  have K78 : ∀ (d : xD), k_X2_wearBenches_78 sh d = some dz → ∀ (H : Heap) (locs : List Loc) (ls : Array Slot), lv_has ls 5 [] → xG D cid b A sh d s H locs → W p l e (xRm 4 0 0) s m av below meth c H locs 0 0 (MQ below (xQ D cid b ex A none sh dz) av s 0 0 A) (F0 m 78 ls []) := by
    intro d hf H locs ls hl G
    unfold k_X2_wearBenches_78 at hf
    cases hf
    exact xr_vret S G (fun _ => rfl) hr dX2_wearBenches_78
  have K72 : ∀ (rec2 : Nat → Nat → Int32 → xD → Option xD) (hrec2 : ∀ (q0 : Nat) (q1 : Nat) (x2 : Int32) (d : xD), rec2 q0 q1 x2 d = some dz → ∀ (H : Heap) (locs : List Loc) (ls : Array Slot), lv_has ls 5 [(0, .ref (b + q0)), (1, .ref (b + q1)), (2, .int x2)] → xG D cid b A sh d s H locs → W p l e (xRm 4 0 0) s m av below meth c H locs 0 0 (MQ below (xQ D cid b ex A none sh dz) av s 0 0 A) (F0 m 2 ls [])) (q0 : Nat) (q1 : Nat) (x2 : Int32) (d : xD), k_X2_wearBenches_72 sh rec2 q0 q1 x2 d = some dz → ∀ (H : Heap) (locs : List Loc) (ls : Array Slot), lv_has ls 5 [(0, .ref (b + q0)), (1, .ref (b + q1)), (2, .int x2)] → xG D cid b A sh d s H locs → W p l e (xRm 4 0 0) s m av below meth c H locs 0 0 (MQ below (xQ D cid b ex A none sh dz) av s 0 0 A) (F0 m 72 ls []) := by
    intro rec2 hrec2 q0 q1 x2 d hf H locs ls hl G
    unfold k_X2_wearBenches_72 at hf
    refine lv_iinc (v := (x2 + 1)) (lv' := [(2, .int (x2 + 1)), (0, .ref (b + q0)), (1, .ref (b + q1))]) hx hb dX2_wearBenches_72 hl (k := 2) rfl rfl (by decide) rfl (fun ls hl => ?_)
    refine lv_goto (tgt := 2) hx hb dX2_wearBenches_75 (by decide) ?_
    exact hrec2 q0 q1 (x2 + 1) d hf _ _ ls (lv_sub hl [1, 2, 0] rfl) G
  have K2 : ∀ (n : Nat) (q0 : Nat) (q1 : Nat) (x2 : Int32) (d : xD), xloop (fun _ _ _ _ => none) (b_X2_wearBenches_2 sh) n q0 q1 x2 d = some dz → ∀ (H : Heap) (locs : List Loc) (ls : Array Slot), lv_has ls 5 [(0, .ref (b + q0)), (1, .ref (b + q1)), (2, .int x2)] → xG D cid b A sh d s H locs → W p l e (xRm 4 0 0) s m av below meth c H locs 0 0 (MQ below (xQ D cid b ex A none sh dz) av s 0 0 A) (F0 m 2 ls []) := by
    intro n
    induction n with
    | zero =>
      intro q0 q1 x2 d hf
      have hf : (none : Option xD) = some dz := hf
      cases hf
    | succ n hrec2 =>
      intro q0 q1 x2 d hf H locs ls hl G
      have hf : b_X2_wearBenches_2 sh (xloop (fun _ _ _ _ => none) (b_X2_wearBenches_2 sh) n) q0 q1 x2 d = some dz := hf
      unfold b_X2_wearBenches_2 at hf
      refine lv_iload_n hx hb dX2_wearBenches_2 rfl (lv_at hl 2 rfl) ?_
      refine lv_aload_n hx hb dX2_wearBenches_3 rfl (lv_at hl 0 rfl) ?_
      obtain ⟨v1, hv1, hf⟩ := x_ob hf
      refine xr_getR (ci := 2) (k := 0) S G hv1 rfl kw_410 dX2_wearBenches_4 ?_
      obtain ⟨v2, hv2, hf⟩ := x_ob hf
      refine xr_getI (ci := 3) (k := 9) S G hv2 rfl kw_104 dX2_wearBenches_7 ?_
      refine lv_icmp_ge (tgt := 78) hx hb dX2_wearBenches_10 (by decide) (fun c => ?_) (fun c => ?_)
      · have hf := x_pos c hf
        exact K78 d hf _ _ ls (lv_sub hl [] rfl) G
      · have hf := x_neg c hf
        refine lv_aload_n hx hb dX2_wearBenches_13 rfl (lv_at hl 0 rfl) ?_
        obtain ⟨v3, hv3, hf⟩ := x_ob hf
        refine xr_getR (ci := 2) (k := 0) S G hv3 rfl kw_410 dX2_wearBenches_14 ?_
        refine lv_aload_n hx hb dX2_wearBenches_17 rfl (lv_at hl 1 rfl) ?_
        obtain ⟨v4, hv4, hf⟩ := x_ob hf
        refine xr_getR (ci := 4) (k := 6) S G hv4 rfl kw_331 dX2_wearBenches_18 ?_
        refine lv_iload_n hx hb dX2_wearBenches_21 rfl (lv_at hl 2 rfl) ?_
        obtain ⟨v5, hv5, hf⟩ := x_ob hf
        refine xr_iald S G hv5 dX2_wearBenches_22 ?_
        obtain ⟨z6, hz6, hf⟩ := x_ob hf
        obtain ⟨hqz6, hz6⟩ := xon_of hz6
        refine xr_callV (ci := 3) (As := [.int v5]) (rest := []) (st1 := [.int z6.1]) S G hl.1 (fun _ => rfl) (mt_X3_benchOn l D cid b ex sa sv B0 sh v3 v5 d _ _ hz6) hqz6 (by decide) kw_843 kw_625 kw_626 kw_2 kw_627 hd_X3_benchOn ⟨Nat.le_of_ble_eq_true rfl, Nat.le_of_ble_eq_true rfl⟩ rfl rfl rfl (Nat.le_of_ble_eq_true rfl) ⟨Nat.le_of_ble_eq_true rfl, Nat.le_of_ble_eq_true rfl⟩ dX2_wearBenches_23 (fun H locs G => ?_)
        refine lv_istore_n (lv' := [(3, .int z6.1), (0, .ref (b + q0)), (1, .ref (b + q1)), (2, .int x2)]) hx hb dX2_wearBenches_26 rfl hl (by decide) rfl (fun ls hl => ?_)
        refine lv_aload_n hx hb dX2_wearBenches_27 rfl (lv_at hl 2 rfl) ?_
        obtain ⟨v7, hv7, hf⟩ := x_ob hf
        refine xr_getR (ci := 4) (k := 5) S G hv7 rfl kw_328 dX2_wearBenches_28 ?_
        refine lv_iload_n hx hb dX2_wearBenches_31 rfl (lv_at hl 3 rfl) ?_
        obtain ⟨v8, hv8, hf⟩ := x_ob hf
        refine xr_iald S G hv8 dX2_wearBenches_32 ?_
        refine lv_iconst (v := (2 : Int32)) hx hb dX2_wearBenches_33 (by decide) ?_
        refine lv_icmp_ne (tgt := 72) hx hb dX2_wearBenches_34 (by decide) (fun c => ?_) (fun c => ?_)
        · have hf := x_neg c hf
          exact K72 _ hrec2 q0 q1 x2 z6.2 hf _ _ ls (lv_sub hl [1, 2, 3] rfl) G
        · have hf := x_pos c hf
          refine lv_iload_n hx hb dX2_wearBenches_37 rfl (lv_at hl 0 rfl) ?_
          refine lv_iconst (v := (-1 : Int32)) hx hb dX2_wearBenches_38 (by decide) ?_
          refine lv_icmp_eq (tgt := 72) hx hb dX2_wearBenches_39 (by decide) (fun c => ?_) (fun c => ?_)
          · have hf := x_pos c hf
            exact K72 _ hrec2 q0 q1 x2 z6.2 hf _ _ ls (lv_sub hl [1, 2, 3] rfl) G
          · have hf := x_neg c hf
            refine lv_aload_n hx hb dX2_wearBenches_42 rfl (lv_at hl 1 rfl) ?_
            refine lv_aload_n hx hb dX2_wearBenches_43 rfl (lv_at hl 2 rfl) ?_
            refine lv_iconst (v := (2 : Int32)) hx hb dX2_wearBenches_44 (by decide) ?_
            refine lv_iload_n hx hb dX2_wearBenches_45 rfl (lv_at hl 3 rfl) ?_
            obtain ⟨z9, hz9, hf⟩ := x_ob hf
            obtain ⟨hqz9, hz9⟩ := xon_of hz9
            refine xr_callV (ci := 2) (As := [.ref (b + q1), .int (2 : Int32), .int x2]) (rest := []) (st1 := [.int z9.1]) S G hl.1 (fun _ => rfl) (mt_X2_amount l D cid b ex sa sv B0 sh q0 q1 (2 : Int32) x2 z6.2 _ _ hz9) hqz9 (by decide) kw_866 kw_868 ks_25 kw_13 kw_869 hd_X2_amount ⟨Nat.le_of_ble_eq_true rfl, Nat.le_of_ble_eq_true rfl⟩ rfl rfl rfl (Nat.le_of_ble_eq_true rfl) ⟨Nat.le_of_ble_eq_true rfl, Nat.le_of_ble_eq_true rfl⟩ dX2_wearBenches_46 (fun H locs G => ?_)
            refine lv_istore (lv' := [(4, .int z9.1), (3, .int z6.1), (0, .ref (b + q0)), (1, .ref (b + q1)), (2, .int x2)]) hx hb dX2_wearBenches_49 hl (by decide) rfl (fun ls hl => ?_)
            refine lv_aload_n hx hb dX2_wearBenches_51 rfl (lv_at hl 3 rfl) ?_
            obtain ⟨v10, hv10, hf⟩ := x_ob hf
            refine xr_getR (ci := 4) (k := 13) S G hv10 rfl kw_351 dX2_wearBenches_52 ?_
            refine lv_iload_n hx hb dX2_wearBenches_55 rfl (lv_at hl 1 rfl) ?_
            refine lv_aload_n hx hb dX2_wearBenches_56 rfl (lv_at hl 3 rfl) ?_
            obtain ⟨v11, hv11, hf⟩ := x_ob hf
            refine xr_getR (ci := 4) (k := 13) S G hv11 rfl kw_351 dX2_wearBenches_57 ?_
            refine lv_iload_n hx hb dX2_wearBenches_60 rfl (lv_at hl 1 rfl) ?_
            obtain ⟨v12, hv12, hf⟩ := x_ob hf
            refine xr_iald S G hv12 dX2_wearBenches_61 ?_
            refine lv_iload hx hb dX2_wearBenches_62 (lv_at hl 0 rfl) ?_
            refine lv_iadd hx hb dX2_wearBenches_64 ?_
            refine lv_sipush (v := (9999 : Int32)) hx hb dX2_wearBenches_65 (by decide) ?_
            refine va_mmin hx hb (hml.trans hl.1.symm) hown (hts _ kw_878) (hts _ kw_556) (hts _ kw_18) (hts _ kp_mmin) (Nat.le_of_ble_eq_true rfl) (Nat.le_of_ble_eq_true rfl) (Nat.le_refl _) (Nat.le_refl _) dX2_wearBenches_68 ?_
            obtain ⟨d13, hd13, hf⟩ := x_ob hf
            refine xr_iast S G hd13 dX2_wearBenches_71 (fun H locs G => ?_)
            exact K72 _ hrec2 q0 q1 x2 d13 hf _ _ ls (lv_sub hl [2, 3, 4] rfl) G
  unfold f_X2_wearBenches at hf
  refine lv_iconst (v := (0 : Int32)) hx hb dX2_wearBenches_0 (by decide) ?_
  refine lv_istore_n (lv' := [(2, .int (0 : Int32)), (0, .ref (b + q0)), (1, .ref (b + q1))]) hx hb dX2_wearBenches_1 rfl hl (by decide) rfl (fun ls hl => ?_)
  exact K2 xF q0 q1 (0 : Int32) d hf _ _ ls (lv_sub hl [1, 2, 0] rfl) G
-- HalfLandings$Minutes.isCalled(LHalfLandings$Scene;I)Z
theorem dX2_isCalled_0 : decode cX2_isCalled 0 = .ok (.iload_n 2, 1) := by decide +kernel
theorem dX2_isCalled_1 : decode cX2_isCalled 1 = .ok (.iconst 1, 1) := by decide +kernel
theorem dX2_isCalled_2 : decode cX2_isCalled 2 = .ok (.if_icmp .eq 13, 3) := by decide +kernel
theorem dX2_isCalled_5 : decode cX2_isCalled 5 = .ok (.aload_n 0, 1) := by decide +kernel
theorem dX2_isCalled_6 : decode cX2_isCalled 6 = .ok (.getfield 17, 3) := by decide +kernel
theorem dX2_isCalled_9 : decode cX2_isCalled 9 = .ok (.getfield 145, 3) := by decide +kernel
theorem dX2_isCalled_12 : decode cX2_isCalled 12 = .ok (.ifCond .ne 5, 3) := by decide +kernel
theorem dX2_isCalled_15 : decode cX2_isCalled 15 = .ok (.iconst 0, 1) := by decide +kernel
theorem dX2_isCalled_16 : decode cX2_isCalled 16 = .ok (.ireturn, 1) := by decide +kernel
theorem dX2_isCalled_17 : decode cX2_isCalled 17 = .ok (.iload_n 2, 1) := by decide +kernel
theorem dX2_isCalled_18 : decode cX2_isCalled 18 = .ok (.ifCond .ne 21, 3) := by decide +kernel
theorem dX2_isCalled_21 : decode cX2_isCalled 21 = .ok (.aload_n 0, 1) := by decide +kernel
theorem dX2_isCalled_22 : decode cX2_isCalled 22 = .ok (.getfield 17, 3) := by decide +kernel
theorem dX2_isCalled_25 : decode cX2_isCalled 25 = .ok (.getfield 145, 3) := by decide +kernel
theorem dX2_isCalled_28 : decode cX2_isCalled 28 = .ok (.bipush 50, 2) := by decide +kernel
theorem dX2_isCalled_30 : decode cX2_isCalled 30 = .ok (.if_icmp .lt 7, 3) := by decide +kernel
theorem dX2_isCalled_33 : decode cX2_isCalled 33 = .ok (.iconst 1, 1) := by decide +kernel
theorem dX2_isCalled_34 : decode cX2_isCalled 34 = .ok (.goto 4, 3) := by decide +kernel
theorem dX2_isCalled_37 : decode cX2_isCalled 37 = .ok (.iconst 0, 1) := by decide +kernel
theorem dX2_isCalled_38 : decode cX2_isCalled 38 = .ok (.ireturn, 1) := by decide +kernel
theorem dX2_isCalled_39 : decode cX2_isCalled 39 = .ok (.aload_n 0, 1) := by decide +kernel
theorem dX2_isCalled_40 : decode cX2_isCalled 40 = .ok (.getfield 17, 3) := by decide +kernel
theorem dX2_isCalled_43 : decode cX2_isCalled 43 = .ok (.getfield 145, 3) := by decide +kernel
theorem dX2_isCalled_46 : decode cX2_isCalled 46 = .ok (.bipush 100, 2) := by decide +kernel
theorem dX2_isCalled_48 : decode cX2_isCalled 48 = .ok (.if_icmp .ne 5, 3) := by decide +kernel
theorem dX2_isCalled_51 : decode cX2_isCalled 51 = .ok (.iconst 1, 1) := by decide +kernel
theorem dX2_isCalled_52 : decode cX2_isCalled 52 = .ok (.ireturn, 1) := by decide +kernel
theorem dX2_isCalled_53 : decode cX2_isCalled 53 = .ok (.aload_n 1, 1) := by decide +kernel
theorem dX2_isCalled_54 : decode cX2_isCalled 54 = .ok (.aload_n 1, 1) := by decide +kernel
theorem dX2_isCalled_55 : decode cX2_isCalled 55 = .ok (.getfield 148, 3) := by decide +kernel
theorem dX2_isCalled_58 : decode cX2_isCalled 58 = .ok (.ldc2_w 152, 3) := by decide +kernel
theorem dX2_isCalled_61 : decode cX2_isCalled 61 = .ok (.lmul, 1) := by decide +kernel
theorem dX2_isCalled_62 : decode cX2_isCalled 62 = .ok (.ldc2_w 154, 3) := by decide +kernel
theorem dX2_isCalled_65 : decode cX2_isCalled 65 = .ok (.ladd, 1) := by decide +kernel
theorem dX2_isCalled_66 : decode cX2_isCalled 66 = .ok (.ldc2_w 156, 3) := by decide +kernel
theorem dX2_isCalled_69 : decode cX2_isCalled 69 = .ok (.land, 1) := by decide +kernel
theorem dX2_isCalled_70 : decode cX2_isCalled 70 = .ok (.putfield 148, 3) := by decide +kernel
theorem dX2_isCalled_73 : decode cX2_isCalled 73 = .ok (.aload_n 1, 1) := by decide +kernel
theorem dX2_isCalled_74 : decode cX2_isCalled 74 = .ok (.getfield 148, 3) := by decide +kernel
theorem dX2_isCalled_77 : decode cX2_isCalled 77 = .ok (.ldc2_w 158, 3) := by decide +kernel
theorem dX2_isCalled_80 : decode cX2_isCalled 80 = .ok (.ldiv, 1) := by decide +kernel
theorem dX2_isCalled_81 : decode cX2_isCalled 81 = .ok (.ldc2_w 160, 3) := by decide +kernel
theorem dX2_isCalled_84 : decode cX2_isCalled 84 = .ok (.lrem, 1) := by decide +kernel
theorem dX2_isCalled_85 : decode cX2_isCalled 85 = .ok (.aload_n 0, 1) := by decide +kernel
theorem dX2_isCalled_86 : decode cX2_isCalled 86 = .ok (.getfield 17, 3) := by decide +kernel
theorem dX2_isCalled_89 : decode cX2_isCalled 89 = .ok (.getfield 145, 3) := by decide +kernel
theorem dX2_isCalled_92 : decode cX2_isCalled 92 = .ok (.i2l, 1) := by decide +kernel
theorem dX2_isCalled_93 : decode cX2_isCalled 93 = .ok (.lcmp, 1) := by decide +kernel
theorem dX2_isCalled_94 : decode cX2_isCalled 94 = .ok (.ifCond .ge 7, 3) := by decide +kernel
theorem dX2_isCalled_97 : decode cX2_isCalled 97 = .ok (.iconst 1, 1) := by decide +kernel
theorem dX2_isCalled_98 : decode cX2_isCalled 98 = .ok (.goto 4, 3) := by decide +kernel
theorem dX2_isCalled_101 : decode cX2_isCalled 101 = .ok (.iconst 0, 1) := by decide +kernel
theorem dX2_isCalled_102 : decode cX2_isCalled 102 = .ok (.ireturn, 1) := by decide +kernel
theorem hd_X2_isCalled : yX2_isCalled.cls = xCn 2 ∧ yX2_isCalled.cls ≠ "java/lang/invoke/MethodHandle" ∧ yX2_isCalled.cls ≠ "java/lang/invoke/VarHandle" ∧ (parseMethodDescriptor yX2_isCalled.desc).map (fun d => d.parameters.length) = some 2 := by decide +kernel
def k_X2_isCalled_15 (sh : List xSh) (d : xD) : Option (Int32 × xD) :=
  some ((0 : Int32), d)
def k_X2_isCalled_102 (sh : List xSh) (y0 : Int32) (d : xD) : Option (Int32 × xD) :=
  (xz y0).bind fun v1 => some (v1, d)
def k_X2_isCalled_38 (sh : List xSh) (y0 : Int32) (d : xD) : Option (Int32 × xD) :=
  (xz y0).bind fun v2 => some (v2, d)
def f_X2_isCalled (sh : List xSh) (q0 : Nat) (q1 : Nat) (x2 : Int32) (d : xD) : Option (Int32 × xD) :=
  if x2 = (1 : Int32) then (k_X2_isCalled_15 sh d) else ((xgR 2 sh d q0 0).bind fun v3 => (xgI 3 sh d v3 2).bind fun v4 => if v4 = 0 then (k_X2_isCalled_15 sh d) else (if x2 = 0 then ((xgR 2 sh d q0 0).bind fun v14 => (xgI 3 sh d v14 2).bind fun v15 => if v15 < (50 : Int32) then (k_X2_isCalled_38 sh (0 : Int32) d) else (k_X2_isCalled_38 sh (1 : Int32) d)) else ((xgR 2 sh d q0 0).bind fun v5 => (xgI 3 sh d v5 2).bind fun v6 => if v6 = (100 : Int32) then (some ((1 : Int32), d)) else ((xgL 4 sh d q1 3).bind fun v7 => (xpL 4 sh d q1 3 (((v7 * (1103515245 : Int64)) + (12345 : Int64)) &&& (2147483647 : Int64))).bind fun d8 => (xgL 4 sh d8 q1 3).bind fun v9 => (xdL v9 (65536 : Int64)).bind fun v10 => (xmL v10 (100 : Int64)).bind fun v11 => (xgR 2 sh d8 q0 0).bind fun v12 => (xgI 3 sh d8 v12 2).bind fun v13 => if 0 ≤ (lg_cmp v11 ((v13).toInt64)) then (k_X2_isCalled_102 sh (0 : Int32) d8) else (k_X2_isCalled_102 sh (1 : Int32) d8)))))
set_option maxHeartbeats 4000000 in
set_option maxRecDepth 100000 in
theorem mt_X2_isCalled (l : Launch) (D : va_G) (cid : FieldType → ClassId) (b : Nat) (ex : Bool) (sa sv B0 : Nat) (sh : List xSh) (q0 : Nat) (q1 : Nat) (x2 : Int32) (d : xD) (r : Int32) (dz : xD) (hf : f_X2_isCalled sh q0 q1 x2 d = some (r, dz)) : xMet l yX2_isCalled cX2_isCalled 3 (some .boolean) 0 0 0 D cid b ex sa sv B0 [.ref (b + q0), .ref (b + q1), .int x2] sh d (some (.int r)) sh dz := by
  refine xMet.of (by decide) (Nat.le_of_ble_eq_true rfl) ?_
  intro p e s m below meth c ls A S hr hin G hl
  have hl : lv_has ls 3 [(0, .ref (b + q0)), (1, .ref (b + q1)), (2, .int x2)] := hl
  generalize ([.ref (b + q0), .ref (b + q1), .int x2] : List Value).toArray = av at S ⊢
  have hx := S.1
  have hb := S.2.1
  have hml := S.2.2.1
  have hown := S.2.2.2.1
  have hts := S.2.2.2.2.1
  have K15 : ∀ (d : xD), k_X2_isCalled_15 sh d = some (r, dz) → ∀ (H : Heap) (locs : List Loc) (ls : Array Slot), lv_has ls 3 [] → xG D cid b A sh d s H locs → W p l e (xRm 0 0 0) s m av below meth c H locs 0 0 (MQ below (xQ D cid b ex A (some (.int r)) sh dz) av s 0 0 A) (F0 m 15 ls []) := by
    intro d hf H locs ls hl G
    unfold k_X2_isCalled_15 at hf
    refine lv_iconst (v := (0 : Int32)) hx hb dX2_isCalled_15 (by decide) ?_
    cases hf
    exact xr_zret S G (fun _ => rfl) hr (by decide) dX2_isCalled_16
  have K102 : ∀ (y0 : Int32) (d : xD), k_X2_isCalled_102 sh y0 d = some (r, dz) → ∀ (H : Heap) (locs : List Loc) (ls : Array Slot), lv_has ls 3 [] → xG D cid b A sh d s H locs → W p l e (xRm 0 0 0) s m av below meth c H locs 0 0 (MQ below (xQ D cid b ex A (some (.int r)) sh dz) av s 0 0 A) (F0 m 102 ls [.int y0]) := by
    intro y0 d hf H locs ls hl G
    unfold k_X2_isCalled_102 at hf
    obtain ⟨v1, hv1, hf⟩ := x_ob hf
    cases hf
    exact xr_zret S G (fun _ => rfl) hr hv1 dX2_isCalled_102
  have K38 : ∀ (y0 : Int32) (d : xD), k_X2_isCalled_38 sh y0 d = some (r, dz) → ∀ (H : Heap) (locs : List Loc) (ls : Array Slot), lv_has ls 3 [] → xG D cid b A sh d s H locs → W p l e (xRm 0 0 0) s m av below meth c H locs 0 0 (MQ below (xQ D cid b ex A (some (.int r)) sh dz) av s 0 0 A) (F0 m 38 ls [.int y0]) := by
    intro y0 d hf H locs ls hl G
    unfold k_X2_isCalled_38 at hf
    obtain ⟨v2, hv2, hf⟩ := x_ob hf
    cases hf
    exact xr_zret S G (fun _ => rfl) hr hv2 dX2_isCalled_38
  unfold f_X2_isCalled at hf
  refine lv_iload_n hx hb dX2_isCalled_0 rfl (lv_at hl 2 rfl) ?_
  refine lv_iconst (v := (1 : Int32)) hx hb dX2_isCalled_1 (by decide) ?_
  refine lv_icmp_eq (tgt := 15) hx hb dX2_isCalled_2 (by decide) (fun c => ?_) (fun c => ?_)
  · have hf := x_pos c hf
    exact K15 d hf _ _ ls (lv_sub hl [] rfl) G
  · have hf := x_neg c hf
    refine lv_aload_n hx hb dX2_isCalled_5 rfl (lv_at hl 0 rfl) ?_
    obtain ⟨v3, hv3, hf⟩ := x_ob hf
    refine xr_getR (ci := 2) (k := 0) S G hv3 rfl kw_410 dX2_isCalled_6 ?_
    obtain ⟨v4, hv4, hf⟩ := x_ob hf
    refine xr_getI (ci := 3) (k := 2) S G hv4 rfl kw_87 dX2_isCalled_9 ?_
    refine lv_if_ne (tgt := 17) hx hb dX2_isCalled_12 (by decide) (fun c => ?_) (fun c => ?_)
    · have hf := x_neg c hf
      refine lv_iload_n hx hb dX2_isCalled_17 rfl (lv_at hl 2 rfl) ?_
      refine lv_if_ne (tgt := 39) hx hb dX2_isCalled_18 (by decide) (fun c => ?_) (fun c => ?_)
      · have hf := x_neg c hf
        refine lv_aload_n hx hb dX2_isCalled_39 rfl (lv_at hl 0 rfl) ?_
        obtain ⟨v5, hv5, hf⟩ := x_ob hf
        refine xr_getR (ci := 2) (k := 0) S G hv5 rfl kw_410 dX2_isCalled_40 ?_
        obtain ⟨v6, hv6, hf⟩ := x_ob hf
        refine xr_getI (ci := 3) (k := 2) S G hv6 rfl kw_87 dX2_isCalled_43 ?_
        refine lv_bipush (v := (100 : Int32)) hx hb dX2_isCalled_46 (by decide) ?_
        refine lv_icmp_ne (tgt := 53) hx hb dX2_isCalled_48 (by decide) (fun c => ?_) (fun c => ?_)
        · have hf := x_neg c hf
          refine lv_aload_n hx hb dX2_isCalled_53 rfl (lv_at hl 1 rfl) ?_
          refine lv_aload_n hx hb dX2_isCalled_54 rfl (lv_at hl 1 rfl) ?_
          obtain ⟨v7, hv7, hf⟩ := x_ob hf
          refine xr_getL (ci := 4) (k := 3) S G hv7 rfl kw_324 dX2_isCalled_55 ?_
          refine lv_ldc2 (v := (1103515245 : Int64)) hx hb hown (hts _ kw_891) dX2_isCalled_58 ?_
          refine lv_lmul hx hb dX2_isCalled_61 ?_
          refine lv_ldc2 (v := (12345 : Int64)) hx hb hown (hts _ kw_892) dX2_isCalled_62 ?_
          refine lv_ladd hx hb dX2_isCalled_65 ?_
          refine lv_ldc2 (v := (2147483647 : Int64)) hx hb hown (hts _ kw_893) dX2_isCalled_66 ?_
          refine lv_land hx hb dX2_isCalled_69 ?_
          obtain ⟨d8, hd8, hf⟩ := x_ob hf
          refine xr_putL (ci := 4) (k := 3) S G hd8 rfl kw_324 dX2_isCalled_70 (fun H locs G => ?_)
          refine lv_aload_n hx hb dX2_isCalled_73 rfl (lv_at hl 1 rfl) ?_
          obtain ⟨v9, hv9, hf⟩ := x_ob hf
          refine xr_getL (ci := 4) (k := 3) S G hv9 rfl kw_324 dX2_isCalled_74 ?_
          refine lv_ldc2 (v := (65536 : Int64)) hx hb hown (hts _ kw_894) dX2_isCalled_77 ?_
          obtain ⟨v10, hv10, hf⟩ := x_ob hf
          refine xr_ldiv hx hb hv10 dX2_isCalled_80 ?_
          refine lv_ldc2 (v := (100 : Int64)) hx hb hown (hts _ kw_895) dX2_isCalled_81 ?_
          obtain ⟨v11, hv11, hf⟩ := x_ob hf
          refine xr_lrem hx hb hv11 dX2_isCalled_84 ?_
          refine lv_aload_n hx hb dX2_isCalled_85 rfl (lv_at hl 0 rfl) ?_
          obtain ⟨v12, hv12, hf⟩ := x_ob hf
          refine xr_getR (ci := 2) (k := 0) S G hv12 rfl kw_410 dX2_isCalled_86 ?_
          obtain ⟨v13, hv13, hf⟩ := x_ob hf
          refine xr_getI (ci := 3) (k := 2) S G hv13 rfl kw_87 dX2_isCalled_89 ?_
          refine lv_i2l (v := (v13).toInt64) hx hb dX2_isCalled_92 rfl ?_
          refine W.lcmp hx hb dX2_isCalled_93 ?_
          refine lv_if_ge (tgt := 101) hx hb dX2_isCalled_94 (by decide) (fun c => ?_) (fun c => ?_)
          · have hf := x_pos c hf
            refine lv_iconst (v := (0 : Int32)) hx hb dX2_isCalled_101 (by decide) ?_
            exact K102 (0 : Int32) d8 hf _ _ ls (lv_sub hl [] rfl) G
          · have hf := x_neg c hf
            refine lv_iconst (v := (1 : Int32)) hx hb dX2_isCalled_97 (by decide) ?_
            refine lv_goto (tgt := 102) hx hb dX2_isCalled_98 (by decide) ?_
            exact K102 (1 : Int32) d8 hf _ _ ls (lv_sub hl [] rfl) G
        · have hf := x_pos c hf
          refine lv_iconst (v := (1 : Int32)) hx hb dX2_isCalled_51 (by decide) ?_
          cases hf
          exact xr_zret S G (fun _ => rfl) hr (by decide) dX2_isCalled_52
      · have hf := x_pos c hf
        refine lv_aload_n hx hb dX2_isCalled_21 rfl (lv_at hl 0 rfl) ?_
        obtain ⟨v14, hv14, hf⟩ := x_ob hf
        refine xr_getR (ci := 2) (k := 0) S G hv14 rfl kw_410 dX2_isCalled_22 ?_
        obtain ⟨v15, hv15, hf⟩ := x_ob hf
        refine xr_getI (ci := 3) (k := 2) S G hv15 rfl kw_87 dX2_isCalled_25 ?_
        refine lv_bipush (v := (50 : Int32)) hx hb dX2_isCalled_28 (by decide) ?_
        refine lv_icmp_lt (tgt := 37) hx hb dX2_isCalled_30 (by decide) (fun c => ?_) (fun c => ?_)
        · have hf := x_pos c hf
          refine lv_iconst (v := (0 : Int32)) hx hb dX2_isCalled_37 (by decide) ?_
          exact K38 (0 : Int32) d hf _ _ ls (lv_sub hl [] rfl) G
        · have hf := x_neg c hf
          refine lv_iconst (v := (1 : Int32)) hx hb dX2_isCalled_33 (by decide) ?_
          refine lv_goto (tgt := 38) hx hb dX2_isCalled_34 (by decide) ?_
          exact K38 (1 : Int32) d hf _ _ ls (lv_sub hl [] rfl) G
    · have hf := x_pos c hf
      exact K15 d hf _ _ ls (lv_sub hl [] rfl) G
-- HalfLandings$Scene.stand(I)V
theorem dX4_stand_0 : decode cX4_stand 0 = .ok (.aload_n 0, 1) := by decide +kernel
theorem dX4_stand_1 : decode cX4_stand 1 = .ok (.getfield 28, 3) := by decide +kernel
theorem dX4_stand_4 : decode cX4_stand 4 = .ok (.iload_n 1, 1) := by decide +kernel
theorem dX4_stand_5 : decode cX4_stand 5 = .ok (.iconst 1, 1) := by decide +kernel
theorem dX4_stand_6 : decode cX4_stand 6 = .ok (.iastore, 1) := by decide +kernel
theorem dX4_stand_7 : decode cX4_stand 7 = .ok (.aload_n 0, 1) := by decide +kernel
theorem dX4_stand_8 : decode cX4_stand 8 = .ok (.getfield 41, 3) := by decide +kernel
theorem dX4_stand_11 : decode cX4_stand 11 = .ok (.iload_n 1, 1) := by decide +kernel
theorem dX4_stand_12 : decode cX4_stand 12 = .ok (.iconst 0, 1) := by decide +kernel
theorem dX4_stand_13 : decode cX4_stand 13 = .ok (.iastore, 1) := by decide +kernel
theorem dX4_stand_14 : decode cX4_stand 14 = .ok (.return_, 1) := by decide +kernel
theorem hd_X4_stand : yX4_stand.cls = xCn 4 ∧ yX4_stand.cls ≠ "java/lang/invoke/MethodHandle" ∧ yX4_stand.cls ≠ "java/lang/invoke/VarHandle" ∧ (parseMethodDescriptor yX4_stand.desc).map (fun d => d.parameters.length) = some 1 := by decide +kernel
def f_X4_stand (sh : List xSh) (q0 : Nat) (x1 : Int32) (d : xD) : Option xD :=
  (xgR 4 sh d q0 5).bind fun v1 => (xsI .int sh d v1 x1 (1 : Int32)).bind fun d2 => (xgR 4 sh d2 q0 9).bind fun v3 => (xsI .int sh d2 v3 x1 (0 : Int32)).bind fun d4 => some d4
set_option maxHeartbeats 4000000 in
set_option maxRecDepth 100000 in
theorem mt_X4_stand (l : Launch) (D : va_G) (cid : FieldType → ClassId) (b : Nat) (ex : Bool) (sa sv B0 : Nat) (sh : List xSh) (q0 : Nat) (x1 : Int32) (d : xD) (dz : xD) (hf : f_X4_stand sh q0 x1 d = some dz) : xMet l yX4_stand cX4_stand 2 none 0 0 0 D cid b ex sa sv B0 [.ref (b + q0), .int x1] sh d none sh dz := by
  refine xMet.of (by decide) (Nat.le_of_ble_eq_true rfl) ?_
  intro p e s m below meth c ls A S hr hin G hl
  have hl : lv_has ls 2 [(0, .ref (b + q0)), (1, .int x1)] := hl
  generalize ([.ref (b + q0), .int x1] : List Value).toArray = av at S ⊢
  have hx := S.1
  have hb := S.2.1
  have hml := S.2.2.1
  have hown := S.2.2.2.1
  have hts := S.2.2.2.2.1
  unfold f_X4_stand at hf
  refine lv_aload_n hx hb dX4_stand_0 rfl (lv_at hl 0 rfl) ?_
  obtain ⟨v1, hv1, hf⟩ := x_ob hf
  refine xr_getR (ci := 4) (k := 5) S G hv1 rfl kw_327 dX4_stand_1 ?_
  refine lv_iload_n hx hb dX4_stand_4 rfl (lv_at hl 1 rfl) ?_
  refine lv_iconst (v := (1 : Int32)) hx hb dX4_stand_5 (by decide) ?_
  obtain ⟨d2, hd2, hf⟩ := x_ob hf
  refine xr_iast S G hd2 dX4_stand_6 (fun H locs G => ?_)
  refine lv_aload_n hx hb dX4_stand_7 rfl (lv_at hl 0 rfl) ?_
  obtain ⟨v3, hv3, hf⟩ := x_ob hf
  refine xr_getR (ci := 4) (k := 9) S G hv3 rfl kw_339 dX4_stand_8 ?_
  refine lv_iload_n hx hb dX4_stand_11 rfl (lv_at hl 1 rfl) ?_
  refine lv_iconst (v := (0 : Int32)) hx hb dX4_stand_12 (by decide) ?_
  obtain ⟨d4, hd4, hf⟩ := x_ob hf
  refine xr_iast S G hd4 dX4_stand_13 (fun H locs G => ?_)
  cases hf
  exact xr_vret S G (fun _ => rfl) hr dX4_stand_14
-- HalfLandings$Minutes.getUp(LHalfLandings$Scene;I)V
theorem dX2_getUp_0 : decode cX2_getUp 0 = .ok (.iconst 0, 1) := by decide +kernel
theorem dX2_getUp_1 : decode cX2_getUp 1 = .ok (.istore_n 3, 1) := by decide +kernel
theorem dX2_getUp_2 : decode cX2_getUp 2 = .ok (.iload_n 3, 1) := by decide +kernel
theorem dX2_getUp_3 : decode cX2_getUp 3 = .ok (.aload_n 0, 1) := by decide +kernel
theorem dX2_getUp_4 : decode cX2_getUp 4 = .ok (.getfield 17, 3) := by decide +kernel
theorem dX2_getUp_7 : decode cX2_getUp 7 = .ok (.getfield 31, 3) := by decide +kernel
theorem dX2_getUp_10 : decode cX2_getUp 10 = .ok (.if_icmp .ge 72, 3) := by decide +kernel
theorem dX2_getUp_13 : decode cX2_getUp 13 = .ok (.aload_n 1, 1) := by decide +kernel
theorem dX2_getUp_14 : decode cX2_getUp 14 = .ok (.getfield 36, 3) := by decide +kernel
theorem dX2_getUp_17 : decode cX2_getUp 17 = .ok (.iload_n 3, 1) := by decide +kernel
theorem dX2_getUp_18 : decode cX2_getUp 18 = .ok (.iaload, 1) := by decide +kernel
theorem dX2_getUp_19 : decode cX2_getUp 19 = .ok (.iconst 2, 1) := by decide +kernel
theorem dX2_getUp_20 : decode cX2_getUp 20 = .ok (.if_icmp .ne 56, 3) := by decide +kernel
theorem dX2_getUp_23 : decode cX2_getUp 23 = .ok (.aload_n 1, 1) := by decide +kernel
theorem dX2_getUp_24 : decode cX2_getUp 24 = .ok (.getfield 131, 3) := by decide +kernel
theorem dX2_getUp_27 : decode cX2_getUp 27 = .ok (.iload_n 3, 1) := by decide +kernel
theorem dX2_getUp_28 : decode cX2_getUp 28 = .ok (.aload_n 1, 1) := by decide +kernel
theorem dX2_getUp_29 : decode cX2_getUp 29 = .ok (.getfield 131, 3) := by decide +kernel
theorem dX2_getUp_32 : decode cX2_getUp 32 = .ok (.iload_n 3, 1) := by decide +kernel
theorem dX2_getUp_33 : decode cX2_getUp 33 = .ok (.iaload, 1) := by decide +kernel
theorem dX2_getUp_34 : decode cX2_getUp 34 = .ok (.iconst 1, 1) := by decide +kernel
theorem dX2_getUp_35 : decode cX2_getUp 35 = .ok (.iadd, 1) := by decide +kernel
theorem dX2_getUp_36 : decode cX2_getUp 36 = .ok (.sipush 999, 3) := by decide +kernel
theorem dX2_getUp_39 : decode cX2_getUp 39 = .ok (.invokestatic 120, 3) := by decide +kernel
theorem dX2_getUp_42 : decode cX2_getUp 42 = .ok (.iastore, 1) := by decide +kernel
theorem dX2_getUp_43 : decode cX2_getUp 43 = .ok (.aload_n 1, 1) := by decide +kernel
theorem dX2_getUp_44 : decode cX2_getUp 44 = .ok (.getfield 134, 3) := by decide +kernel
theorem dX2_getUp_47 : decode cX2_getUp 47 = .ok (.iload_n 3, 1) := by decide +kernel
theorem dX2_getUp_48 : decode cX2_getUp 48 = .ok (.dup2, 1) := by decide +kernel
theorem dX2_getUp_49 : decode cX2_getUp 49 = .ok (.iaload, 1) := by decide +kernel
theorem dX2_getUp_50 : decode cX2_getUp 50 = .ok (.iconst 1, 1) := by decide +kernel
theorem dX2_getUp_51 : decode cX2_getUp 51 = .ok (.isub, 1) := by decide +kernel
theorem dX2_getUp_52 : decode cX2_getUp 52 = .ok (.iastore, 1) := by decide +kernel
theorem dX2_getUp_53 : decode cX2_getUp 53 = .ok (.aload_n 1, 1) := by decide +kernel
theorem dX2_getUp_54 : decode cX2_getUp 54 = .ok (.getfield 134, 3) := by decide +kernel
theorem dX2_getUp_57 : decode cX2_getUp 57 = .ok (.iload_n 3, 1) := by decide +kernel
theorem dX2_getUp_58 : decode cX2_getUp 58 = .ok (.iaload, 1) := by decide +kernel
theorem dX2_getUp_59 : decode cX2_getUp 59 = .ok (.ifCond .le 12, 3) := by decide +kernel
theorem dX2_getUp_62 : decode cX2_getUp 62 = .ok (.aload_n 0, 1) := by decide +kernel
theorem dX2_getUp_63 : decode cX2_getUp 63 = .ok (.aload_n 1, 1) := by decide +kernel
theorem dX2_getUp_64 : decode cX2_getUp 64 = .ok (.iload_n 2, 1) := by decide +kernel
theorem dX2_getUp_65 : decode cX2_getUp 65 = .ok (.invokevirtual 137, 3) := by decide +kernel
theorem dX2_getUp_68 : decode cX2_getUp 68 = .ok (.ifCond .eq 8, 3) := by decide +kernel
theorem dX2_getUp_71 : decode cX2_getUp 71 = .ok (.aload_n 1, 1) := by decide +kernel
theorem dX2_getUp_72 : decode cX2_getUp 72 = .ok (.iload_n 3, 1) := by decide +kernel
theorem dX2_getUp_73 : decode cX2_getUp 73 = .ok (.invokevirtual 141, 3) := by decide +kernel
theorem dX2_getUp_76 : decode cX2_getUp 76 = .ok (.iinc 3 1, 3) := by decide +kernel
theorem dX2_getUp_79 : decode cX2_getUp 79 = .ok (.goto (-77), 3) := by decide +kernel
theorem dX2_getUp_82 : decode cX2_getUp 82 = .ok (.return_, 1) := by decide +kernel
theorem hd_X2_getUp : yX2_getUp.cls = xCn 2 ∧ yX2_getUp.cls ≠ "java/lang/invoke/MethodHandle" ∧ yX2_getUp.cls ≠ "java/lang/invoke/VarHandle" ∧ (parseMethodDescriptor yX2_getUp.desc).map (fun d => d.parameters.length) = some 2 := by decide +kernel
def k_X2_getUp_82 (sh : List xSh) (d : xD) : Option xD :=
  some d
def k_X2_getUp_76 (sh : List xSh) (rec2 : Nat → Nat → Int32 → Int32 → xD → Option xD) (q0 : Nat) (q1 : Nat) (x2 : Int32) (x3 : Int32) (d : xD) : Option xD :=
  rec2 q0 q1 x2 (x3 + 1) d
def k_X2_getUp_71 (sh : List xSh) (rec2 : Nat → Nat → Int32 → Int32 → xD → Option xD) (q0 : Nat) (q1 : Nat) (x2 : Int32) (x3 : Int32) (d : xD) : Option xD :=
  (xon 4 sh q1 (f_X4_stand sh q1 x3 d)).bind fun d1 => k_X2_getUp_76 sh rec2 q0 q1 x2 x3 d1
def b_X2_getUp_2 (sh : List xSh) (rec2 : Nat → Nat → Int32 → Int32 → xD → Option xD) (q0 : Nat) (q1 : Nat) (x2 : Int32) (x3 : Int32) (d : xD) : Option xD :=
  (xgR 2 sh d q0 0).bind fun v2 => (xgI 3 sh d v2 9).bind fun v3 => if v3 ≤ x3 then (k_X2_getUp_82 sh d) else ((xgR 4 sh d q1 5).bind fun v4 => (xaI .int sh d v4 x3).bind fun v5 => if v5 = (2 : Int32) then ((xgR 4 sh d q1 10).bind fun v6 => (xgR 4 sh d q1 10).bind fun v7 => (xaI .int sh d v7 x3).bind fun v8 => (xsI .int sh d v6 x3 (if (999 : Int32) < (v8 + (1 : Int32)) then (999 : Int32) else (v8 + (1 : Int32)))).bind fun d9 => (xgR 4 sh d9 q1 9).bind fun v10 => (xaI .int sh d9 v10 x3).bind fun v11 => (xsI .int sh d9 v10 x3 (v11 - (1 : Int32))).bind fun d12 => (xgR 4 sh d12 q1 9).bind fun v13 => (xaI .int sh d12 v13 x3).bind fun v14 => if v14 ≤ 0 then (k_X2_getUp_71 sh rec2 q0 q1 x2 x3 d12) else ((xon 2 sh q0 (f_X2_isCalled sh q0 q1 x2 d12)).bind fun z15 => if z15.1 = 0 then (k_X2_getUp_76 sh rec2 q0 q1 x2 x3 z15.2) else (k_X2_getUp_71 sh rec2 q0 q1 x2 x3 z15.2))) else (k_X2_getUp_76 sh rec2 q0 q1 x2 x3 d))
def f_X2_getUp (sh : List xSh) (q0 : Nat) (q1 : Nat) (x2 : Int32) (d : xD) : Option xD :=
  xloop (fun _ _ _ _ _ => none) (b_X2_getUp_2 sh) xF q0 q1 x2 (0 : Int32) d
set_option maxHeartbeats 4000000 in
set_option maxRecDepth 100000 in
theorem mt_X2_getUp (l : Launch) (D : va_G) (cid : FieldType → ClassId) (b : Nat) (ex : Bool) (sa sv B0 : Nat) (sh : List xSh) (q0 : Nat) (q1 : Nat) (x2 : Int32) (d : xD) (dz : xD) (hf : f_X2_getUp sh q0 q1 x2 d = some dz) : xMet l yX2_getUp cX2_getUp 4 none 1 0 0 D cid b ex sa sv B0 [.ref (b + q0), .ref (b + q1), .int x2] sh d none sh dz := by
  refine xMet.of (by decide) (Nat.le_of_ble_eq_true rfl) ?_
  intro p e s m below meth c ls A S hr hin G hl
  have hl : lv_has ls 4 [(0, .ref (b + q0)), (1, .ref (b + q1)), (2, .int x2)] := hl
  generalize ([.ref (b + q0), .ref (b + q1), .int x2] : List Value).toArray = av at S ⊢
  have hx := S.1
  have hb := S.2.1
  have hml := S.2.2.1
  have hown := S.2.2.2.1
  have hts := S.2.2.2.2.1
  have K82 : ∀ (d : xD), k_X2_getUp_82 sh d = some dz → ∀ (H : Heap) (locs : List Loc) (ls : Array Slot), lv_has ls 4 [] → xG D cid b A sh d s H locs → W p l e (xRm 1 0 0) s m av below meth c H locs 0 0 (MQ below (xQ D cid b ex A none sh dz) av s 0 0 A) (F0 m 82 ls []) := by
    intro d hf H locs ls hl G
    unfold k_X2_getUp_82 at hf
    cases hf
    exact xr_vret S G (fun _ => rfl) hr dX2_getUp_82
  have K76 : ∀ (rec2 : Nat → Nat → Int32 → Int32 → xD → Option xD) (hrec2 : ∀ (q0 : Nat) (q1 : Nat) (x2 : Int32) (x3 : Int32) (d : xD), rec2 q0 q1 x2 x3 d = some dz → ∀ (H : Heap) (locs : List Loc) (ls : Array Slot), lv_has ls 4 [(0, .ref (b + q0)), (1, .ref (b + q1)), (2, .int x2), (3, .int x3)] → xG D cid b A sh d s H locs → W p l e (xRm 1 0 0) s m av below meth c H locs 0 0 (MQ below (xQ D cid b ex A none sh dz) av s 0 0 A) (F0 m 2 ls [])) (q0 : Nat) (q1 : Nat) (x2 : Int32) (x3 : Int32) (d : xD), k_X2_getUp_76 sh rec2 q0 q1 x2 x3 d = some dz → ∀ (H : Heap) (locs : List Loc) (ls : Array Slot), lv_has ls 4 [(0, .ref (b + q0)), (1, .ref (b + q1)), (2, .int x2), (3, .int x3)] → xG D cid b A sh d s H locs → W p l e (xRm 1 0 0) s m av below meth c H locs 0 0 (MQ below (xQ D cid b ex A none sh dz) av s 0 0 A) (F0 m 76 ls []) := by
    intro rec2 hrec2 q0 q1 x2 x3 d hf H locs ls hl G
    unfold k_X2_getUp_76 at hf
    refine lv_iinc (v := (x3 + 1)) (lv' := [(3, .int (x3 + 1)), (0, .ref (b + q0)), (1, .ref (b + q1)), (2, .int x2)]) hx hb dX2_getUp_76 hl (k := 3) rfl rfl (by decide) rfl (fun ls hl => ?_)
    refine lv_goto (tgt := 2) hx hb dX2_getUp_79 (by decide) ?_
    exact hrec2 q0 q1 x2 (x3 + 1) d hf _ _ ls (lv_sub hl [1, 2, 3, 0] rfl) G
  have K71 : ∀ (rec2 : Nat → Nat → Int32 → Int32 → xD → Option xD) (hrec2 : ∀ (q0 : Nat) (q1 : Nat) (x2 : Int32) (x3 : Int32) (d : xD), rec2 q0 q1 x2 x3 d = some dz → ∀ (H : Heap) (locs : List Loc) (ls : Array Slot), lv_has ls 4 [(0, .ref (b + q0)), (1, .ref (b + q1)), (2, .int x2), (3, .int x3)] → xG D cid b A sh d s H locs → W p l e (xRm 1 0 0) s m av below meth c H locs 0 0 (MQ below (xQ D cid b ex A none sh dz) av s 0 0 A) (F0 m 2 ls [])) (q0 : Nat) (q1 : Nat) (x2 : Int32) (x3 : Int32) (d : xD), k_X2_getUp_71 sh rec2 q0 q1 x2 x3 d = some dz → ∀ (H : Heap) (locs : List Loc) (ls : Array Slot), lv_has ls 4 [(0, .ref (b + q0)), (1, .ref (b + q1)), (2, .int x2), (3, .int x3)] → xG D cid b A sh d s H locs → W p l e (xRm 1 0 0) s m av below meth c H locs 0 0 (MQ below (xQ D cid b ex A none sh dz) av s 0 0 A) (F0 m 71 ls []) := by
    intro rec2 hrec2 q0 q1 x2 x3 d hf H locs ls hl G
    unfold k_X2_getUp_71 at hf
    refine lv_aload_n hx hb dX2_getUp_71 rfl (lv_at hl 1 rfl) ?_
    refine lv_iload_n hx hb dX2_getUp_72 rfl (lv_at hl 3 rfl) ?_
    obtain ⟨d1, hd1, hf⟩ := x_ob hf
    obtain ⟨hqd1, hd1⟩ := xon_of hd1
    refine xr_callV (ci := 4) (As := [.int x3]) (rest := []) (st1 := []) S G hl.1 (fun _ => rfl) (mt_X4_stand l D cid b ex sa sv B0 sh q1 x3 d _ hd1) hqd1 (by decide) kw_896 kw_812 kw_813 kw_12 kw_814 hd_X4_stand ⟨Nat.le_of_ble_eq_true rfl, Nat.le_of_ble_eq_true rfl⟩ rfl rfl rfl (Nat.le_of_ble_eq_true rfl) ⟨Nat.le_of_ble_eq_true rfl, Nat.le_of_ble_eq_true rfl⟩ dX2_getUp_73 (fun H locs G => ?_)
    exact K76 _ hrec2 q0 q1 x2 x3 d1 hf _ _ ls (lv_sub hl [0, 1, 2, 3] rfl) G
  have K2 : ∀ (n : Nat) (q0 : Nat) (q1 : Nat) (x2 : Int32) (x3 : Int32) (d : xD), xloop (fun _ _ _ _ _ => none) (b_X2_getUp_2 sh) n q0 q1 x2 x3 d = some dz → ∀ (H : Heap) (locs : List Loc) (ls : Array Slot), lv_has ls 4 [(0, .ref (b + q0)), (1, .ref (b + q1)), (2, .int x2), (3, .int x3)] → xG D cid b A sh d s H locs → W p l e (xRm 1 0 0) s m av below meth c H locs 0 0 (MQ below (xQ D cid b ex A none sh dz) av s 0 0 A) (F0 m 2 ls []) := by
    intro n
    induction n with
    | zero =>
      intro q0 q1 x2 x3 d hf
      have hf : (none : Option xD) = some dz := hf
      cases hf
    | succ n hrec2 =>
      intro q0 q1 x2 x3 d hf H locs ls hl G
      have hf : b_X2_getUp_2 sh (xloop (fun _ _ _ _ _ => none) (b_X2_getUp_2 sh) n) q0 q1 x2 x3 d = some dz := hf
      unfold b_X2_getUp_2 at hf
      refine lv_iload_n hx hb dX2_getUp_2 rfl (lv_at hl 3 rfl) ?_
      refine lv_aload_n hx hb dX2_getUp_3 rfl (lv_at hl 0 rfl) ?_
      obtain ⟨v2, hv2, hf⟩ := x_ob hf
      refine xr_getR (ci := 2) (k := 0) S G hv2 rfl kw_410 dX2_getUp_4 ?_
      obtain ⟨v3, hv3, hf⟩ := x_ob hf
      refine xr_getI (ci := 3) (k := 9) S G hv3 rfl kw_104 dX2_getUp_7 ?_
      refine lv_icmp_ge (tgt := 82) hx hb dX2_getUp_10 (by decide) (fun c => ?_) (fun c => ?_)
      · have hf := x_pos c hf
        exact K82 d hf _ _ ls (lv_sub hl [] rfl) G
      · have hf := x_neg c hf
        refine lv_aload_n hx hb dX2_getUp_13 rfl (lv_at hl 1 rfl) ?_
        obtain ⟨v4, hv4, hf⟩ := x_ob hf
        refine xr_getR (ci := 4) (k := 5) S G hv4 rfl kw_328 dX2_getUp_14 ?_
        refine lv_iload_n hx hb dX2_getUp_17 rfl (lv_at hl 3 rfl) ?_
        obtain ⟨v5, hv5, hf⟩ := x_ob hf
        refine xr_iald S G hv5 dX2_getUp_18 ?_
        refine lv_iconst (v := (2 : Int32)) hx hb dX2_getUp_19 (by decide) ?_
        refine lv_icmp_ne (tgt := 76) hx hb dX2_getUp_20 (by decide) (fun c => ?_) (fun c => ?_)
        · have hf := x_neg c hf
          exact K76 _ hrec2 q0 q1 x2 x3 d hf _ _ ls (lv_sub hl [0, 1, 2, 3] rfl) G
        · have hf := x_pos c hf
          refine lv_aload_n hx hb dX2_getUp_23 rfl (lv_at hl 1 rfl) ?_
          obtain ⟨v6, hv6, hf⟩ := x_ob hf
          refine xr_getR (ci := 4) (k := 10) S G hv6 rfl kw_344 dX2_getUp_24 ?_
          refine lv_iload_n hx hb dX2_getUp_27 rfl (lv_at hl 3 rfl) ?_
          refine lv_aload_n hx hb dX2_getUp_28 rfl (lv_at hl 1 rfl) ?_
          obtain ⟨v7, hv7, hf⟩ := x_ob hf
          refine xr_getR (ci := 4) (k := 10) S G hv7 rfl kw_344 dX2_getUp_29 ?_
          refine lv_iload_n hx hb dX2_getUp_32 rfl (lv_at hl 3 rfl) ?_
          obtain ⟨v8, hv8, hf⟩ := x_ob hf
          refine xr_iald S G hv8 dX2_getUp_33 ?_
          refine lv_iconst (v := (1 : Int32)) hx hb dX2_getUp_34 (by decide) ?_
          refine lv_iadd hx hb dX2_getUp_35 ?_
          refine lv_sipush (v := (999 : Int32)) hx hb dX2_getUp_36 (by decide) ?_
          refine va_mmin hx hb (hml.trans hl.1.symm) hown (hts _ kw_878) (hts _ kw_556) (hts _ kw_18) (hts _ kp_mmin) (Nat.le_of_ble_eq_true rfl) (Nat.le_of_ble_eq_true rfl) (Nat.le_refl _) (Nat.le_refl _) dX2_getUp_39 ?_
          obtain ⟨d9, hd9, hf⟩ := x_ob hf
          refine xr_iast S G hd9 dX2_getUp_42 (fun H locs G => ?_)
          refine lv_aload_n hx hb dX2_getUp_43 rfl (lv_at hl 1 rfl) ?_
          obtain ⟨v10, hv10, hf⟩ := x_ob hf
          refine xr_getR (ci := 4) (k := 9) S G hv10 rfl kw_341 dX2_getUp_44 ?_
          refine lv_iload_n hx hb dX2_getUp_47 rfl (lv_at hl 3 rfl) ?_
          refine lv_dup2_11 hx hb dX2_getUp_48 rfl rfl ?_
          obtain ⟨v11, hv11, hf⟩ := x_ob hf
          refine xr_iald S G hv11 dX2_getUp_49 ?_
          refine lv_iconst (v := (1 : Int32)) hx hb dX2_getUp_50 (by decide) ?_
          refine lv_isub hx hb dX2_getUp_51 ?_
          obtain ⟨d12, hd12, hf⟩ := x_ob hf
          refine xr_iast S G hd12 dX2_getUp_52 (fun H locs G => ?_)
          refine lv_aload_n hx hb dX2_getUp_53 rfl (lv_at hl 1 rfl) ?_
          obtain ⟨v13, hv13, hf⟩ := x_ob hf
          refine xr_getR (ci := 4) (k := 9) S G hv13 rfl kw_341 dX2_getUp_54 ?_
          refine lv_iload_n hx hb dX2_getUp_57 rfl (lv_at hl 3 rfl) ?_
          obtain ⟨v14, hv14, hf⟩ := x_ob hf
          refine xr_iald S G hv14 dX2_getUp_58 ?_
          refine lv_if_le (tgt := 71) hx hb dX2_getUp_59 (by decide) (fun c => ?_) (fun c => ?_)
          · have hf := x_pos c hf
            exact K71 _ hrec2 q0 q1 x2 x3 d12 hf _ _ ls (lv_sub hl [0, 1, 2, 3] rfl) G
          · have hf := x_neg c hf
            refine lv_aload_n hx hb dX2_getUp_62 rfl (lv_at hl 0 rfl) ?_
            refine lv_aload_n hx hb dX2_getUp_63 rfl (lv_at hl 1 rfl) ?_
            refine lv_iload_n hx hb dX2_getUp_64 rfl (lv_at hl 2 rfl) ?_
            obtain ⟨z15, hz15, hf⟩ := x_ob hf
            obtain ⟨hqz15, hz15⟩ := xon_of hz15
            refine xr_callV (ci := 2) (As := [.ref (b + q1), .int x2]) (rest := []) (st1 := [.int z15.1]) S G hl.1 (fun _ => rfl) (mt_X2_isCalled l D cid b ex sa sv B0 sh q0 q1 x2 d12 _ _ hz15) hqz15 (by decide) kw_887 kw_889 ks_28 kw_13 kw_890 hd_X2_isCalled ⟨Nat.le_of_ble_eq_true rfl, Nat.le_of_ble_eq_true rfl⟩ rfl rfl rfl (Nat.le_of_ble_eq_true rfl) ⟨Nat.le_of_ble_eq_true rfl, Nat.le_of_ble_eq_true rfl⟩ dX2_getUp_65 (fun H locs G => ?_)
            refine lv_if_eq (tgt := 76) hx hb dX2_getUp_68 (by decide) (fun c => ?_) (fun c => ?_)
            · have hf := x_pos c hf
              exact K76 _ hrec2 q0 q1 x2 x3 z15.2 hf _ _ ls (lv_sub hl [0, 1, 2, 3] rfl) G
            · have hf := x_neg c hf
              exact K71 _ hrec2 q0 q1 x2 x3 z15.2 hf _ _ ls (lv_sub hl [0, 1, 2, 3] rfl) G
  unfold f_X2_getUp at hf
  refine lv_iconst (v := (0 : Int32)) hx hb dX2_getUp_0 (by decide) ?_
  refine lv_istore_n (lv' := [(3, .int (0 : Int32)), (0, .ref (b + q0)), (1, .ref (b + q1)), (2, .int x2)]) hx hb dX2_getUp_1 rfl hl (by decide) rfl (fun ls hl => ?_)
  exact K2 xF q0 q1 x2 (0 : Int32) d hf _ _ ls (lv_sub hl [1, 2, 3, 0] rfl) G
-- HalfLandings$Minutes.oneMinute(LHalfLandings$Scene;I)V
theorem dX2_oneMinute_0 : decode cX2_oneMinute 0 = .ok (.iconst 0, 1) := by decide +kernel
theorem dX2_oneMinute_1 : decode cX2_oneMinute 1 = .ok (.istore_n 3, 1) := by decide +kernel
theorem dX2_oneMinute_2 : decode cX2_oneMinute 2 = .ok (.iload_n 3, 1) := by decide +kernel
theorem dX2_oneMinute_3 : decode cX2_oneMinute 3 = .ok (.aload_n 0, 1) := by decide +kernel
theorem dX2_oneMinute_4 : decode cX2_oneMinute 4 = .ok (.getfield 17, 3) := by decide +kernel
theorem dX2_oneMinute_7 : decode cX2_oneMinute 7 = .ok (.getfield 31, 3) := by decide +kernel
theorem dX2_oneMinute_10 : decode cX2_oneMinute 10 = .ok (.if_icmp .ge 41, 3) := by decide +kernel
theorem dX2_oneMinute_13 : decode cX2_oneMinute 13 = .ok (.aload_n 1, 1) := by decide +kernel
theorem dX2_oneMinute_14 : decode cX2_oneMinute 14 = .ok (.getfield 36, 3) := by decide +kernel
theorem dX2_oneMinute_17 : decode cX2_oneMinute 17 = .ok (.iload_n 3, 1) := by decide +kernel
theorem dX2_oneMinute_18 : decode cX2_oneMinute 18 = .ok (.iaload, 1) := by decide +kernel
theorem dX2_oneMinute_19 : decode cX2_oneMinute 19 = .ok (.ifCond .ne 26, 3) := by decide +kernel
theorem dX2_oneMinute_22 : decode cX2_oneMinute 22 = .ok (.aload_n 0, 1) := by decide +kernel
theorem dX2_oneMinute_23 : decode cX2_oneMinute 23 = .ok (.getfield 17, 3) := by decide +kernel
theorem dX2_oneMinute_26 : decode cX2_oneMinute 26 = .ok (.getfield 40, 3) := by decide +kernel
theorem dX2_oneMinute_29 : decode cX2_oneMinute 29 = .ok (.iload_n 3, 1) := by decide +kernel
theorem dX2_oneMinute_30 : decode cX2_oneMinute 30 = .ok (.iaload, 1) := by decide +kernel
theorem dX2_oneMinute_31 : decode cX2_oneMinute 31 = .ok (.aload_n 1, 1) := by decide +kernel
theorem dX2_oneMinute_32 : decode cX2_oneMinute 32 = .ok (.getfield 43, 3) := by decide +kernel
theorem dX2_oneMinute_35 : decode cX2_oneMinute 35 = .ok (.if_icmp .ne 10, 3) := by decide +kernel
theorem dX2_oneMinute_38 : decode cX2_oneMinute 38 = .ok (.aload_n 1, 1) := by decide +kernel
theorem dX2_oneMinute_39 : decode cX2_oneMinute 39 = .ok (.getfield 36, 3) := by decide +kernel
theorem dX2_oneMinute_42 : decode cX2_oneMinute 42 = .ok (.iload_n 3, 1) := by decide +kernel
theorem dX2_oneMinute_43 : decode cX2_oneMinute 43 = .ok (.iconst 1, 1) := by decide +kernel
theorem dX2_oneMinute_44 : decode cX2_oneMinute 44 = .ok (.iastore, 1) := by decide +kernel
theorem dX2_oneMinute_45 : decode cX2_oneMinute 45 = .ok (.iinc 3 1, 3) := by decide +kernel
theorem dX2_oneMinute_48 : decode cX2_oneMinute 48 = .ok (.goto (-46), 3) := by decide +kernel
theorem dX2_oneMinute_51 : decode cX2_oneMinute 51 = .ok (.iconst 0, 1) := by decide +kernel
theorem dX2_oneMinute_52 : decode cX2_oneMinute 52 = .ok (.istore_n 3, 1) := by decide +kernel
theorem dX2_oneMinute_53 : decode cX2_oneMinute 53 = .ok (.iload_n 3, 1) := by decide +kernel
theorem dX2_oneMinute_54 : decode cX2_oneMinute 54 = .ok (.aload_n 0, 1) := by decide +kernel
theorem dX2_oneMinute_55 : decode cX2_oneMinute 55 = .ok (.getfield 17, 3) := by decide +kernel
theorem dX2_oneMinute_58 : decode cX2_oneMinute 58 = .ok (.getfield 31, 3) := by decide +kernel
theorem dX2_oneMinute_61 : decode cX2_oneMinute 61 = .ok (.if_icmp .ge 25, 3) := by decide +kernel
theorem dX2_oneMinute_64 : decode cX2_oneMinute 64 = .ok (.aload_n 1, 1) := by decide +kernel
theorem dX2_oneMinute_65 : decode cX2_oneMinute 65 = .ok (.getfield 36, 3) := by decide +kernel
theorem dX2_oneMinute_68 : decode cX2_oneMinute 68 = .ok (.iload_n 3, 1) := by decide +kernel
theorem dX2_oneMinute_69 : decode cX2_oneMinute 69 = .ok (.iaload, 1) := by decide +kernel
theorem dX2_oneMinute_70 : decode cX2_oneMinute 70 = .ok (.iconst 1, 1) := by decide +kernel
theorem dX2_oneMinute_71 : decode cX2_oneMinute 71 = .ok (.if_icmp .ne 9, 3) := by decide +kernel
theorem dX2_oneMinute_74 : decode cX2_oneMinute 74 = .ok (.aload_n 0, 1) := by decide +kernel
theorem dX2_oneMinute_75 : decode cX2_oneMinute 75 = .ok (.aload_n 1, 1) := by decide +kernel
theorem dX2_oneMinute_76 : decode cX2_oneMinute 76 = .ok (.iload_n 3, 1) := by decide +kernel
theorem dX2_oneMinute_77 : decode cX2_oneMinute 77 = .ok (.invokevirtual 46, 3) := by decide +kernel
theorem dX2_oneMinute_80 : decode cX2_oneMinute 80 = .ok (.iinc 3 1, 3) := by decide +kernel
theorem dX2_oneMinute_83 : decode cX2_oneMinute 83 = .ok (.goto (-30), 3) := by decide +kernel
theorem dX2_oneMinute_86 : decode cX2_oneMinute 86 = .ok (.aload_n 1, 1) := by decide +kernel
theorem dX2_oneMinute_87 : decode cX2_oneMinute 87 = .ok (.iconst 2, 1) := by decide +kernel
theorem dX2_oneMinute_88 : decode cX2_oneMinute 88 = .ok (.invokevirtual 49, 3) := by decide +kernel
theorem dX2_oneMinute_91 : decode cX2_oneMinute 91 = .ok (.ifCond .le 19, 3) := by decide +kernel
theorem dX2_oneMinute_94 : decode cX2_oneMinute 94 = .ok (.aload_n 0, 1) := by decide +kernel
theorem dX2_oneMinute_95 : decode cX2_oneMinute 95 = .ok (.aload_n 1, 1) := by decide +kernel
theorem dX2_oneMinute_96 : decode cX2_oneMinute 96 = .ok (.invokevirtual 53, 3) := by decide +kernel
theorem dX2_oneMinute_99 : decode cX2_oneMinute 99 = .ok (.aload_n 0, 1) := by decide +kernel
theorem dX2_oneMinute_100 : decode cX2_oneMinute 100 = .ok (.aload_n 1, 1) := by decide +kernel
theorem dX2_oneMinute_101 : decode cX2_oneMinute 101 = .ok (.invokevirtual 57, 3) := by decide +kernel
theorem dX2_oneMinute_104 : decode cX2_oneMinute 104 = .ok (.aload_n 0, 1) := by decide +kernel
theorem dX2_oneMinute_105 : decode cX2_oneMinute 105 = .ok (.aload_n 1, 1) := by decide +kernel
theorem dX2_oneMinute_106 : decode cX2_oneMinute 106 = .ok (.iload_n 2, 1) := by decide +kernel
theorem dX2_oneMinute_107 : decode cX2_oneMinute 107 = .ok (.invokevirtual 60, 3) := by decide +kernel
theorem dX2_oneMinute_110 : decode cX2_oneMinute 110 = .ok (.aload_n 1, 1) := by decide +kernel
theorem dX2_oneMinute_111 : decode cX2_oneMinute 111 = .ok (.dup, 1) := by decide +kernel
theorem dX2_oneMinute_112 : decode cX2_oneMinute 112 = .ok (.getfield 43, 3) := by decide +kernel
theorem dX2_oneMinute_115 : decode cX2_oneMinute 115 = .ok (.iconst 1, 1) := by decide +kernel
theorem dX2_oneMinute_116 : decode cX2_oneMinute 116 = .ok (.iadd, 1) := by decide +kernel
theorem dX2_oneMinute_117 : decode cX2_oneMinute 117 = .ok (.putfield 43, 3) := by decide +kernel
theorem dX2_oneMinute_120 : decode cX2_oneMinute 120 = .ok (.return_, 1) := by decide +kernel
theorem hd_X2_oneMinute : yX2_oneMinute.cls = xCn 2 ∧ yX2_oneMinute.cls ≠ "java/lang/invoke/MethodHandle" ∧ yX2_oneMinute.cls ≠ "java/lang/invoke/VarHandle" ∧ (parseMethodDescriptor yX2_oneMinute.desc).map (fun d => d.parameters.length) = some 2 := by decide +kernel
def k_X2_oneMinute_110 (sh : List xSh) (q1 : Nat) (d : xD) : Option xD :=
  (xgI 4 sh d q1 0).bind fun v1 => (xpI 4 sh d q1 0 (v1 + (1 : Int32))).bind fun d2 => some d2
def k_X2_oneMinute_86 (sh : List xSh) (q0 : Nat) (q1 : Nat) (x2 : Int32) (d : xD) : Option xD :=
  (xon 4 sh q1 (f_X4_howMany sh q1 (2 : Int32) d)).bind fun z3 => if z3.1 ≤ 0 then (k_X2_oneMinute_110 sh q1 z3.2) else ((xon 2 sh q0 (f_X2_talkByTwo sh q0 q1 z3.2)).bind fun d4 => (xon 2 sh q0 (f_X2_wearBenches sh q0 q1 d4)).bind fun d5 => (xon 2 sh q0 (f_X2_getUp sh q0 q1 x2 d5)).bind fun d6 => k_X2_oneMinute_110 sh q1 d6)
def k_X2_oneMinute_80 (sh : List xSh) (rec53 : Nat → Nat → Int32 → Int32 → xD → Option xD) (q0 : Nat) (q1 : Nat) (x2 : Int32) (x3 : Int32) (d : xD) : Option xD :=
  rec53 q0 q1 x2 (x3 + 1) d
def b_X2_oneMinute_53 (sh : List xSh) (rec53 : Nat → Nat → Int32 → Int32 → xD → Option xD) (q0 : Nat) (q1 : Nat) (x2 : Int32) (x3 : Int32) (d : xD) : Option xD :=
  (xgR 2 sh d q0 0).bind fun v7 => (xgI 3 sh d v7 9).bind fun v8 => if v8 ≤ x3 then (k_X2_oneMinute_86 sh q0 q1 x2 d) else ((xgR 4 sh d q1 5).bind fun v9 => (xaI .int sh d v9 x3).bind fun v10 => if v10 = (1 : Int32) then ((xon 2 sh q0 (f_X2_walk sh q0 q1 x3 d)).bind fun d11 => k_X2_oneMinute_80 sh rec53 q0 q1 x2 x3 d11) else (k_X2_oneMinute_80 sh rec53 q0 q1 x2 x3 d))
def k_X2_oneMinute_51 (sh : List xSh) (q0 : Nat) (q1 : Nat) (x2 : Int32) (d : xD) : Option xD :=
  xloop (fun _ _ _ _ _ => none) (b_X2_oneMinute_53 sh) xF q0 q1 x2 (0 : Int32) d
def k_X2_oneMinute_45 (sh : List xSh) (rec2 : Nat → Nat → Int32 → Int32 → xD → Option xD) (q0 : Nat) (q1 : Nat) (x2 : Int32) (x3 : Int32) (d : xD) : Option xD :=
  rec2 q0 q1 x2 (x3 + 1) d
def b_X2_oneMinute_2 (sh : List xSh) (rec2 : Nat → Nat → Int32 → Int32 → xD → Option xD) (q0 : Nat) (q1 : Nat) (x2 : Int32) (x3 : Int32) (d : xD) : Option xD :=
  (xgR 2 sh d q0 0).bind fun v12 => (xgI 3 sh d v12 9).bind fun v13 => if v13 ≤ x3 then (k_X2_oneMinute_51 sh q0 q1 x2 d) else ((xgR 4 sh d q1 5).bind fun v14 => (xaI .int sh d v14 x3).bind fun v15 => if v15 = 0 then ((xgR 2 sh d q0 0).bind fun v16 => (xgR 3 sh d v16 14).bind fun v17 => (xaI .int sh d v17 x3).bind fun v18 => (xgI 4 sh d q1 0).bind fun v19 => if v18 = v19 then ((xgR 4 sh d q1 5).bind fun v20 => (xsI .int sh d v20 x3 (1 : Int32)).bind fun d21 => k_X2_oneMinute_45 sh rec2 q0 q1 x2 x3 d21) else (k_X2_oneMinute_45 sh rec2 q0 q1 x2 x3 d)) else (k_X2_oneMinute_45 sh rec2 q0 q1 x2 x3 d))
def f_X2_oneMinute (sh : List xSh) (q0 : Nat) (q1 : Nat) (x2 : Int32) (d : xD) : Option xD :=
  xloop (fun _ _ _ _ _ => none) (b_X2_oneMinute_2 sh) xF q0 q1 x2 (0 : Int32) d
set_option maxHeartbeats 4000000 in
set_option maxRecDepth 100000 in
theorem mt_X2_oneMinute (l : Launch) (D : va_G) (cid : FieldType → ClassId) (b : Nat) (ex : Bool) (sa sv B0 : Nat) (sh : List xSh) (q0 : Nat) (q1 : Nat) (x2 : Int32) (d : xD) (dz : xD) (hf : f_X2_oneMinute sh q0 q1 x2 d = some dz) : xMet l yX2_oneMinute cX2_oneMinute 4 none 5 0 0 D cid b ex sa sv B0 [.ref (b + q0), .ref (b + q1), .int x2] sh d none sh dz := by
  refine xMet.of (by decide) (Nat.le_of_ble_eq_true rfl) ?_
  intro p e s m below meth c ls A S hr hin G hl
  have hl : lv_has ls 4 [(0, .ref (b + q0)), (1, .ref (b + q1)), (2, .int x2)] := hl
  generalize ([.ref (b + q0), .ref (b + q1), .int x2] : List Value).toArray = av at S ⊢
  have hx := S.1
  have hb := S.2.1
  have hml := S.2.2.1
  have hown := S.2.2.2.1
  have hts := S.2.2.2.2.1
  have K110 : ∀ (q1 : Nat) (d : xD), k_X2_oneMinute_110 sh q1 d = some dz → ∀ (H : Heap) (locs : List Loc) (ls : Array Slot), lv_has ls 4 [(1, .ref (b + q1))] → xG D cid b A sh d s H locs → W p l e (xRm 5 0 0) s m av below meth c H locs 0 0 (MQ below (xQ D cid b ex A none sh dz) av s 0 0 A) (F0 m 110 ls []) := by
    intro q1 d hf H locs ls hl G
    unfold k_X2_oneMinute_110 at hf
    refine lv_aload_n hx hb dX2_oneMinute_110 rfl (lv_at hl 0 rfl) ?_
    refine lv_dup hx hb dX2_oneMinute_111 rfl ?_
    obtain ⟨v1, hv1, hf⟩ := x_ob hf
    refine xr_getI (ci := 4) (k := 0) S G hv1 rfl kw_314 dX2_oneMinute_112 ?_
    refine lv_iconst (v := (1 : Int32)) hx hb dX2_oneMinute_115 (by decide) ?_
    refine lv_iadd hx hb dX2_oneMinute_116 ?_
    obtain ⟨d2, hd2, hf⟩ := x_ob hf
    refine xr_putI (ci := 4) (k := 0) S G hd2 rfl kw_314 dX2_oneMinute_117 (fun H locs G => ?_)
    cases hf
    exact xr_vret S G (fun _ => rfl) hr dX2_oneMinute_120
  have K86 : ∀ (q0 : Nat) (q1 : Nat) (x2 : Int32) (d : xD), k_X2_oneMinute_86 sh q0 q1 x2 d = some dz → ∀ (H : Heap) (locs : List Loc) (ls : Array Slot), lv_has ls 4 [(0, .ref (b + q0)), (1, .ref (b + q1)), (2, .int x2)] → xG D cid b A sh d s H locs → W p l e (xRm 5 0 0) s m av below meth c H locs 0 0 (MQ below (xQ D cid b ex A none sh dz) av s 0 0 A) (F0 m 86 ls []) := by
    intro q0 q1 x2 d hf H locs ls hl G
    unfold k_X2_oneMinute_86 at hf
    refine lv_aload_n hx hb dX2_oneMinute_86 rfl (lv_at hl 1 rfl) ?_
    refine lv_iconst (v := (2 : Int32)) hx hb dX2_oneMinute_87 (by decide) ?_
    obtain ⟨z3, hz3, hf⟩ := x_ob hf
    obtain ⟨hqz3, hz3⟩ := xon_of hz3
    refine xr_callV (ci := 4) (As := [.int (2 : Int32)]) (rest := []) (st1 := [.int z3.1]) S G hl.1 (fun _ => rfl) (mt_X4_howMany l D cid b ex sa sv B0 sh q1 (2 : Int32) d _ _ hz3) hqz3 (by decide) kw_855 kw_856 kw_857 kw_12 kw_858 hd_X4_howMany ⟨Nat.le_of_ble_eq_true rfl, Nat.le_of_ble_eq_true rfl⟩ rfl rfl rfl (Nat.le_of_ble_eq_true rfl) ⟨Nat.le_of_ble_eq_true rfl, Nat.le_of_ble_eq_true rfl⟩ dX2_oneMinute_88 (fun H locs G => ?_)
    refine lv_if_le (tgt := 110) hx hb dX2_oneMinute_91 (by decide) (fun c => ?_) (fun c => ?_)
    · have hf := x_pos c hf
      exact K110 q1 z3.2 hf _ _ ls (lv_sub hl [1] rfl) G
    · have hf := x_neg c hf
      refine lv_aload_n hx hb dX2_oneMinute_94 rfl (lv_at hl 0 rfl) ?_
      refine lv_aload_n hx hb dX2_oneMinute_95 rfl (lv_at hl 1 rfl) ?_
      obtain ⟨d4, hd4, hf⟩ := x_ob hf
      obtain ⟨hqd4, hd4⟩ := xon_of hd4
      refine xr_callV (ci := 2) (As := [.ref (b + q1)]) (rest := []) (st1 := []) S G hl.1 (fun _ => rfl) (mt_X2_talkByTwo l D cid b ex sa sv B0 sh q0 q1 z3.2 _ hd4) hqd4 (by decide) kw_859 kw_861 ks_24 kw_13 kw_862 hd_X2_talkByTwo ⟨Nat.le_of_ble_eq_true rfl, Nat.le_of_ble_eq_true rfl⟩ rfl rfl rfl (Nat.le_of_ble_eq_true rfl) ⟨Nat.le_of_ble_eq_true rfl, Nat.le_of_ble_eq_true rfl⟩ dX2_oneMinute_96 (fun H locs G => ?_)
      refine lv_aload_n hx hb dX2_oneMinute_99 rfl (lv_at hl 0 rfl) ?_
      refine lv_aload_n hx hb dX2_oneMinute_100 rfl (lv_at hl 1 rfl) ?_
      obtain ⟨d5, hd5, hf⟩ := x_ob hf
      obtain ⟨hqd5, hd5⟩ := xon_of hd5
      refine xr_callV (ci := 2) (As := [.ref (b + q1)]) (rest := []) (st1 := []) S G hl.1 (fun _ => rfl) (mt_X2_wearBenches l D cid b ex sa sv B0 sh q0 q1 d4 _ hd5) hqd5 (by decide) kw_879 kw_881 ks_26 kw_13 kw_882 hd_X2_wearBenches ⟨Nat.le_of_ble_eq_true rfl, Nat.le_of_ble_eq_true rfl⟩ rfl rfl rfl (Nat.le_of_ble_eq_true rfl) ⟨Nat.le_of_ble_eq_true rfl, Nat.le_of_ble_eq_true rfl⟩ dX2_oneMinute_101 (fun H locs G => ?_)
      refine lv_aload_n hx hb dX2_oneMinute_104 rfl (lv_at hl 0 rfl) ?_
      refine lv_aload_n hx hb dX2_oneMinute_105 rfl (lv_at hl 1 rfl) ?_
      refine lv_iload_n hx hb dX2_oneMinute_106 rfl (lv_at hl 2 rfl) ?_
      obtain ⟨d6, hd6, hf⟩ := x_ob hf
      obtain ⟨hqd6, hd6⟩ := xon_of hd6
      refine xr_callV (ci := 2) (As := [.ref (b + q1), .int x2]) (rest := []) (st1 := []) S G hl.1 (fun _ => rfl) (mt_X2_getUp l D cid b ex sa sv B0 sh q0 q1 x2 d5 _ hd6) hqd6 (by decide) kw_883 kw_885 ks_27 kw_13 kw_886 hd_X2_getUp ⟨Nat.le_of_ble_eq_true rfl, Nat.le_of_ble_eq_true rfl⟩ rfl rfl rfl (Nat.le_of_ble_eq_true rfl) ⟨Nat.le_of_ble_eq_true rfl, Nat.le_of_ble_eq_true rfl⟩ dX2_oneMinute_107 (fun H locs G => ?_)
      exact K110 q1 d6 hf _ _ ls (lv_sub hl [1] rfl) G
  have K80 : ∀ (rec53 : Nat → Nat → Int32 → Int32 → xD → Option xD) (hrec53 : ∀ (q0 : Nat) (q1 : Nat) (x2 : Int32) (x3 : Int32) (d : xD), rec53 q0 q1 x2 x3 d = some dz → ∀ (H : Heap) (locs : List Loc) (ls : Array Slot), lv_has ls 4 [(0, .ref (b + q0)), (1, .ref (b + q1)), (2, .int x2), (3, .int x3)] → xG D cid b A sh d s H locs → W p l e (xRm 5 0 0) s m av below meth c H locs 0 0 (MQ below (xQ D cid b ex A none sh dz) av s 0 0 A) (F0 m 53 ls [])) (q0 : Nat) (q1 : Nat) (x2 : Int32) (x3 : Int32) (d : xD), k_X2_oneMinute_80 sh rec53 q0 q1 x2 x3 d = some dz → ∀ (H : Heap) (locs : List Loc) (ls : Array Slot), lv_has ls 4 [(0, .ref (b + q0)), (1, .ref (b + q1)), (2, .int x2), (3, .int x3)] → xG D cid b A sh d s H locs → W p l e (xRm 5 0 0) s m av below meth c H locs 0 0 (MQ below (xQ D cid b ex A none sh dz) av s 0 0 A) (F0 m 80 ls []) := by
    intro rec53 hrec53 q0 q1 x2 x3 d hf H locs ls hl G
    unfold k_X2_oneMinute_80 at hf
    refine lv_iinc (v := (x3 + 1)) (lv' := [(3, .int (x3 + 1)), (0, .ref (b + q0)), (1, .ref (b + q1)), (2, .int x2)]) hx hb dX2_oneMinute_80 hl (k := 3) rfl rfl (by decide) rfl (fun ls hl => ?_)
    refine lv_goto (tgt := 53) hx hb dX2_oneMinute_83 (by decide) ?_
    exact hrec53 q0 q1 x2 (x3 + 1) d hf _ _ ls (lv_sub hl [1, 2, 3, 0] rfl) G
  have K53 : ∀ (n : Nat) (q0 : Nat) (q1 : Nat) (x2 : Int32) (x3 : Int32) (d : xD), xloop (fun _ _ _ _ _ => none) (b_X2_oneMinute_53 sh) n q0 q1 x2 x3 d = some dz → ∀ (H : Heap) (locs : List Loc) (ls : Array Slot), lv_has ls 4 [(0, .ref (b + q0)), (1, .ref (b + q1)), (2, .int x2), (3, .int x3)] → xG D cid b A sh d s H locs → W p l e (xRm 5 0 0) s m av below meth c H locs 0 0 (MQ below (xQ D cid b ex A none sh dz) av s 0 0 A) (F0 m 53 ls []) := by
    intro n
    induction n with
    | zero =>
      intro q0 q1 x2 x3 d hf
      have hf : (none : Option xD) = some dz := hf
      cases hf
    | succ n hrec53 =>
      intro q0 q1 x2 x3 d hf H locs ls hl G
      have hf : b_X2_oneMinute_53 sh (xloop (fun _ _ _ _ _ => none) (b_X2_oneMinute_53 sh) n) q0 q1 x2 x3 d = some dz := hf
      unfold b_X2_oneMinute_53 at hf
      refine lv_iload_n hx hb dX2_oneMinute_53 rfl (lv_at hl 3 rfl) ?_
      refine lv_aload_n hx hb dX2_oneMinute_54 rfl (lv_at hl 0 rfl) ?_
      obtain ⟨v7, hv7, hf⟩ := x_ob hf
      refine xr_getR (ci := 2) (k := 0) S G hv7 rfl kw_410 dX2_oneMinute_55 ?_
      obtain ⟨v8, hv8, hf⟩ := x_ob hf
      refine xr_getI (ci := 3) (k := 9) S G hv8 rfl kw_104 dX2_oneMinute_58 ?_
      refine lv_icmp_ge (tgt := 86) hx hb dX2_oneMinute_61 (by decide) (fun c => ?_) (fun c => ?_)
      · have hf := x_pos c hf
        exact K86 q0 q1 x2 d hf _ _ ls (lv_sub hl [0, 1, 2] rfl) G
      · have hf := x_neg c hf
        refine lv_aload_n hx hb dX2_oneMinute_64 rfl (lv_at hl 1 rfl) ?_
        obtain ⟨v9, hv9, hf⟩ := x_ob hf
        refine xr_getR (ci := 4) (k := 5) S G hv9 rfl kw_328 dX2_oneMinute_65 ?_
        refine lv_iload_n hx hb dX2_oneMinute_68 rfl (lv_at hl 3 rfl) ?_
        obtain ⟨v10, hv10, hf⟩ := x_ob hf
        refine xr_iald S G hv10 dX2_oneMinute_69 ?_
        refine lv_iconst (v := (1 : Int32)) hx hb dX2_oneMinute_70 (by decide) ?_
        refine lv_icmp_ne (tgt := 80) hx hb dX2_oneMinute_71 (by decide) (fun c => ?_) (fun c => ?_)
        · have hf := x_neg c hf
          exact K80 _ hrec53 q0 q1 x2 x3 d hf _ _ ls (lv_sub hl [0, 1, 2, 3] rfl) G
        · have hf := x_pos c hf
          refine lv_aload_n hx hb dX2_oneMinute_74 rfl (lv_at hl 0 rfl) ?_
          refine lv_aload_n hx hb dX2_oneMinute_75 rfl (lv_at hl 1 rfl) ?_
          refine lv_iload_n hx hb dX2_oneMinute_76 rfl (lv_at hl 3 rfl) ?_
          obtain ⟨d11, hd11, hf⟩ := x_ob hf
          obtain ⟨hqd11, hd11⟩ := xon_of hd11
          refine xr_callV (ci := 2) (As := [.ref (b + q1), .int x3]) (rest := []) (st1 := []) S G hl.1 (fun _ => rfl) (mt_X2_walk l D cid b ex sa sv B0 sh q0 q1 x3 d _ hd11) hqd11 (by decide) kw_839 kw_841 ks_22 kw_13 kw_842 hd_X2_walk ⟨Nat.le_of_ble_eq_true rfl, Nat.le_of_ble_eq_true rfl⟩ rfl rfl rfl (Nat.le_of_ble_eq_true rfl) ⟨Nat.le_of_ble_eq_true rfl, Nat.le_of_ble_eq_true rfl⟩ dX2_oneMinute_77 (fun H locs G => ?_)
          exact K80 _ hrec53 q0 q1 x2 x3 d11 hf _ _ ls (lv_sub hl [0, 1, 2, 3] rfl) G
  have K51 : ∀ (q0 : Nat) (q1 : Nat) (x2 : Int32) (d : xD), k_X2_oneMinute_51 sh q0 q1 x2 d = some dz → ∀ (H : Heap) (locs : List Loc) (ls : Array Slot), lv_has ls 4 [(0, .ref (b + q0)), (1, .ref (b + q1)), (2, .int x2)] → xG D cid b A sh d s H locs → W p l e (xRm 5 0 0) s m av below meth c H locs 0 0 (MQ below (xQ D cid b ex A none sh dz) av s 0 0 A) (F0 m 51 ls []) := by
    intro q0 q1 x2 d hf H locs ls hl G
    unfold k_X2_oneMinute_51 at hf
    refine lv_iconst (v := (0 : Int32)) hx hb dX2_oneMinute_51 (by decide) ?_
    refine lv_istore_n (lv' := [(3, .int (0 : Int32)), (0, .ref (b + q0)), (1, .ref (b + q1)), (2, .int x2)]) hx hb dX2_oneMinute_52 rfl hl (by decide) rfl (fun ls hl => ?_)
    exact K53 xF q0 q1 x2 (0 : Int32) d hf _ _ ls (lv_sub hl [1, 2, 3, 0] rfl) G
  have K45 : ∀ (rec2 : Nat → Nat → Int32 → Int32 → xD → Option xD) (hrec2 : ∀ (q0 : Nat) (q1 : Nat) (x2 : Int32) (x3 : Int32) (d : xD), rec2 q0 q1 x2 x3 d = some dz → ∀ (H : Heap) (locs : List Loc) (ls : Array Slot), lv_has ls 4 [(0, .ref (b + q0)), (1, .ref (b + q1)), (2, .int x2), (3, .int x3)] → xG D cid b A sh d s H locs → W p l e (xRm 5 0 0) s m av below meth c H locs 0 0 (MQ below (xQ D cid b ex A none sh dz) av s 0 0 A) (F0 m 2 ls [])) (q0 : Nat) (q1 : Nat) (x2 : Int32) (x3 : Int32) (d : xD), k_X2_oneMinute_45 sh rec2 q0 q1 x2 x3 d = some dz → ∀ (H : Heap) (locs : List Loc) (ls : Array Slot), lv_has ls 4 [(0, .ref (b + q0)), (1, .ref (b + q1)), (2, .int x2), (3, .int x3)] → xG D cid b A sh d s H locs → W p l e (xRm 5 0 0) s m av below meth c H locs 0 0 (MQ below (xQ D cid b ex A none sh dz) av s 0 0 A) (F0 m 45 ls []) := by
    intro rec2 hrec2 q0 q1 x2 x3 d hf H locs ls hl G
    unfold k_X2_oneMinute_45 at hf
    refine lv_iinc (v := (x3 + 1)) (lv' := [(3, .int (x3 + 1)), (0, .ref (b + q0)), (1, .ref (b + q1)), (2, .int x2)]) hx hb dX2_oneMinute_45 hl (k := 3) rfl rfl (by decide) rfl (fun ls hl => ?_)
    refine lv_goto (tgt := 2) hx hb dX2_oneMinute_48 (by decide) ?_
    exact hrec2 q0 q1 x2 (x3 + 1) d hf _ _ ls (lv_sub hl [1, 2, 3, 0] rfl) G
  have K2 : ∀ (n : Nat) (q0 : Nat) (q1 : Nat) (x2 : Int32) (x3 : Int32) (d : xD), xloop (fun _ _ _ _ _ => none) (b_X2_oneMinute_2 sh) n q0 q1 x2 x3 d = some dz → ∀ (H : Heap) (locs : List Loc) (ls : Array Slot), lv_has ls 4 [(0, .ref (b + q0)), (1, .ref (b + q1)), (2, .int x2), (3, .int x3)] → xG D cid b A sh d s H locs → W p l e (xRm 5 0 0) s m av below meth c H locs 0 0 (MQ below (xQ D cid b ex A none sh dz) av s 0 0 A) (F0 m 2 ls []) := by
    intro n
    induction n with
    | zero =>
      intro q0 q1 x2 x3 d hf
      have hf : (none : Option xD) = some dz := hf
      cases hf
    | succ n hrec2 =>
      intro q0 q1 x2 x3 d hf H locs ls hl G
      have hf : b_X2_oneMinute_2 sh (xloop (fun _ _ _ _ _ => none) (b_X2_oneMinute_2 sh) n) q0 q1 x2 x3 d = some dz := hf
      unfold b_X2_oneMinute_2 at hf
      refine lv_iload_n hx hb dX2_oneMinute_2 rfl (lv_at hl 3 rfl) ?_
      refine lv_aload_n hx hb dX2_oneMinute_3 rfl (lv_at hl 0 rfl) ?_
      obtain ⟨v12, hv12, hf⟩ := x_ob hf
      refine xr_getR (ci := 2) (k := 0) S G hv12 rfl kw_410 dX2_oneMinute_4 ?_
      obtain ⟨v13, hv13, hf⟩ := x_ob hf
      refine xr_getI (ci := 3) (k := 9) S G hv13 rfl kw_104 dX2_oneMinute_7 ?_
      refine lv_icmp_ge (tgt := 51) hx hb dX2_oneMinute_10 (by decide) (fun c => ?_) (fun c => ?_)
      · have hf := x_pos c hf
        exact K51 q0 q1 x2 d hf _ _ ls (lv_sub hl [0, 1, 2] rfl) G
      · have hf := x_neg c hf
        refine lv_aload_n hx hb dX2_oneMinute_13 rfl (lv_at hl 1 rfl) ?_
        obtain ⟨v14, hv14, hf⟩ := x_ob hf
        refine xr_getR (ci := 4) (k := 5) S G hv14 rfl kw_328 dX2_oneMinute_14 ?_
        refine lv_iload_n hx hb dX2_oneMinute_17 rfl (lv_at hl 3 rfl) ?_
        obtain ⟨v15, hv15, hf⟩ := x_ob hf
        refine xr_iald S G hv15 dX2_oneMinute_18 ?_
        refine lv_if_ne (tgt := 45) hx hb dX2_oneMinute_19 (by decide) (fun c => ?_) (fun c => ?_)
        · have hf := x_neg c hf
          exact K45 _ hrec2 q0 q1 x2 x3 d hf _ _ ls (lv_sub hl [0, 1, 2, 3] rfl) G
        · have hf := x_pos c hf
          refine lv_aload_n hx hb dX2_oneMinute_22 rfl (lv_at hl 0 rfl) ?_
          obtain ⟨v16, hv16, hf⟩ := x_ob hf
          refine xr_getR (ci := 2) (k := 0) S G hv16 rfl kw_410 dX2_oneMinute_23 ?_
          obtain ⟨v17, hv17, hf⟩ := x_ob hf
          refine xr_getR (ci := 3) (k := 14) S G hv17 rfl kw_115 dX2_oneMinute_26 ?_
          refine lv_iload_n hx hb dX2_oneMinute_29 rfl (lv_at hl 3 rfl) ?_
          obtain ⟨v18, hv18, hf⟩ := x_ob hf
          refine xr_iald S G hv18 dX2_oneMinute_30 ?_
          refine lv_aload_n hx hb dX2_oneMinute_31 rfl (lv_at hl 1 rfl) ?_
          obtain ⟨v19, hv19, hf⟩ := x_ob hf
          refine xr_getI (ci := 4) (k := 0) S G hv19 rfl kw_314 dX2_oneMinute_32 ?_
          refine lv_icmp_ne (tgt := 45) hx hb dX2_oneMinute_35 (by decide) (fun c => ?_) (fun c => ?_)
          · have hf := x_neg c hf
            exact K45 _ hrec2 q0 q1 x2 x3 d hf _ _ ls (lv_sub hl [0, 1, 2, 3] rfl) G
          · have hf := x_pos c hf
            refine lv_aload_n hx hb dX2_oneMinute_38 rfl (lv_at hl 1 rfl) ?_
            obtain ⟨v20, hv20, hf⟩ := x_ob hf
            refine xr_getR (ci := 4) (k := 5) S G hv20 rfl kw_328 dX2_oneMinute_39 ?_
            refine lv_iload_n hx hb dX2_oneMinute_42 rfl (lv_at hl 3 rfl) ?_
            refine lv_iconst (v := (1 : Int32)) hx hb dX2_oneMinute_43 (by decide) ?_
            obtain ⟨d21, hd21, hf⟩ := x_ob hf
            refine xr_iast S G hd21 dX2_oneMinute_44 (fun H locs G => ?_)
            exact K45 _ hrec2 q0 q1 x2 x3 d21 hf _ _ ls (lv_sub hl [0, 1, 2, 3] rfl) G
  unfold f_X2_oneMinute at hf
  refine lv_iconst (v := (0 : Int32)) hx hb dX2_oneMinute_0 (by decide) ?_
  refine lv_istore_n (lv' := [(3, .int (0 : Int32)), (0, .ref (b + q0)), (1, .ref (b + q1)), (2, .int x2)]) hx hb dX2_oneMinute_1 rfl hl (by decide) rfl (fun ls hl => ?_)
  exact K2 xF q0 q1 x2 (0 : Int32) d hf _ _ ls (lv_sub hl [1, 2, 3, 0] rfl) G

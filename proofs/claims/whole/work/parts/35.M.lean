-- HalfLandingsModel.walks(II)V
theorem dX10_walks_0 : decode cX10_walks 0 = .ok (.bipush 6, 2) := by decide +kernel
theorem dX10_walks_2 : decode cX10_walks 2 = .ok (.iload_n 1, 1) := by decide +kernel
theorem dX10_walks_3 : decode cX10_walks 3 = .ok (.imul, 1) := by decide +kernel
theorem dX10_walks_4 : decode cX10_walks 4 = .ok (.iload_n 2, 1) := by decide +kernel
theorem dX10_walks_5 : decode cX10_walks 5 = .ok (.iadd, 1) := by decide +kernel
theorem dX10_walks_6 : decode cX10_walks 6 = .ok (.istore_n 3, 1) := by decide +kernel
theorem dX10_walks_7 : decode cX10_walks 7 = .ok (.iconst 0, 1) := by decide +kernel
theorem dX10_walks_8 : decode cX10_walks 8 = .ok (.istore 4, 2) := by decide +kernel
theorem dX10_walks_10 : decode cX10_walks 10 = .ok (.iload 4, 2) := by decide +kernel
theorem dX10_walks_12 : decode cX10_walks 12 = .ok (.aload_n 0, 1) := by decide +kernel
theorem dX10_walks_13 : decode cX10_walks 13 = .ok (.iload_n 2, 1) := by decide +kernel
theorem dX10_walks_14 : decode cX10_walks 14 = .ok (.invokevirtual 340, 3) := by decide +kernel
theorem dX10_walks_17 : decode cX10_walks 17 = .ok (.if_icmp .ge 134, 3) := by decide +kernel
theorem dX10_walks_20 : decode cX10_walks 20 = .ok (.aload_n 0, 1) := by decide +kernel
theorem dX10_walks_21 : decode cX10_walks 21 = .ok (.getfield 90, 3) := by decide +kernel
theorem dX10_walks_24 : decode cX10_walks 24 = .ok (.iload_n 3, 1) := by decide +kernel
theorem dX10_walks_25 : decode cX10_walks 25 = .ok (.iaload, 1) := by decide +kernel
theorem dX10_walks_26 : decode cX10_walks 26 = .ok (.aload_n 0, 1) := by decide +kernel
theorem dX10_walks_27 : decode cX10_walks 27 = .ok (.getfield 93, 3) := by decide +kernel
theorem dX10_walks_30 : decode cX10_walks 30 = .ok (.iload_n 3, 1) := by decide +kernel
theorem dX10_walks_31 : decode cX10_walks 31 = .ok (.iaload, 1) := by decide +kernel
theorem dX10_walks_32 : decode cX10_walks 32 = .ok (.iconst 1, 1) := by decide +kernel
theorem dX10_walks_33 : decode cX10_walks 33 = .ok (.if_icmp .ne 7, 3) := by decide +kernel
theorem dX10_walks_36 : decode cX10_walks 36 = .ok (.iconst (-1), 1) := by decide +kernel
theorem dX10_walks_37 : decode cX10_walks 37 = .ok (.goto 4, 3) := by decide +kernel
theorem dX10_walks_40 : decode cX10_walks 40 = .ok (.iconst 1, 1) := by decide +kernel
theorem dX10_walks_41 : decode cX10_walks 41 = .ok (.iadd, 1) := by decide +kernel
theorem dX10_walks_42 : decode cX10_walks 42 = .ok (.istore 5, 2) := by decide +kernel
theorem dX10_walks_44 : decode cX10_walks 44 = .ok (.iload 5, 2) := by decide +kernel
theorem dX10_walks_46 : decode cX10_walks 46 = .ok (.ifCond .lt 14, 3) := by decide +kernel
theorem dX10_walks_49 : decode cX10_walks 49 = .ok (.iload 5, 2) := by decide +kernel
theorem dX10_walks_51 : decode cX10_walks 51 = .ok (.aload_n 0, 1) := by decide +kernel
theorem dX10_walks_52 : decode cX10_walks 52 = .ok (.getfield 13, 3) := by decide +kernel
theorem dX10_walks_55 : decode cX10_walks 55 = .ok (.iconst 0, 1) := by decide +kernel
theorem dX10_walks_56 : decode cX10_walks 56 = .ok (.iaload, 1) := by decide +kernel
theorem dX10_walks_57 : decode cX10_walks 57 = .ok (.if_icmp .le 10, 3) := by decide +kernel
theorem dX10_walks_60 : decode cX10_walks 60 = .ok (.aload_n 0, 1) := by decide +kernel
theorem dX10_walks_61 : decode cX10_walks 61 = .ok (.iload_n 1, 1) := by decide +kernel
theorem dX10_walks_62 : decode cX10_walks 62 = .ok (.iload_n 2, 1) := by decide +kernel
theorem dX10_walks_63 : decode cX10_walks 63 = .ok (.invokevirtual 379, 3) := by decide +kernel
theorem dX10_walks_66 : decode cX10_walks 66 = .ok (.return_, 1) := by decide +kernel
theorem dX10_walks_67 : decode cX10_walks 67 = .ok (.aload_n 0, 1) := by decide +kernel
theorem dX10_walks_68 : decode cX10_walks 68 = .ok (.getfield 81, 3) := by decide +kernel
theorem dX10_walks_71 : decode cX10_walks 71 = .ok (.iload_n 1, 1) := by decide +kernel
theorem dX10_walks_72 : decode cX10_walks 72 = .ok (.iaload, 1) := by decide +kernel
theorem dX10_walks_73 : decode cX10_walks 73 = .ok (.ifCond .le 29, 3) := by decide +kernel
theorem dX10_walks_76 : decode cX10_walks 76 = .ok (.iload 5, 2) := by decide +kernel
theorem dX10_walks_78 : decode cX10_walks 78 = .ok (.aload_n 0, 1) := by decide +kernel
theorem dX10_walks_79 : decode cX10_walks 79 = .ok (.getfield 81, 3) := by decide +kernel
theorem dX10_walks_82 : decode cX10_walks 82 = .ok (.iload_n 1, 1) := by decide +kernel
theorem dX10_walks_83 : decode cX10_walks 83 = .ok (.iaload, 1) := by decide +kernel
theorem dX10_walks_84 : decode cX10_walks 84 = .ok (.if_icmp .ne 18, 3) := by decide +kernel
theorem dX10_walks_87 : decode cX10_walks 87 = .ok (.aload_n 0, 1) := by decide +kernel
theorem dX10_walks_88 : decode cX10_walks 88 = .ok (.getfield 93, 3) := by decide +kernel
theorem dX10_walks_91 : decode cX10_walks 91 = .ok (.iload_n 3, 1) := by decide +kernel
theorem dX10_walks_92 : decode cX10_walks 92 = .ok (.iconst 1, 1) := by decide +kernel
theorem dX10_walks_93 : decode cX10_walks 93 = .ok (.aload_n 0, 1) := by decide +kernel
theorem dX10_walks_94 : decode cX10_walks 94 = .ok (.getfield 93, 3) := by decide +kernel
theorem dX10_walks_97 : decode cX10_walks 97 = .ok (.iload_n 3, 1) := by decide +kernel
theorem dX10_walks_98 : decode cX10_walks 98 = .ok (.iaload, 1) := by decide +kernel
theorem dX10_walks_99 : decode cX10_walks 99 = .ok (.isub, 1) := by decide +kernel
theorem dX10_walks_100 : decode cX10_walks 100 = .ok (.iastore, 1) := by decide +kernel
theorem dX10_walks_101 : decode cX10_walks 101 = .ok (.return_, 1) := by decide +kernel
theorem dX10_walks_102 : decode cX10_walks 102 = .ok (.aload_n 0, 1) := by decide +kernel
theorem dX10_walks_103 : decode cX10_walks 103 = .ok (.getfield 90, 3) := by decide +kernel
theorem dX10_walks_106 : decode cX10_walks 106 = .ok (.iload_n 3, 1) := by decide +kernel
theorem dX10_walks_107 : decode cX10_walks 107 = .ok (.iload 5, 2) := by decide +kernel
theorem dX10_walks_109 : decode cX10_walks 109 = .ok (.iastore, 1) := by decide +kernel
theorem dX10_walks_110 : decode cX10_walks 110 = .ok (.iload 5, 2) := by decide +kernel
theorem dX10_walks_112 : decode cX10_walks 112 = .ok (.ifCond .eq 14, 3) := by decide +kernel
theorem dX10_walks_115 : decode cX10_walks 115 = .ok (.iload 5, 2) := by decide +kernel
theorem dX10_walks_117 : decode cX10_walks 117 = .ok (.aload_n 0, 1) := by decide +kernel
theorem dX10_walks_118 : decode cX10_walks 118 = .ok (.getfield 13, 3) := by decide +kernel
theorem dX10_walks_121 : decode cX10_walks 121 = .ok (.iconst 0, 1) := by decide +kernel
theorem dX10_walks_122 : decode cX10_walks 122 = .ok (.iaload, 1) := by decide +kernel
theorem dX10_walks_123 : decode cX10_walks 123 = .ok (.if_icmp .ne 10, 3) := by decide +kernel
theorem dX10_walks_126 : decode cX10_walks 126 = .ok (.aload_n 0, 1) := by decide +kernel
theorem dX10_walks_127 : decode cX10_walks 127 = .ok (.iload_n 1, 1) := by decide +kernel
theorem dX10_walks_128 : decode cX10_walks 128 = .ok (.iload_n 2, 1) := by decide +kernel
theorem dX10_walks_129 : decode cX10_walks 129 = .ok (.invokevirtual 379, 3) := by decide +kernel
theorem dX10_walks_132 : decode cX10_walks 132 = .ok (.return_, 1) := by decide +kernel
theorem dX10_walks_133 : decode cX10_walks 133 = .ok (.aload_n 0, 1) := by decide +kernel
theorem dX10_walks_134 : decode cX10_walks 134 = .ok (.iload_n 1, 1) := by decide +kernel
theorem dX10_walks_135 : decode cX10_walks 135 = .ok (.iload_n 2, 1) := by decide +kernel
theorem dX10_walks_136 : decode cX10_walks 136 = .ok (.iload 5, 2) := by decide +kernel
theorem dX10_walks_138 : decode cX10_walks 138 = .ok (.invokevirtual 382, 3) := by decide +kernel
theorem dX10_walks_141 : decode cX10_walks 141 = .ok (.ifCond .eq 4, 3) := by decide +kernel
theorem dX10_walks_144 : decode cX10_walks 144 = .ok (.return_, 1) := by decide +kernel
theorem dX10_walks_145 : decode cX10_walks 145 = .ok (.iinc 4 1, 3) := by decide +kernel
theorem dX10_walks_148 : decode cX10_walks 148 = .ok (.goto (-138), 3) := by decide +kernel
theorem dX10_walks_151 : decode cX10_walks 151 = .ok (.return_, 1) := by decide +kernel
theorem hd_X10_walks : yX10_walks.cls = xCn 10 ∧ yX10_walks.cls ≠ "java/lang/invoke/MethodHandle" ∧ yX10_walks.cls ≠ "java/lang/invoke/VarHandle" ∧ (parseMethodDescriptor yX10_walks.desc).map (fun d => d.parameters.length) = some 2 := by decide +kernel
def k_X10_walks_151 (sh : List xSh) (d : xD) : Option xD :=
  some d
def k_X10_walks_60 (sh : List xSh) (q0 : Nat) (x1 : Int32) (x2 : Int32) (d : xD) : Option xD :=
  (xon 10 sh q0 (f_X10_goesOut sh q0 x1 x2 d)).bind fun d1 => some d1
def k_X10_walks_126 (sh : List xSh) (q0 : Nat) (x1 : Int32) (x2 : Int32) (d : xD) : Option xD :=
  (xon 10 sh q0 (f_X10_goesOut sh q0 x1 x2 d)).bind fun d2 => some d2
def k_X10_walks_144 (sh : List xSh) (d : xD) : Option xD :=
  some d
def k_X10_walks_102 (sh : List xSh) (rec10 : Nat → Int32 → Int32 → Int32 → Int32 → xD → Option xD) (q0 : Nat) (x1 : Int32) (x2 : Int32) (x3 : Int32) (x4 : Int32) (x5 : Int32) (d : xD) : Option xD :=
  (xgR 10 sh d q0 41).bind fun v3 => (xsI .int sh d v3 x3 x5).bind fun d4 => if x5 = 0 then (k_X10_walks_126 sh q0 x1 x2 d4) else ((xgR 10 sh d4 q0 3).bind fun v5 => (xaI .int sh d4 v5 (0 : Int32)).bind fun v6 => if x5 = v6 then (k_X10_walks_126 sh q0 x1 x2 d4) else ((xon 10 sh q0 (f_X10_sitsAt sh q0 x1 x2 x5 d4)).bind fun z7 => if z7.1 = 0 then (rec10 q0 x1 x2 x3 (x4 + 1) z7.2) else (k_X10_walks_144 sh z7.2)))
def k_X10_walks_87 (sh : List xSh) (q0 : Nat) (x3 : Int32) (d : xD) : Option xD :=
  (xgR 10 sh d q0 42).bind fun v8 => (xgR 10 sh d q0 42).bind fun v9 => (xaI .int sh d v9 x3).bind fun v10 => (xsI .int sh d v8 x3 ((1 : Int32) - v10)).bind fun d11 => some d11
def k_X10_walks_41 (sh : List xSh) (rec10 : Nat → Int32 → Int32 → Int32 → Int32 → xD → Option xD) (q0 : Nat) (x1 : Int32) (x2 : Int32) (x3 : Int32) (x4 : Int32) (y0 : Int32) (y1 : Int32) (d : xD) : Option xD :=
  if (y0 + y1) < 0 then (k_X10_walks_60 sh q0 x1 x2 d) else ((xgR 10 sh d q0 3).bind fun v12 => (xaI .int sh d v12 (0 : Int32)).bind fun v13 => if (y0 + y1) ≤ v13 then ((xgR 10 sh d q0 38).bind fun v14 => (xaI .int sh d v14 x1).bind fun v15 => if v15 ≤ 0 then (k_X10_walks_102 sh rec10 q0 x1 x2 x3 x4 (y0 + y1) d) else ((xgR 10 sh d q0 38).bind fun v16 => (xaI .int sh d v16 x1).bind fun v17 => if (y0 + y1) = v17 then (k_X10_walks_87 sh q0 x3 d) else (k_X10_walks_102 sh rec10 q0 x1 x2 x3 x4 (y0 + y1) d))) else (k_X10_walks_60 sh q0 x1 x2 d))
def b_X10_walks_10 (sh : List xSh) (rec10 : Nat → Int32 → Int32 → Int32 → Int32 → xD → Option xD) (q0 : Nat) (x1 : Int32) (x2 : Int32) (x3 : Int32) (x4 : Int32) (d : xD) : Option xD :=
  (xon 10 sh q0 (f_X10_paceOf sh q0 x2 d)).bind fun z18 => if z18.1 ≤ x4 then (k_X10_walks_151 sh z18.2) else ((xgR 10 sh z18.2 q0 41).bind fun v19 => (xaI .int sh z18.2 v19 x3).bind fun v20 => (xgR 10 sh z18.2 q0 42).bind fun v21 => (xaI .int sh z18.2 v21 x3).bind fun v22 => if v22 = (1 : Int32) then (k_X10_walks_41 sh rec10 q0 x1 x2 x3 x4 v20 (-1 : Int32) z18.2) else (k_X10_walks_41 sh rec10 q0 x1 x2 x3 x4 v20 (1 : Int32) z18.2))
def f_X10_walks (sh : List xSh) (q0 : Nat) (x1 : Int32) (x2 : Int32) (d : xD) : Option xD :=
  xloop (fun _ _ _ _ _ _ => none) (b_X10_walks_10 sh) xF q0 x1 x2 (((6 : Int32) * x1) + x2) (0 : Int32) d
set_option maxHeartbeats 4000000 in
set_option maxRecDepth 100000 in
theorem mt_X10_walks (l : Launch) (D : va_G) (cid : FieldType → ClassId) (b : Nat) (ex : Bool) (sa sv B0 : Nat) (sh : List xSh) (q0 : Nat) (x1 : Int32) (x2 : Int32) (d : xD) (dz : xD) (hf : f_X10_walks sh q0 x1 x2 d = some dz) : xMet l yX10_walks cX10_walks 6 none 4 0 0 D cid b ex sa sv B0 [.ref (b + q0), .int x1, .int x2] sh d none sh dz := by
  refine xMet.of (by decide) (Nat.le_of_ble_eq_true rfl) ?_
  intro p e s m below meth c ls A S hr hin G hl
  have hl : lv_has ls 6 [(0, .ref (b + q0)), (1, .int x1), (2, .int x2)] := hl
  generalize ([.ref (b + q0), .int x1, .int x2] : List Value).toArray = av at S ⊢
  have hx := S.1
  have hb := S.2.1
  have hml := S.2.2.1
  have hown := S.2.2.2.1
  have hts := S.2.2.2.2.1
  have K151 : ∀ (d : xD), k_X10_walks_151 sh d = some dz → ∀ (H : Heap) (locs : List Loc) (ls : Array Slot), lv_has ls 6 [] → xG D cid b A sh d s H locs → W p l e (xRm 4 0 0) s m av below meth c H locs 0 0 (MQ below (xQ D cid b ex A none sh dz) av s 0 0 A) (F0 m 151 ls []) := by
    intro d hf H locs ls hl G
    unfold k_X10_walks_151 at hf
    cases hf
    exact xr_vret S G (fun _ => rfl) hr dX10_walks_151
  have K60 : ∀ (q0 : Nat) (x1 : Int32) (x2 : Int32) (d : xD), k_X10_walks_60 sh q0 x1 x2 d = some dz → ∀ (H : Heap) (locs : List Loc) (ls : Array Slot), lv_has ls 6 [(0, .ref (b + q0)), (1, .int x1), (2, .int x2)] → xG D cid b A sh d s H locs → W p l e (xRm 4 0 0) s m av below meth c H locs 0 0 (MQ below (xQ D cid b ex A none sh dz) av s 0 0 A) (F0 m 60 ls []) := by
    intro q0 x1 x2 d hf H locs ls hl G
    unfold k_X10_walks_60 at hf
    refine lv_aload_n hx hb dX10_walks_60 rfl (lv_at hl 0 rfl) ?_
    refine lv_iload_n hx hb dX10_walks_61 rfl (lv_at hl 1 rfl) ?_
    refine lv_iload_n hx hb dX10_walks_62 rfl (lv_at hl 2 rfl) ?_
    obtain ⟨d1, hd1, hf⟩ := x_ob hf
    obtain ⟨hqd1, hd1⟩ := xon_of hd1
    refine xr_callV (ci := 10) (As := [.int x1, .int x2]) (rest := []) (st1 := []) S G hl.1 (fun _ => rfl) (mt_X10_goesOut l D cid b ex sa sv B0 sh q0 x1 x2 d _ hd1) hqd1 (by decide) kw_1624 kw_1626 ks_81 kw_17 kw_1627 hd_X10_goesOut ⟨Nat.le_of_ble_eq_true rfl, Nat.le_of_ble_eq_true rfl⟩ rfl rfl rfl (Nat.le_of_ble_eq_true rfl) ⟨Nat.le_of_ble_eq_true rfl, Nat.le_of_ble_eq_true rfl⟩ dX10_walks_63 (fun H locs G => ?_)
    cases hf
    exact xr_vret S G (fun _ => rfl) hr dX10_walks_66
  have K126 : ∀ (q0 : Nat) (x1 : Int32) (x2 : Int32) (d : xD), k_X10_walks_126 sh q0 x1 x2 d = some dz → ∀ (H : Heap) (locs : List Loc) (ls : Array Slot), lv_has ls 6 [(0, .ref (b + q0)), (1, .int x1), (2, .int x2)] → xG D cid b A sh d s H locs → W p l e (xRm 4 0 0) s m av below meth c H locs 0 0 (MQ below (xQ D cid b ex A none sh dz) av s 0 0 A) (F0 m 126 ls []) := by
    intro q0 x1 x2 d hf H locs ls hl G
    unfold k_X10_walks_126 at hf
    refine lv_aload_n hx hb dX10_walks_126 rfl (lv_at hl 0 rfl) ?_
    refine lv_iload_n hx hb dX10_walks_127 rfl (lv_at hl 1 rfl) ?_
    refine lv_iload_n hx hb dX10_walks_128 rfl (lv_at hl 2 rfl) ?_
    obtain ⟨d2, hd2, hf⟩ := x_ob hf
    obtain ⟨hqd2, hd2⟩ := xon_of hd2
    refine xr_callV (ci := 10) (As := [.int x1, .int x2]) (rest := []) (st1 := []) S G hl.1 (fun _ => rfl) (mt_X10_goesOut l D cid b ex sa sv B0 sh q0 x1 x2 d _ hd2) hqd2 (by decide) kw_1624 kw_1626 ks_81 kw_17 kw_1627 hd_X10_goesOut ⟨Nat.le_of_ble_eq_true rfl, Nat.le_of_ble_eq_true rfl⟩ rfl rfl rfl (Nat.le_of_ble_eq_true rfl) ⟨Nat.le_of_ble_eq_true rfl, Nat.le_of_ble_eq_true rfl⟩ dX10_walks_129 (fun H locs G => ?_)
    cases hf
    exact xr_vret S G (fun _ => rfl) hr dX10_walks_132
  have K144 : ∀ (d : xD), k_X10_walks_144 sh d = some dz → ∀ (H : Heap) (locs : List Loc) (ls : Array Slot), lv_has ls 6 [] → xG D cid b A sh d s H locs → W p l e (xRm 4 0 0) s m av below meth c H locs 0 0 (MQ below (xQ D cid b ex A none sh dz) av s 0 0 A) (F0 m 144 ls []) := by
    intro d hf H locs ls hl G
    unfold k_X10_walks_144 at hf
    cases hf
    exact xr_vret S G (fun _ => rfl) hr dX10_walks_144
  have K102 : ∀ (rec10 : Nat → Int32 → Int32 → Int32 → Int32 → xD → Option xD) (hrec10 : ∀ (q0 : Nat) (x1 : Int32) (x2 : Int32) (x3 : Int32) (x4 : Int32) (d : xD), rec10 q0 x1 x2 x3 x4 d = some dz → ∀ (H : Heap) (locs : List Loc) (ls : Array Slot), lv_has ls 6 [(0, .ref (b + q0)), (1, .int x1), (2, .int x2), (3, .int x3), (4, .int x4)] → xG D cid b A sh d s H locs → W p l e (xRm 4 0 0) s m av below meth c H locs 0 0 (MQ below (xQ D cid b ex A none sh dz) av s 0 0 A) (F0 m 10 ls [])) (q0 : Nat) (x1 : Int32) (x2 : Int32) (x3 : Int32) (x4 : Int32) (x5 : Int32) (d : xD), k_X10_walks_102 sh rec10 q0 x1 x2 x3 x4 x5 d = some dz → ∀ (H : Heap) (locs : List Loc) (ls : Array Slot), lv_has ls 6 [(0, .ref (b + q0)), (1, .int x1), (2, .int x2), (3, .int x3), (4, .int x4), (5, .int x5)] → xG D cid b A sh d s H locs → W p l e (xRm 4 0 0) s m av below meth c H locs 0 0 (MQ below (xQ D cid b ex A none sh dz) av s 0 0 A) (F0 m 102 ls []) := by
    intro rec10 hrec10 q0 x1 x2 x3 x4 x5 d hf H locs ls hl G
    unfold k_X10_walks_102 at hf
    refine lv_aload_n hx hb dX10_walks_102 rfl (lv_at hl 0 rfl) ?_
    obtain ⟨v3, hv3, hf⟩ := x_ob hf
    refine xr_getR (ci := 10) (k := 41) S G hv3 rfl kw_1209 dX10_walks_103 ?_
    refine lv_iload_n hx hb dX10_walks_106 rfl (lv_at hl 3 rfl) ?_
    refine lv_iload hx hb dX10_walks_107 (lv_at hl 5 rfl) ?_
    obtain ⟨d4, hd4, hf⟩ := x_ob hf
    refine xr_iast S G hd4 dX10_walks_109 (fun H locs G => ?_)
    refine lv_iload hx hb dX10_walks_110 (lv_at hl 5 rfl) ?_
    refine lv_if_eq (tgt := 126) hx hb dX10_walks_112 (by decide) (fun c => ?_) (fun c => ?_)
    · have hf := x_pos c hf
      exact K126 q0 x1 x2 d4 hf _ _ ls (lv_sub hl [0, 1, 2] rfl) G
    · have hf := x_neg c hf
      refine lv_iload hx hb dX10_walks_115 (lv_at hl 5 rfl) ?_
      refine lv_aload_n hx hb dX10_walks_117 rfl (lv_at hl 0 rfl) ?_
      obtain ⟨v5, hv5, hf⟩ := x_ob hf
      refine xr_getR (ci := 10) (k := 3) S G hv5 rfl kw_1171 dX10_walks_118 ?_
      refine lv_iconst (v := (0 : Int32)) hx hb dX10_walks_121 (by decide) ?_
      obtain ⟨v6, hv6, hf⟩ := x_ob hf
      refine xr_iald S G hv6 dX10_walks_122 ?_
      refine lv_icmp_ne (tgt := 133) hx hb dX10_walks_123 (by decide) (fun c => ?_) (fun c => ?_)
      · have hf := x_neg c hf
        refine lv_aload_n hx hb dX10_walks_133 rfl (lv_at hl 0 rfl) ?_
        refine lv_iload_n hx hb dX10_walks_134 rfl (lv_at hl 1 rfl) ?_
        refine lv_iload_n hx hb dX10_walks_135 rfl (lv_at hl 2 rfl) ?_
        refine lv_iload hx hb dX10_walks_136 (lv_at hl 5 rfl) ?_
        obtain ⟨z7, hz7, hf⟩ := x_ob hf
        obtain ⟨hqz7, hz7⟩ := xon_of hz7
        refine xr_callV (ci := 10) (As := [.int x1, .int x2, .int x5]) (rest := []) (st1 := [.int z7.1]) S G hl.1 (fun _ => rfl) (mt_X10_sitsAt l D cid b ex sa sv B0 sh q0 x1 x2 x5 d4 _ _ hz7) hqz7 (by decide) kw_1628 kw_1630 ks_82 kw_17 kw_1631 hd_X10_sitsAt ⟨Nat.le_of_ble_eq_true rfl, Nat.le_of_ble_eq_true rfl⟩ rfl rfl rfl (Nat.le_of_ble_eq_true rfl) ⟨Nat.le_of_ble_eq_true rfl, Nat.le_of_ble_eq_true rfl⟩ dX10_walks_138 (fun H locs G => ?_)
        refine lv_if_eq (tgt := 145) hx hb dX10_walks_141 (by decide) (fun c => ?_) (fun c => ?_)
        · have hf := x_pos c hf
          refine lv_iinc (v := (x4 + 1)) (lv' := [(4, .int (x4 + 1)), (0, .ref (b + q0)), (1, .int x1), (2, .int x2), (3, .int x3), (5, .int x5)]) hx hb dX10_walks_145 hl (k := 4) rfl rfl (by decide) rfl (fun ls hl => ?_)
          refine lv_goto (tgt := 10) hx hb dX10_walks_148 (by decide) ?_
          exact hrec10 q0 x1 x2 x3 (x4 + 1) z7.2 hf _ _ ls (lv_sub hl [1, 2, 3, 4, 0] rfl) G
        · have hf := x_neg c hf
          exact K144 z7.2 hf _ _ ls (lv_sub hl [] rfl) G
      · have hf := x_pos c hf
        exact K126 q0 x1 x2 d4 hf _ _ ls (lv_sub hl [0, 1, 2] rfl) G
  have K87 : ∀ (q0 : Nat) (x3 : Int32) (d : xD), k_X10_walks_87 sh q0 x3 d = some dz → ∀ (H : Heap) (locs : List Loc) (ls : Array Slot), lv_has ls 6 [(0, .ref (b + q0)), (3, .int x3)] → xG D cid b A sh d s H locs → W p l e (xRm 4 0 0) s m av below meth c H locs 0 0 (MQ below (xQ D cid b ex A none sh dz) av s 0 0 A) (F0 m 87 ls []) := by
    intro q0 x3 d hf H locs ls hl G
    unfold k_X10_walks_87 at hf
    refine lv_aload_n hx hb dX10_walks_87 rfl (lv_at hl 0 rfl) ?_
    obtain ⟨v8, hv8, hf⟩ := x_ob hf
    refine xr_getR (ci := 10) (k := 42) S G hv8 rfl kw_1210 dX10_walks_88 ?_
    refine lv_iload_n hx hb dX10_walks_91 rfl (lv_at hl 1 rfl) ?_
    refine lv_iconst (v := (1 : Int32)) hx hb dX10_walks_92 (by decide) ?_
    refine lv_aload_n hx hb dX10_walks_93 rfl (lv_at hl 0 rfl) ?_
    obtain ⟨v9, hv9, hf⟩ := x_ob hf
    refine xr_getR (ci := 10) (k := 42) S G hv9 rfl kw_1210 dX10_walks_94 ?_
    refine lv_iload_n hx hb dX10_walks_97 rfl (lv_at hl 1 rfl) ?_
    obtain ⟨v10, hv10, hf⟩ := x_ob hf
    refine xr_iald S G hv10 dX10_walks_98 ?_
    refine lv_isub hx hb dX10_walks_99 ?_
    obtain ⟨d11, hd11, hf⟩ := x_ob hf
    refine xr_iast S G hd11 dX10_walks_100 (fun H locs G => ?_)
    cases hf
    exact xr_vret S G (fun _ => rfl) hr dX10_walks_101
  have K41 : ∀ (rec10 : Nat → Int32 → Int32 → Int32 → Int32 → xD → Option xD) (hrec10 : ∀ (q0 : Nat) (x1 : Int32) (x2 : Int32) (x3 : Int32) (x4 : Int32) (d : xD), rec10 q0 x1 x2 x3 x4 d = some dz → ∀ (H : Heap) (locs : List Loc) (ls : Array Slot), lv_has ls 6 [(0, .ref (b + q0)), (1, .int x1), (2, .int x2), (3, .int x3), (4, .int x4)] → xG D cid b A sh d s H locs → W p l e (xRm 4 0 0) s m av below meth c H locs 0 0 (MQ below (xQ D cid b ex A none sh dz) av s 0 0 A) (F0 m 10 ls [])) (q0 : Nat) (x1 : Int32) (x2 : Int32) (x3 : Int32) (x4 : Int32) (y0 : Int32) (y1 : Int32) (d : xD), k_X10_walks_41 sh rec10 q0 x1 x2 x3 x4 y0 y1 d = some dz → ∀ (H : Heap) (locs : List Loc) (ls : Array Slot), lv_has ls 6 [(0, .ref (b + q0)), (1, .int x1), (2, .int x2), (3, .int x3), (4, .int x4)] → xG D cid b A sh d s H locs → W p l e (xRm 4 0 0) s m av below meth c H locs 0 0 (MQ below (xQ D cid b ex A none sh dz) av s 0 0 A) (F0 m 41 ls [.int y1, .int y0]) := by
    intro rec10 hrec10 q0 x1 x2 x3 x4 y0 y1 d hf H locs ls hl G
    unfold k_X10_walks_41 at hf
    refine lv_iadd hx hb dX10_walks_41 ?_
    refine lv_istore (lv' := [(5, .int (y0 + y1)), (0, .ref (b + q0)), (1, .int x1), (2, .int x2), (3, .int x3), (4, .int x4)]) hx hb dX10_walks_42 hl (by decide) rfl (fun ls hl => ?_)
    refine lv_iload hx hb dX10_walks_44 (lv_at hl 0 rfl) ?_
    refine lv_if_lt (tgt := 60) hx hb dX10_walks_46 (by decide) (fun c => ?_) (fun c => ?_)
    · have hf := x_pos c hf
      exact K60 q0 x1 x2 d hf _ _ ls (lv_sub hl [1, 2, 3] rfl) G
    · have hf := x_neg c hf
      refine lv_iload hx hb dX10_walks_49 (lv_at hl 0 rfl) ?_
      refine lv_aload_n hx hb dX10_walks_51 rfl (lv_at hl 1 rfl) ?_
      obtain ⟨v12, hv12, hf⟩ := x_ob hf
      refine xr_getR (ci := 10) (k := 3) S G hv12 rfl kw_1171 dX10_walks_52 ?_
      refine lv_iconst (v := (0 : Int32)) hx hb dX10_walks_55 (by decide) ?_
      obtain ⟨v13, hv13, hf⟩ := x_ob hf
      refine xr_iald S G hv13 dX10_walks_56 ?_
      refine lv_icmp_le (tgt := 67) hx hb dX10_walks_57 (by decide) (fun c => ?_) (fun c => ?_)
      · have hf := x_pos c hf
        refine lv_aload_n hx hb dX10_walks_67 rfl (lv_at hl 1 rfl) ?_
        obtain ⟨v14, hv14, hf⟩ := x_ob hf
        refine xr_getR (ci := 10) (k := 38) S G hv14 rfl kw_1206 dX10_walks_68 ?_
        refine lv_iload_n hx hb dX10_walks_71 rfl (lv_at hl 2 rfl) ?_
        obtain ⟨v15, hv15, hf⟩ := x_ob hf
        refine xr_iald S G hv15 dX10_walks_72 ?_
        refine lv_if_le (tgt := 102) hx hb dX10_walks_73 (by decide) (fun c => ?_) (fun c => ?_)
        · have hf := x_pos c hf
          exact K102 _ hrec10 q0 x1 x2 x3 x4 (y0 + y1) d hf _ _ ls (lv_sub hl [1, 2, 3, 4, 5, 0] rfl) G
        · have hf := x_neg c hf
          refine lv_iload hx hb dX10_walks_76 (lv_at hl 0 rfl) ?_
          refine lv_aload_n hx hb dX10_walks_78 rfl (lv_at hl 1 rfl) ?_
          obtain ⟨v16, hv16, hf⟩ := x_ob hf
          refine xr_getR (ci := 10) (k := 38) S G hv16 rfl kw_1206 dX10_walks_79 ?_
          refine lv_iload_n hx hb dX10_walks_82 rfl (lv_at hl 2 rfl) ?_
          obtain ⟨v17, hv17, hf⟩ := x_ob hf
          refine xr_iald S G hv17 dX10_walks_83 ?_
          refine lv_icmp_ne (tgt := 102) hx hb dX10_walks_84 (by decide) (fun c => ?_) (fun c => ?_)
          · have hf := x_neg c hf
            exact K102 _ hrec10 q0 x1 x2 x3 x4 (y0 + y1) d hf _ _ ls (lv_sub hl [1, 2, 3, 4, 5, 0] rfl) G
          · have hf := x_pos c hf
            exact K87 q0 x3 d hf _ _ ls (lv_sub hl [1, 4] rfl) G
      · have hf := x_neg c hf
        exact K60 q0 x1 x2 d hf _ _ ls (lv_sub hl [1, 2, 3] rfl) G
  have K10 : ∀ (n : Nat) (q0 : Nat) (x1 : Int32) (x2 : Int32) (x3 : Int32) (x4 : Int32) (d : xD), xloop (fun _ _ _ _ _ _ => none) (b_X10_walks_10 sh) n q0 x1 x2 x3 x4 d = some dz → ∀ (H : Heap) (locs : List Loc) (ls : Array Slot), lv_has ls 6 [(0, .ref (b + q0)), (1, .int x1), (2, .int x2), (3, .int x3), (4, .int x4)] → xG D cid b A sh d s H locs → W p l e (xRm 4 0 0) s m av below meth c H locs 0 0 (MQ below (xQ D cid b ex A none sh dz) av s 0 0 A) (F0 m 10 ls []) := by
    intro n
    induction n with
    | zero =>
      intro q0 x1 x2 x3 x4 d hf
      have hf : (none : Option xD) = some dz := hf
      cases hf
    | succ n hrec10 =>
      intro q0 x1 x2 x3 x4 d hf H locs ls hl G
      have hf : b_X10_walks_10 sh (xloop (fun _ _ _ _ _ _ => none) (b_X10_walks_10 sh) n) q0 x1 x2 x3 x4 d = some dz := hf
      unfold b_X10_walks_10 at hf
      refine lv_iload hx hb dX10_walks_10 (lv_at hl 4 rfl) ?_
      refine lv_aload_n hx hb dX10_walks_12 rfl (lv_at hl 0 rfl) ?_
      refine lv_iload_n hx hb dX10_walks_13 rfl (lv_at hl 2 rfl) ?_
      obtain ⟨z18, hz18, hf⟩ := x_ob hf
      obtain ⟨hqz18, hz18⟩ := xon_of hz18
      refine xr_callV (ci := 10) (As := [.int x2]) (rest := [.int x4]) (st1 := [.int z18.1, .int x4]) S G hl.1 (fun _ => rfl) (mt_X10_paceOf l D cid b ex sa sv B0 sh q0 x2 d _ _ hz18) hqz18 (by decide) kw_1548 kw_1550 ks_68 kw_17 kw_1551 hd_X10_paceOf ⟨Nat.le_of_ble_eq_true rfl, Nat.le_of_ble_eq_true rfl⟩ rfl rfl rfl (Nat.le_of_ble_eq_true rfl) ⟨Nat.le_of_ble_eq_true rfl, Nat.le_of_ble_eq_true rfl⟩ dX10_walks_14 (fun H locs G => ?_)
      refine lv_icmp_ge (tgt := 151) hx hb dX10_walks_17 (by decide) (fun c => ?_) (fun c => ?_)
      · have hf := x_pos c hf
        exact K151 z18.2 hf _ _ ls (lv_sub hl [] rfl) G
      · have hf := x_neg c hf
        refine lv_aload_n hx hb dX10_walks_20 rfl (lv_at hl 0 rfl) ?_
        obtain ⟨v19, hv19, hf⟩ := x_ob hf
        refine xr_getR (ci := 10) (k := 41) S G hv19 rfl kw_1209 dX10_walks_21 ?_
        refine lv_iload_n hx hb dX10_walks_24 rfl (lv_at hl 3 rfl) ?_
        obtain ⟨v20, hv20, hf⟩ := x_ob hf
        refine xr_iald S G hv20 dX10_walks_25 ?_
        refine lv_aload_n hx hb dX10_walks_26 rfl (lv_at hl 0 rfl) ?_
        obtain ⟨v21, hv21, hf⟩ := x_ob hf
        refine xr_getR (ci := 10) (k := 42) S G hv21 rfl kw_1210 dX10_walks_27 ?_
        refine lv_iload_n hx hb dX10_walks_30 rfl (lv_at hl 3 rfl) ?_
        obtain ⟨v22, hv22, hf⟩ := x_ob hf
        refine xr_iald S G hv22 dX10_walks_31 ?_
        refine lv_iconst (v := (1 : Int32)) hx hb dX10_walks_32 (by decide) ?_
        refine lv_icmp_ne (tgt := 40) hx hb dX10_walks_33 (by decide) (fun c => ?_) (fun c => ?_)
        · have hf := x_neg c hf
          refine lv_iconst (v := (1 : Int32)) hx hb dX10_walks_40 (by decide) ?_
          exact K41 _ hrec10 q0 x1 x2 x3 x4 v20 (1 : Int32) z18.2 hf _ _ ls (lv_sub hl [0, 1, 2, 3, 4] rfl) G
        · have hf := x_pos c hf
          refine lv_iconst (v := (-1 : Int32)) hx hb dX10_walks_36 (by decide) ?_
          refine lv_goto (tgt := 41) hx hb dX10_walks_37 (by decide) ?_
          exact K41 _ hrec10 q0 x1 x2 x3 x4 v20 (-1 : Int32) z18.2 hf _ _ ls (lv_sub hl [0, 1, 2, 3, 4] rfl) G
  unfold f_X10_walks at hf
  refine lv_bipush (v := (6 : Int32)) hx hb dX10_walks_0 (by decide) ?_
  refine lv_iload_n hx hb dX10_walks_2 rfl (lv_at hl 1 rfl) ?_
  refine lv_imul hx hb dX10_walks_3 ?_
  refine lv_iload_n hx hb dX10_walks_4 rfl (lv_at hl 2 rfl) ?_
  refine lv_iadd hx hb dX10_walks_5 ?_
  refine lv_istore_n (lv' := [(3, .int (((6 : Int32) * x1) + x2)), (0, .ref (b + q0)), (1, .int x1), (2, .int x2)]) hx hb dX10_walks_6 rfl hl (by decide) rfl (fun ls hl => ?_)
  refine lv_iconst (v := (0 : Int32)) hx hb dX10_walks_7 (by decide) ?_
  refine lv_istore (lv' := [(4, .int (0 : Int32)), (3, .int (((6 : Int32) * x1) + x2)), (0, .ref (b + q0)), (1, .int x1), (2, .int x2)]) hx hb dX10_walks_8 hl (by decide) rfl (fun ls hl => ?_)
  exact K10 xF q0 x1 x2 (((6 : Int32) * x1) + x2) (0 : Int32) d hf _ _ ls (lv_sub hl [2, 3, 4, 1, 0] rfl) G
-- HalfLandingsModel.talks(II)V
theorem dX10_talks_0 : decode cX10_talks 0 = .ok (.aload_n 0, 1) := by decide +kernel
theorem dX10_talks_1 : decode cX10_talks 1 = .ok (.iload_n 1, 1) := by decide +kernel
theorem dX10_talks_2 : decode cX10_talks 2 = .ok (.iload_n 2, 1) := by decide +kernel
theorem dX10_talks_3 : decode cX10_talks 3 = .ok (.invokevirtual 334, 3) := by decide +kernel
theorem dX10_talks_6 : decode cX10_talks 6 = .ok (.istore_n 3, 1) := by decide +kernel
theorem dX10_talks_7 : decode cX10_talks 7 = .ok (.iconst 0, 1) := by decide +kernel
theorem dX10_talks_8 : decode cX10_talks 8 = .ok (.istore 4, 2) := by decide +kernel
theorem dX10_talks_10 : decode cX10_talks 10 = .ok (.iload 4, 2) := by decide +kernel
theorem dX10_talks_12 : decode cX10_talks 12 = .ok (.aload_n 0, 1) := by decide +kernel
theorem dX10_talks_13 : decode cX10_talks 13 = .ok (.getfield 13, 3) := by decide +kernel
theorem dX10_talks_16 : decode cX10_talks 16 = .ok (.iconst 2, 1) := by decide +kernel
theorem dX10_talks_17 : decode cX10_talks 17 = .ok (.iaload, 1) := by decide +kernel
theorem dX10_talks_18 : decode cX10_talks 18 = .ok (.if_icmp .ge 121, 3) := by decide +kernel
theorem dX10_talks_21 : decode cX10_talks 21 = .ok (.iload 4, 2) := by decide +kernel
theorem dX10_talks_23 : decode cX10_talks 23 = .ok (.iconst 1, 1) := by decide +kernel
theorem dX10_talks_24 : decode cX10_talks 24 = .ok (.iadd, 1) := by decide +kernel
theorem dX10_talks_25 : decode cX10_talks 25 = .ok (.istore 5, 2) := by decide +kernel
theorem dX10_talks_27 : decode cX10_talks 27 = .ok (.iload 5, 2) := by decide +kernel
theorem dX10_talks_29 : decode cX10_talks 29 = .ok (.aload_n 0, 1) := by decide +kernel
theorem dX10_talks_30 : decode cX10_talks 30 = .ok (.getfield 13, 3) := by decide +kernel
theorem dX10_talks_33 : decode cX10_talks 33 = .ok (.iconst 2, 1) := by decide +kernel
theorem dX10_talks_34 : decode cX10_talks 34 = .ok (.iaload, 1) := by decide +kernel
theorem dX10_talks_35 : decode cX10_talks 35 = .ok (.if_icmp .ge 98, 3) := by decide +kernel
theorem dX10_talks_38 : decode cX10_talks 38 = .ok (.iload_n 3, 1) := by decide +kernel
theorem dX10_talks_39 : decode cX10_talks 39 = .ok (.iload 4, 2) := by decide +kernel
theorem dX10_talks_41 : decode cX10_talks 41 = .ok (.ishr, 1) := by decide +kernel
theorem dX10_talks_42 : decode cX10_talks 42 = .ok (.iload_n 3, 1) := by decide +kernel
theorem dX10_talks_43 : decode cX10_talks 43 = .ok (.iload 5, 2) := by decide +kernel
theorem dX10_talks_45 : decode cX10_talks 45 = .ok (.ishr, 1) := by decide +kernel
theorem dX10_talks_46 : decode cX10_talks 46 = .ok (.iand, 1) := by decide +kernel
theorem dX10_talks_47 : decode cX10_talks 47 = .ok (.iconst 1, 1) := by decide +kernel
theorem dX10_talks_48 : decode cX10_talks 48 = .ok (.iand, 1) := by decide +kernel
theorem dX10_talks_49 : decode cX10_talks 49 = .ok (.ifCond .ne 6, 3) := by decide +kernel
theorem dX10_talks_52 : decode cX10_talks 52 = .ok (.goto 75, 3) := by decide +kernel
theorem dX10_talks_55 : decode cX10_talks 55 = .ok (.aload_n 0, 1) := by decide +kernel
theorem dX10_talks_56 : decode cX10_talks 56 = .ok (.iload_n 1, 1) := by decide +kernel
theorem dX10_talks_57 : decode cX10_talks 57 = .ok (.iload 4, 2) := by decide +kernel
theorem dX10_talks_59 : decode cX10_talks 59 = .ok (.iload_n 2, 1) := by decide +kernel
theorem dX10_talks_60 : decode cX10_talks 60 = .ok (.invokevirtual 375, 3) := by decide +kernel
theorem dX10_talks_63 : decode cX10_talks 63 = .ok (.aload_n 0, 1) := by decide +kernel
theorem dX10_talks_64 : decode cX10_talks 64 = .ok (.getfield 78, 3) := by decide +kernel
theorem dX10_talks_67 : decode cX10_talks 67 = .ok (.iload_n 1, 1) := by decide +kernel
theorem dX10_talks_68 : decode cX10_talks 68 = .ok (.ldc 183, 2) := by decide +kernel
theorem dX10_talks_70 : decode cX10_talks 70 = .ok (.aload_n 0, 1) := by decide +kernel
theorem dX10_talks_71 : decode cX10_talks 71 = .ok (.getfield 78, 3) := by decide +kernel
theorem dX10_talks_74 : decode cX10_talks 74 = .ok (.iload_n 1, 1) := by decide +kernel
theorem dX10_talks_75 : decode cX10_talks 75 = .ok (.iaload, 1) := by decide +kernel
theorem dX10_talks_76 : decode cX10_talks 76 = .ok (.aload_n 0, 1) := by decide +kernel
theorem dX10_talks_77 : decode cX10_talks 77 = .ok (.iconst 1, 1) := by decide +kernel
theorem dX10_talks_78 : decode cX10_talks 78 = .ok (.bipush 99, 2) := by decide +kernel
theorem dX10_talks_80 : decode cX10_talks 80 = .ok (.iconst 1, 1) := by decide +kernel
theorem dX10_talks_81 : decode cX10_talks 81 = .ok (.invokevirtual 386, 3) := by decide +kernel
theorem dX10_talks_84 : decode cX10_talks 84 = .ok (.iadd, 1) := by decide +kernel
theorem dX10_talks_85 : decode cX10_talks 85 = .ok (.invokestatic 390, 3) := by decide +kernel
theorem dX10_talks_88 : decode cX10_talks 88 = .ok (.iastore, 1) := by decide +kernel
theorem dX10_talks_89 : decode cX10_talks 89 = .ok (.aload_n 0, 1) := by decide +kernel
theorem dX10_talks_90 : decode cX10_talks 90 = .ok (.getfield 105, 3) := by decide +kernel
theorem dX10_talks_93 : decode cX10_talks 93 = .ok (.bipush 6, 2) := by decide +kernel
theorem dX10_talks_95 : decode cX10_talks 95 = .ok (.iload_n 1, 1) := by decide +kernel
theorem dX10_talks_96 : decode cX10_talks 96 = .ok (.imul, 1) := by decide +kernel
theorem dX10_talks_97 : decode cX10_talks 97 = .ok (.iload 4, 2) := by decide +kernel
theorem dX10_talks_99 : decode cX10_talks 99 = .ok (.iadd, 1) := by decide +kernel
theorem dX10_talks_100 : decode cX10_talks 100 = .ok (.dup2, 1) := by decide +kernel
theorem dX10_talks_101 : decode cX10_talks 101 = .ok (.iaload, 1) := by decide +kernel
theorem dX10_talks_102 : decode cX10_talks 102 = .ok (.iconst 1, 1) := by decide +kernel
theorem dX10_talks_103 : decode cX10_talks 103 = .ok (.iload 5, 2) := by decide +kernel
theorem dX10_talks_105 : decode cX10_talks 105 = .ok (.ishl, 1) := by decide +kernel
theorem dX10_talks_106 : decode cX10_talks 106 = .ok (.ior, 1) := by decide +kernel
theorem dX10_talks_107 : decode cX10_talks 107 = .ok (.iastore, 1) := by decide +kernel
theorem dX10_talks_108 : decode cX10_talks 108 = .ok (.aload_n 0, 1) := by decide +kernel
theorem dX10_talks_109 : decode cX10_talks 109 = .ok (.getfield 105, 3) := by decide +kernel
theorem dX10_talks_112 : decode cX10_talks 112 = .ok (.bipush 6, 2) := by decide +kernel
theorem dX10_talks_114 : decode cX10_talks 114 = .ok (.iload_n 1, 1) := by decide +kernel
theorem dX10_talks_115 : decode cX10_talks 115 = .ok (.imul, 1) := by decide +kernel
theorem dX10_talks_116 : decode cX10_talks 116 = .ok (.iload 5, 2) := by decide +kernel
theorem dX10_talks_118 : decode cX10_talks 118 = .ok (.iadd, 1) := by decide +kernel
theorem dX10_talks_119 : decode cX10_talks 119 = .ok (.dup2, 1) := by decide +kernel
theorem dX10_talks_120 : decode cX10_talks 120 = .ok (.iaload, 1) := by decide +kernel
theorem dX10_talks_121 : decode cX10_talks 121 = .ok (.iconst 1, 1) := by decide +kernel
theorem dX10_talks_122 : decode cX10_talks 122 = .ok (.iload 4, 2) := by decide +kernel
theorem dX10_talks_124 : decode cX10_talks 124 = .ok (.ishl, 1) := by decide +kernel
theorem dX10_talks_125 : decode cX10_talks 125 = .ok (.ior, 1) := by decide +kernel
theorem dX10_talks_126 : decode cX10_talks 126 = .ok (.iastore, 1) := by decide +kernel
theorem dX10_talks_127 : decode cX10_talks 127 = .ok (.iinc 5 1, 3) := by decide +kernel
theorem dX10_talks_130 : decode cX10_talks 130 = .ok (.goto (-103), 3) := by decide +kernel
theorem dX10_talks_133 : decode cX10_talks 133 = .ok (.iinc 4 1, 3) := by decide +kernel
theorem dX10_talks_136 : decode cX10_talks 136 = .ok (.goto (-126), 3) := by decide +kernel
theorem dX10_talks_139 : decode cX10_talks 139 = .ok (.return_, 1) := by decide +kernel
theorem hd_X10_talks : yX10_talks.cls = xCn 10 ∧ yX10_talks.cls ≠ "java/lang/invoke/MethodHandle" ∧ yX10_talks.cls ≠ "java/lang/invoke/VarHandle" ∧ (parseMethodDescriptor yX10_talks.desc).map (fun d => d.parameters.length) = some 2 := by decide +kernel
def k_X10_talks_139 (sh : List xSh) (d : xD) : Option xD :=
  some d
def k_X10_talks_133 (sh : List xSh) (rec10 : Nat → Int32 → Int32 → Int32 → Int32 → xD → Option xD) (q0 : Nat) (x1 : Int32) (x2 : Int32) (x3 : Int32) (x4 : Int32) (d : xD) : Option xD :=
  rec10 q0 x1 x2 x3 (x4 + 1) d
def k_X10_talks_127 (sh : List xSh) (rec10 : Nat → Int32 → Int32 → Int32 → Int32 → xD → Option xD) (rec27 : Nat → Int32 → Int32 → Int32 → Int32 → Int32 → xD → Option xD) (q0 : Nat) (x1 : Int32) (x2 : Int32) (x3 : Int32) (x4 : Int32) (x5 : Int32) (d : xD) : Option xD :=
  rec27 q0 x1 x2 x3 x4 (x5 + 1) d
def b_X10_talks_27 (sh : List xSh) (rec10 : Nat → Int32 → Int32 → Int32 → Int32 → xD → Option xD) (rec27 : Nat → Int32 → Int32 → Int32 → Int32 → Int32 → xD → Option xD) (q0 : Nat) (x1 : Int32) (x2 : Int32) (x3 : Int32) (x4 : Int32) (x5 : Int32) (d : xD) : Option xD :=
  (xgR 10 sh d q0 3).bind fun v1 => (xaI .int sh d v1 (2 : Int32)).bind fun v2 => if v2 ≤ x5 then (k_X10_talks_133 sh rec10 q0 x1 x2 x3 x4 d) else (if (((x3 >>> (x4 &&& 31)) &&& (x3 >>> (x5 &&& 31))) &&& (1 : Int32)) = 0 then (k_X10_talks_127 sh rec10 rec27 q0 x1 x2 x3 x4 x5 d) else ((xon 10 sh q0 (f_X10_calls sh q0 x1 x4 x2 d)).bind fun d3 => (xgR 10 sh d3 q0 37).bind fun v4 => (xgR 10 sh d3 q0 37).bind fun v5 => (xaI .int sh d3 v5 x1).bind fun v6 => (xon 10 sh q0 (f_X10_within sh q0 (1 : Int32) (99 : Int32) (1 : Int32) d3)).bind fun z7 => (xsI .int sh z7.2 v4 x1 (if (v6 + z7.1) < (99999 : Int32) then (v6 + z7.1) else (99999 : Int32))).bind fun d8 => (xgR 10 sh d8 q0 46).bind fun v9 => (xaI .int sh d8 v9 (((6 : Int32) * x1) + x4)).bind fun v10 => (xsI .int sh d8 v9 (((6 : Int32) * x1) + x4) (v10 ||| ((1 : Int32) <<< (x5 &&& 31)))).bind fun d11 => (xgR 10 sh d11 q0 46).bind fun v12 => (xaI .int sh d11 v12 (((6 : Int32) * x1) + x5)).bind fun v13 => (xsI .int sh d11 v12 (((6 : Int32) * x1) + x5) (v13 ||| ((1 : Int32) <<< (x4 &&& 31)))).bind fun d14 => k_X10_talks_127 sh rec10 rec27 q0 x1 x2 x3 x4 x5 d14))
def b_X10_talks_10 (sh : List xSh) (rec10 : Nat → Int32 → Int32 → Int32 → Int32 → xD → Option xD) (q0 : Nat) (x1 : Int32) (x2 : Int32) (x3 : Int32) (x4 : Int32) (d : xD) : Option xD :=
  (xgR 10 sh d q0 3).bind fun v15 => (xaI .int sh d v15 (2 : Int32)).bind fun v16 => if v16 ≤ x4 then (k_X10_talks_139 sh d) else (xloop (fun _ _ _ _ _ _ _ => none) (b_X10_talks_27 sh rec10) xF q0 x1 x2 x3 x4 (x4 + (1 : Int32)) d)
def f_X10_talks (sh : List xSh) (q0 : Nat) (x1 : Int32) (x2 : Int32) (d : xD) : Option xD :=
  (xon 10 sh q0 (f_X10_sitting sh q0 x1 x2 d)).bind fun z17 => xloop (fun _ _ _ _ _ _ => none) (b_X10_talks_10 sh) xF q0 x1 x2 z17.1 (0 : Int32) z17.2
set_option maxHeartbeats 4000000 in
set_option maxRecDepth 100000 in
theorem mt_X10_talks (l : Launch) (D : va_G) (cid : FieldType → ClassId) (b : Nat) (ex : Bool) (sa sv B0 : Nat) (sh : List xSh) (q0 : Nat) (x1 : Int32) (x2 : Int32) (d : xD) (dz : xD) (hf : f_X10_talks sh q0 x1 x2 d = some dz) : xMet l yX10_talks cX10_talks 6 none 4 0 0 D cid b ex sa sv B0 [.ref (b + q0), .int x1, .int x2] sh d none sh dz := by
  refine xMet.of (by decide) (Nat.le_of_ble_eq_true rfl) ?_
  intro p e s m below meth c ls A S hr hin G hl
  have hl : lv_has ls 6 [(0, .ref (b + q0)), (1, .int x1), (2, .int x2)] := hl
  generalize ([.ref (b + q0), .int x1, .int x2] : List Value).toArray = av at S ⊢
  have hx := S.1
  have hb := S.2.1
  have hml := S.2.2.1
  have hown := S.2.2.2.1
  have hts := S.2.2.2.2.1
  have K139 : ∀ (d : xD), k_X10_talks_139 sh d = some dz → ∀ (H : Heap) (locs : List Loc) (ls : Array Slot), lv_has ls 6 [] → xG D cid b A sh d s H locs → W p l e (xRm 4 0 0) s m av below meth c H locs 0 0 (MQ below (xQ D cid b ex A none sh dz) av s 0 0 A) (F0 m 139 ls []) := by
    intro d hf H locs ls hl G
    unfold k_X10_talks_139 at hf
    cases hf
    exact xr_vret S G (fun _ => rfl) hr dX10_talks_139
  have K133 : ∀ (rec10 : Nat → Int32 → Int32 → Int32 → Int32 → xD → Option xD) (hrec10 : ∀ (q0 : Nat) (x1 : Int32) (x2 : Int32) (x3 : Int32) (x4 : Int32) (d : xD), rec10 q0 x1 x2 x3 x4 d = some dz → ∀ (H : Heap) (locs : List Loc) (ls : Array Slot), lv_has ls 6 [(0, .ref (b + q0)), (1, .int x1), (2, .int x2), (3, .int x3), (4, .int x4)] → xG D cid b A sh d s H locs → W p l e (xRm 4 0 0) s m av below meth c H locs 0 0 (MQ below (xQ D cid b ex A none sh dz) av s 0 0 A) (F0 m 10 ls [])) (q0 : Nat) (x1 : Int32) (x2 : Int32) (x3 : Int32) (x4 : Int32) (d : xD), k_X10_talks_133 sh rec10 q0 x1 x2 x3 x4 d = some dz → ∀ (H : Heap) (locs : List Loc) (ls : Array Slot), lv_has ls 6 [(0, .ref (b + q0)), (1, .int x1), (2, .int x2), (3, .int x3), (4, .int x4)] → xG D cid b A sh d s H locs → W p l e (xRm 4 0 0) s m av below meth c H locs 0 0 (MQ below (xQ D cid b ex A none sh dz) av s 0 0 A) (F0 m 133 ls []) := by
    intro rec10 hrec10 q0 x1 x2 x3 x4 d hf H locs ls hl G
    unfold k_X10_talks_133 at hf
    refine lv_iinc (v := (x4 + 1)) (lv' := [(4, .int (x4 + 1)), (0, .ref (b + q0)), (1, .int x1), (2, .int x2), (3, .int x3)]) hx hb dX10_talks_133 hl (k := 4) rfl rfl (by decide) rfl (fun ls hl => ?_)
    refine lv_goto (tgt := 10) hx hb dX10_talks_136 (by decide) ?_
    exact hrec10 q0 x1 x2 x3 (x4 + 1) d hf _ _ ls (lv_sub hl [1, 2, 3, 4, 0] rfl) G
  have K127 : ∀ (rec10 : Nat → Int32 → Int32 → Int32 → Int32 → xD → Option xD) (hrec10 : ∀ (q0 : Nat) (x1 : Int32) (x2 : Int32) (x3 : Int32) (x4 : Int32) (d : xD), rec10 q0 x1 x2 x3 x4 d = some dz → ∀ (H : Heap) (locs : List Loc) (ls : Array Slot), lv_has ls 6 [(0, .ref (b + q0)), (1, .int x1), (2, .int x2), (3, .int x3), (4, .int x4)] → xG D cid b A sh d s H locs → W p l e (xRm 4 0 0) s m av below meth c H locs 0 0 (MQ below (xQ D cid b ex A none sh dz) av s 0 0 A) (F0 m 10 ls [])) (rec27 : Nat → Int32 → Int32 → Int32 → Int32 → Int32 → xD → Option xD) (hrec27 : ∀ (q0 : Nat) (x1 : Int32) (x2 : Int32) (x3 : Int32) (x4 : Int32) (x5 : Int32) (d : xD), rec27 q0 x1 x2 x3 x4 x5 d = some dz → ∀ (H : Heap) (locs : List Loc) (ls : Array Slot), lv_has ls 6 [(0, .ref (b + q0)), (1, .int x1), (2, .int x2), (3, .int x3), (4, .int x4), (5, .int x5)] → xG D cid b A sh d s H locs → W p l e (xRm 4 0 0) s m av below meth c H locs 0 0 (MQ below (xQ D cid b ex A none sh dz) av s 0 0 A) (F0 m 27 ls [])) (q0 : Nat) (x1 : Int32) (x2 : Int32) (x3 : Int32) (x4 : Int32) (x5 : Int32) (d : xD), k_X10_talks_127 sh rec10 rec27 q0 x1 x2 x3 x4 x5 d = some dz → ∀ (H : Heap) (locs : List Loc) (ls : Array Slot), lv_has ls 6 [(0, .ref (b + q0)), (1, .int x1), (2, .int x2), (3, .int x3), (4, .int x4), (5, .int x5)] → xG D cid b A sh d s H locs → W p l e (xRm 4 0 0) s m av below meth c H locs 0 0 (MQ below (xQ D cid b ex A none sh dz) av s 0 0 A) (F0 m 127 ls []) := by
    intro rec10 hrec10 rec27 hrec27 q0 x1 x2 x3 x4 x5 d hf H locs ls hl G
    unfold k_X10_talks_127 at hf
    refine lv_iinc (v := (x5 + 1)) (lv' := [(5, .int (x5 + 1)), (0, .ref (b + q0)), (1, .int x1), (2, .int x2), (3, .int x3), (4, .int x4)]) hx hb dX10_talks_127 hl (k := 5) rfl rfl (by decide) rfl (fun ls hl => ?_)
    refine lv_goto (tgt := 27) hx hb dX10_talks_130 (by decide) ?_
    exact hrec27 q0 x1 x2 x3 x4 (x5 + 1) d hf _ _ ls (lv_sub hl [1, 2, 3, 4, 5, 0] rfl) G
  have K27 : ∀ (rec10 : Nat → Int32 → Int32 → Int32 → Int32 → xD → Option xD) (hrec10 : ∀ (q0 : Nat) (x1 : Int32) (x2 : Int32) (x3 : Int32) (x4 : Int32) (d : xD), rec10 q0 x1 x2 x3 x4 d = some dz → ∀ (H : Heap) (locs : List Loc) (ls : Array Slot), lv_has ls 6 [(0, .ref (b + q0)), (1, .int x1), (2, .int x2), (3, .int x3), (4, .int x4)] → xG D cid b A sh d s H locs → W p l e (xRm 4 0 0) s m av below meth c H locs 0 0 (MQ below (xQ D cid b ex A none sh dz) av s 0 0 A) (F0 m 10 ls [])) (n : Nat) (q0 : Nat) (x1 : Int32) (x2 : Int32) (x3 : Int32) (x4 : Int32) (x5 : Int32) (d : xD), xloop (fun _ _ _ _ _ _ _ => none) (b_X10_talks_27 sh rec10) n q0 x1 x2 x3 x4 x5 d = some dz → ∀ (H : Heap) (locs : List Loc) (ls : Array Slot), lv_has ls 6 [(0, .ref (b + q0)), (1, .int x1), (2, .int x2), (3, .int x3), (4, .int x4), (5, .int x5)] → xG D cid b A sh d s H locs → W p l e (xRm 4 0 0) s m av below meth c H locs 0 0 (MQ below (xQ D cid b ex A none sh dz) av s 0 0 A) (F0 m 27 ls []) := by
    intro rec10 hrec10 n
    induction n with
    | zero =>
      intro q0 x1 x2 x3 x4 x5 d hf
      have hf : (none : Option xD) = some dz := hf
      cases hf
    | succ n hrec27 =>
      intro q0 x1 x2 x3 x4 x5 d hf H locs ls hl G
      have hf : b_X10_talks_27 sh rec10 (xloop (fun _ _ _ _ _ _ _ => none) (b_X10_talks_27 sh rec10) n) q0 x1 x2 x3 x4 x5 d = some dz := hf
      unfold b_X10_talks_27 at hf
      refine lv_iload hx hb dX10_talks_27 (lv_at hl 5 rfl) ?_
      refine lv_aload_n hx hb dX10_talks_29 rfl (lv_at hl 0 rfl) ?_
      obtain ⟨v1, hv1, hf⟩ := x_ob hf
      refine xr_getR (ci := 10) (k := 3) S G hv1 rfl kw_1171 dX10_talks_30 ?_
      refine lv_iconst (v := (2 : Int32)) hx hb dX10_talks_33 (by decide) ?_
      obtain ⟨v2, hv2, hf⟩ := x_ob hf
      refine xr_iald S G hv2 dX10_talks_34 ?_
      refine lv_icmp_ge (tgt := 133) hx hb dX10_talks_35 (by decide) (fun c => ?_) (fun c => ?_)
      · have hf := x_pos c hf
        exact K133 _ hrec10 q0 x1 x2 x3 x4 d hf _ _ ls (lv_sub hl [0, 1, 2, 3, 4] rfl) G
      · have hf := x_neg c hf
        refine lv_iload_n hx hb dX10_talks_38 rfl (lv_at hl 3 rfl) ?_
        refine lv_iload hx hb dX10_talks_39 (lv_at hl 4 rfl) ?_
        refine lv_ishr hx hb dX10_talks_41 ?_
        refine lv_iload_n hx hb dX10_talks_42 rfl (lv_at hl 3 rfl) ?_
        refine lv_iload hx hb dX10_talks_43 (lv_at hl 5 rfl) ?_
        refine lv_ishr hx hb dX10_talks_45 ?_
        refine lv_iand hx hb dX10_talks_46 ?_
        refine lv_iconst (v := (1 : Int32)) hx hb dX10_talks_47 (by decide) ?_
        refine lv_iand hx hb dX10_talks_48 ?_
        refine lv_if_ne (tgt := 55) hx hb dX10_talks_49 (by decide) (fun c => ?_) (fun c => ?_)
        · have hf := x_neg c hf
          refine lv_aload_n hx hb dX10_talks_55 rfl (lv_at hl 0 rfl) ?_
          refine lv_iload_n hx hb dX10_talks_56 rfl (lv_at hl 1 rfl) ?_
          refine lv_iload hx hb dX10_talks_57 (lv_at hl 4 rfl) ?_
          refine lv_iload_n hx hb dX10_talks_59 rfl (lv_at hl 2 rfl) ?_
          obtain ⟨d3, hd3, hf⟩ := x_ob hf
          obtain ⟨hqd3, hd3⟩ := xon_of hd3
          refine xr_callV (ci := 10) (As := [.int x1, .int x4, .int x2]) (rest := []) (st1 := []) S G hl.1 (fun _ => rfl) (mt_X10_calls l D cid b ex sa sv B0 sh q0 x1 x4 x2 d _ hd3) hqd3 (by decide) kw_1544 kw_1546 ks_67 kw_17 kw_1547 hd_X10_calls ⟨Nat.le_of_ble_eq_true rfl, Nat.le_of_ble_eq_true rfl⟩ rfl rfl rfl (Nat.le_of_ble_eq_true rfl) ⟨Nat.le_of_ble_eq_true rfl, Nat.le_of_ble_eq_true rfl⟩ dX10_talks_60 (fun H locs G => ?_)
          refine lv_aload_n hx hb dX10_talks_63 rfl (lv_at hl 0 rfl) ?_
          obtain ⟨v4, hv4, hf⟩ := x_ob hf
          refine xr_getR (ci := 10) (k := 37) S G hv4 rfl kw_1205 dX10_talks_64 ?_
          refine lv_iload_n hx hb dX10_talks_67 rfl (lv_at hl 1 rfl) ?_
          refine lv_ldc (v := (99999 : Int32)) hx hb hown (hts _ kw_1405) dX10_talks_68 ?_
          refine lv_aload_n hx hb dX10_talks_70 rfl (lv_at hl 0 rfl) ?_
          obtain ⟨v5, hv5, hf⟩ := x_ob hf
          refine xr_getR (ci := 10) (k := 37) S G hv5 rfl kw_1205 dX10_talks_71 ?_
          refine lv_iload_n hx hb dX10_talks_74 rfl (lv_at hl 1 rfl) ?_
          obtain ⟨v6, hv6, hf⟩ := x_ob hf
          refine xr_iald S G hv6 dX10_talks_75 ?_
          refine lv_aload_n hx hb dX10_talks_76 rfl (lv_at hl 0 rfl) ?_
          refine lv_iconst (v := (1 : Int32)) hx hb dX10_talks_77 (by decide) ?_
          refine lv_bipush (v := (99 : Int32)) hx hb dX10_talks_78 (by decide) ?_
          refine lv_iconst (v := (1 : Int32)) hx hb dX10_talks_80 (by decide) ?_
          obtain ⟨z7, hz7, hf⟩ := x_ob hf
          obtain ⟨hqz7, hz7⟩ := xon_of hz7
          refine xr_callV (ci := 10) (As := [.int (1 : Int32), .int (99 : Int32), .int (1 : Int32)]) (rest := [.int v6, .int (99999 : Int32), .int x1, .ref (b + v4)]) (st1 := [.int z7.1, .int v6, .int (99999 : Int32), .int x1, .ref (b + v4)]) S G hl.1 (fun _ => rfl) (mt_X10_within l D cid b ex sa sv B0 sh q0 (1 : Int32) (99 : Int32) (1 : Int32) d3 _ _ hz7) hqz7 (by decide) kw_1636 kw_1638 ks_84 kw_17 kw_1639 hd_X10_within ⟨Nat.le_of_ble_eq_true rfl, Nat.le_of_ble_eq_true rfl⟩ rfl rfl rfl (Nat.le_of_ble_eq_true rfl) ⟨Nat.le_of_ble_eq_true rfl, Nat.le_of_ble_eq_true rfl⟩ dX10_talks_81 (fun H locs G => ?_)
          refine lv_iadd hx hb dX10_talks_84 ?_
          refine va_mmin hx hb (hml.trans hl.1.symm) hown (hts _ kw_1642) (hts _ kw_556) (hts _ kw_18) (hts _ kp_mmin) (Nat.le_of_ble_eq_true rfl) (Nat.le_of_ble_eq_true rfl) (Nat.le_refl _) (Nat.le_refl _) dX10_talks_85 ?_
          obtain ⟨d8, hd8, hf⟩ := x_ob hf
          refine xr_iast S G hd8 dX10_talks_88 (fun H locs G => ?_)
          refine lv_aload_n hx hb dX10_talks_89 rfl (lv_at hl 0 rfl) ?_
          obtain ⟨v9, hv9, hf⟩ := x_ob hf
          refine xr_getR (ci := 10) (k := 46) S G hv9 rfl kw_1214 dX10_talks_90 ?_
          refine lv_bipush (v := (6 : Int32)) hx hb dX10_talks_93 (by decide) ?_
          refine lv_iload_n hx hb dX10_talks_95 rfl (lv_at hl 1 rfl) ?_
          refine lv_imul hx hb dX10_talks_96 ?_
          refine lv_iload hx hb dX10_talks_97 (lv_at hl 4 rfl) ?_
          refine lv_iadd hx hb dX10_talks_99 ?_
          refine lv_dup2_11 hx hb dX10_talks_100 rfl rfl ?_
          obtain ⟨v10, hv10, hf⟩ := x_ob hf
          refine xr_iald S G hv10 dX10_talks_101 ?_
          refine lv_iconst (v := (1 : Int32)) hx hb dX10_talks_102 (by decide) ?_
          refine lv_iload hx hb dX10_talks_103 (lv_at hl 5 rfl) ?_
          refine lv_ishl hx hb dX10_talks_105 ?_
          refine lv_ior hx hb dX10_talks_106 ?_
          obtain ⟨d11, hd11, hf⟩ := x_ob hf
          refine xr_iast S G hd11 dX10_talks_107 (fun H locs G => ?_)
          refine lv_aload_n hx hb dX10_talks_108 rfl (lv_at hl 0 rfl) ?_
          obtain ⟨v12, hv12, hf⟩ := x_ob hf
          refine xr_getR (ci := 10) (k := 46) S G hv12 rfl kw_1214 dX10_talks_109 ?_
          refine lv_bipush (v := (6 : Int32)) hx hb dX10_talks_112 (by decide) ?_
          refine lv_iload_n hx hb dX10_talks_114 rfl (lv_at hl 1 rfl) ?_
          refine lv_imul hx hb dX10_talks_115 ?_
          refine lv_iload hx hb dX10_talks_116 (lv_at hl 5 rfl) ?_
          refine lv_iadd hx hb dX10_talks_118 ?_
          refine lv_dup2_11 hx hb dX10_talks_119 rfl rfl ?_
          obtain ⟨v13, hv13, hf⟩ := x_ob hf
          refine xr_iald S G hv13 dX10_talks_120 ?_
          refine lv_iconst (v := (1 : Int32)) hx hb dX10_talks_121 (by decide) ?_
          refine lv_iload hx hb dX10_talks_122 (lv_at hl 4 rfl) ?_
          refine lv_ishl hx hb dX10_talks_124 ?_
          refine lv_ior hx hb dX10_talks_125 ?_
          obtain ⟨d14, hd14, hf⟩ := x_ob hf
          refine xr_iast S G hd14 dX10_talks_126 (fun H locs G => ?_)
          exact K127 _ hrec10 _ hrec27 q0 x1 x2 x3 x4 x5 d14 hf _ _ ls (lv_sub hl [0, 1, 2, 3, 4, 5] rfl) G
        · have hf := x_pos c hf
          refine lv_goto (tgt := 127) hx hb dX10_talks_52 (by decide) ?_
          exact K127 _ hrec10 _ hrec27 q0 x1 x2 x3 x4 x5 d hf _ _ ls (lv_sub hl [0, 1, 2, 3, 4, 5] rfl) G
  have K10 : ∀ (n : Nat) (q0 : Nat) (x1 : Int32) (x2 : Int32) (x3 : Int32) (x4 : Int32) (d : xD), xloop (fun _ _ _ _ _ _ => none) (b_X10_talks_10 sh) n q0 x1 x2 x3 x4 d = some dz → ∀ (H : Heap) (locs : List Loc) (ls : Array Slot), lv_has ls 6 [(0, .ref (b + q0)), (1, .int x1), (2, .int x2), (3, .int x3), (4, .int x4)] → xG D cid b A sh d s H locs → W p l e (xRm 4 0 0) s m av below meth c H locs 0 0 (MQ below (xQ D cid b ex A none sh dz) av s 0 0 A) (F0 m 10 ls []) := by
    intro n
    induction n with
    | zero =>
      intro q0 x1 x2 x3 x4 d hf
      have hf : (none : Option xD) = some dz := hf
      cases hf
    | succ n hrec10 =>
      intro q0 x1 x2 x3 x4 d hf H locs ls hl G
      have hf : b_X10_talks_10 sh (xloop (fun _ _ _ _ _ _ => none) (b_X10_talks_10 sh) n) q0 x1 x2 x3 x4 d = some dz := hf
      unfold b_X10_talks_10 at hf
      refine lv_iload hx hb dX10_talks_10 (lv_at hl 4 rfl) ?_
      refine lv_aload_n hx hb dX10_talks_12 rfl (lv_at hl 0 rfl) ?_
      obtain ⟨v15, hv15, hf⟩ := x_ob hf
      refine xr_getR (ci := 10) (k := 3) S G hv15 rfl kw_1171 dX10_talks_13 ?_
      refine lv_iconst (v := (2 : Int32)) hx hb dX10_talks_16 (by decide) ?_
      obtain ⟨v16, hv16, hf⟩ := x_ob hf
      refine xr_iald S G hv16 dX10_talks_17 ?_
      refine lv_icmp_ge (tgt := 139) hx hb dX10_talks_18 (by decide) (fun c => ?_) (fun c => ?_)
      · have hf := x_pos c hf
        exact K139 d hf _ _ ls (lv_sub hl [] rfl) G
      · have hf := x_neg c hf
        refine lv_iload hx hb dX10_talks_21 (lv_at hl 4 rfl) ?_
        refine lv_iconst (v := (1 : Int32)) hx hb dX10_talks_23 (by decide) ?_
        refine lv_iadd hx hb dX10_talks_24 ?_
        refine lv_istore (lv' := [(5, .int (x4 + (1 : Int32))), (0, .ref (b + q0)), (1, .int x1), (2, .int x2), (3, .int x3), (4, .int x4)]) hx hb dX10_talks_25 hl (by decide) rfl (fun ls hl => ?_)
        exact K27 _ hrec10 xF q0 x1 x2 x3 x4 (x4 + (1 : Int32)) d hf _ _ ls (lv_sub hl [1, 2, 3, 4, 5, 0] rfl) G
  unfold f_X10_talks at hf
  refine lv_aload_n hx hb dX10_talks_0 rfl (lv_at hl 0 rfl) ?_
  refine lv_iload_n hx hb dX10_talks_1 rfl (lv_at hl 1 rfl) ?_
  refine lv_iload_n hx hb dX10_talks_2 rfl (lv_at hl 2 rfl) ?_
  obtain ⟨z17, hz17, hf⟩ := x_ob hf
  obtain ⟨hqz17, hz17⟩ := xon_of hz17
  refine xr_callV (ci := 10) (As := [.int x1, .int x2]) (rest := []) (st1 := [.int z17.1]) S G hl.1 (fun _ => rfl) (mt_X10_sitting l D cid b ex sa sv B0 sh q0 x1 x2 d _ _ hz17) hqz17 (by decide) kw_1516 kw_1518 ks_64 kw_17 kw_1519 hd_X10_sitting ⟨Nat.le_of_ble_eq_true rfl, Nat.le_of_ble_eq_true rfl⟩ rfl rfl rfl (Nat.le_of_ble_eq_true rfl) ⟨Nat.le_of_ble_eq_true rfl, Nat.le_of_ble_eq_true rfl⟩ dX10_talks_3 (fun H locs G => ?_)
  refine lv_istore_n (lv' := [(3, .int z17.1), (0, .ref (b + q0)), (1, .int x1), (2, .int x2)]) hx hb dX10_talks_6 rfl hl (by decide) rfl (fun ls hl => ?_)
  refine lv_iconst (v := (0 : Int32)) hx hb dX10_talks_7 (by decide) ?_
  refine lv_istore (lv' := [(4, .int (0 : Int32)), (3, .int z17.1), (0, .ref (b + q0)), (1, .int x1), (2, .int x2)]) hx hb dX10_talks_8 hl (by decide) rfl (fun ls hl => ?_)
  exact K10 xF q0 x1 x2 z17.1 (0 : Int32) z17.2 hf _ _ ls (lv_sub hl [2, 3, 4, 1, 0] rfl) G
-- HalfLandingsModel.wears(II)V
theorem dX10_wears_0 : decode cX10_wears 0 = .ok (.aload_n 0, 1) := by decide +kernel
theorem dX10_wears_1 : decode cX10_wears 1 = .ok (.iload_n 1, 1) := by decide +kernel
theorem dX10_wears_2 : decode cX10_wears 2 = .ok (.iload_n 2, 1) := by decide +kernel
theorem dX10_wears_3 : decode cX10_wears 3 = .ok (.invokevirtual 334, 3) := by decide +kernel
theorem dX10_wears_6 : decode cX10_wears 6 = .ok (.istore_n 3, 1) := by decide +kernel
theorem dX10_wears_7 : decode cX10_wears 7 = .ok (.iconst 0, 1) := by decide +kernel
theorem dX10_wears_8 : decode cX10_wears 8 = .ok (.istore 4, 2) := by decide +kernel
theorem dX10_wears_10 : decode cX10_wears 10 = .ok (.iload 4, 2) := by decide +kernel
theorem dX10_wears_12 : decode cX10_wears 12 = .ok (.aload_n 0, 1) := by decide +kernel
theorem dX10_wears_13 : decode cX10_wears 13 = .ok (.getfield 13, 3) := by decide +kernel
theorem dX10_wears_16 : decode cX10_wears 16 = .ok (.iconst 2, 1) := by decide +kernel
theorem dX10_wears_17 : decode cX10_wears 17 = .ok (.iaload, 1) := by decide +kernel
theorem dX10_wears_18 : decode cX10_wears 18 = .ok (.if_icmp .ge 66, 3) := by decide +kernel
theorem dX10_wears_21 : decode cX10_wears 21 = .ok (.iload_n 3, 1) := by decide +kernel
theorem dX10_wears_22 : decode cX10_wears 22 = .ok (.iload 4, 2) := by decide +kernel
theorem dX10_wears_24 : decode cX10_wears 24 = .ok (.ishr, 1) := by decide +kernel
theorem dX10_wears_25 : decode cX10_wears 25 = .ok (.iconst 1, 1) := by decide +kernel
theorem dX10_wears_26 : decode cX10_wears 26 = .ok (.iand, 1) := by decide +kernel
theorem dX10_wears_27 : decode cX10_wears 27 = .ok (.ifCond .ne 6, 3) := by decide +kernel
theorem dX10_wears_30 : decode cX10_wears 30 = .ok (.goto 48, 3) := by decide +kernel
theorem dX10_wears_33 : decode cX10_wears 33 = .ok (.aload_n 0, 1) := by decide +kernel
theorem dX10_wears_34 : decode cX10_wears 34 = .ok (.iload_n 1, 1) := by decide +kernel
theorem dX10_wears_35 : decode cX10_wears 35 = .ok (.iload 4, 2) := by decide +kernel
theorem dX10_wears_37 : decode cX10_wears 37 = .ok (.iload_n 2, 1) := by decide +kernel
theorem dX10_wears_38 : decode cX10_wears 38 = .ok (.invokevirtual 375, 3) := by decide +kernel
theorem dX10_wears_41 : decode cX10_wears 41 = .ok (.aload_n 0, 1) := by decide +kernel
theorem dX10_wears_42 : decode cX10_wears 42 = .ok (.getfield 108, 3) := by decide +kernel
theorem dX10_wears_45 : decode cX10_wears 45 = .ok (.bipush 8, 2) := by decide +kernel
theorem dX10_wears_47 : decode cX10_wears 47 = .ok (.iload_n 1, 1) := by decide +kernel
theorem dX10_wears_48 : decode cX10_wears 48 = .ok (.imul, 1) := by decide +kernel
theorem dX10_wears_49 : decode cX10_wears 49 = .ok (.iload_n 2, 1) := by decide +kernel
theorem dX10_wears_50 : decode cX10_wears 50 = .ok (.iadd, 1) := by decide +kernel
theorem dX10_wears_51 : decode cX10_wears 51 = .ok (.sipush 9999, 3) := by decide +kernel
theorem dX10_wears_54 : decode cX10_wears 54 = .ok (.aload_n 0, 1) := by decide +kernel
theorem dX10_wears_55 : decode cX10_wears 55 = .ok (.getfield 108, 3) := by decide +kernel
theorem dX10_wears_58 : decode cX10_wears 58 = .ok (.bipush 8, 2) := by decide +kernel
theorem dX10_wears_60 : decode cX10_wears 60 = .ok (.iload_n 1, 1) := by decide +kernel
theorem dX10_wears_61 : decode cX10_wears 61 = .ok (.imul, 1) := by decide +kernel
theorem dX10_wears_62 : decode cX10_wears 62 = .ok (.iload_n 2, 1) := by decide +kernel
theorem dX10_wears_63 : decode cX10_wears 63 = .ok (.iadd, 1) := by decide +kernel
theorem dX10_wears_64 : decode cX10_wears 64 = .ok (.iaload, 1) := by decide +kernel
theorem dX10_wears_65 : decode cX10_wears 65 = .ok (.aload_n 0, 1) := by decide +kernel
theorem dX10_wears_66 : decode cX10_wears 66 = .ok (.iconst 2, 1) := by decide +kernel
theorem dX10_wears_67 : decode cX10_wears 67 = .ok (.bipush 99, 2) := by decide +kernel
theorem dX10_wears_69 : decode cX10_wears 69 = .ok (.iconst 1, 1) := by decide +kernel
theorem dX10_wears_70 : decode cX10_wears 70 = .ok (.invokevirtual 386, 3) := by decide +kernel
theorem dX10_wears_73 : decode cX10_wears 73 = .ok (.iadd, 1) := by decide +kernel
theorem dX10_wears_74 : decode cX10_wears 74 = .ok (.invokestatic 390, 3) := by decide +kernel
theorem dX10_wears_77 : decode cX10_wears 77 = .ok (.iastore, 1) := by decide +kernel
theorem dX10_wears_78 : decode cX10_wears 78 = .ok (.iinc 4 1, 3) := by decide +kernel
theorem dX10_wears_81 : decode cX10_wears 81 = .ok (.goto (-71), 3) := by decide +kernel
theorem dX10_wears_84 : decode cX10_wears 84 = .ok (.return_, 1) := by decide +kernel
theorem hd_X10_wears : yX10_wears.cls = xCn 10 ∧ yX10_wears.cls ≠ "java/lang/invoke/MethodHandle" ∧ yX10_wears.cls ≠ "java/lang/invoke/VarHandle" ∧ (parseMethodDescriptor yX10_wears.desc).map (fun d => d.parameters.length) = some 2 := by decide +kernel
def k_X10_wears_84 (sh : List xSh) (d : xD) : Option xD :=
  some d
def k_X10_wears_78 (sh : List xSh) (rec10 : Nat → Int32 → Int32 → Int32 → Int32 → xD → Option xD) (q0 : Nat) (x1 : Int32) (x2 : Int32) (x3 : Int32) (x4 : Int32) (d : xD) : Option xD :=
  rec10 q0 x1 x2 x3 (x4 + 1) d
def b_X10_wears_10 (sh : List xSh) (rec10 : Nat → Int32 → Int32 → Int32 → Int32 → xD → Option xD) (q0 : Nat) (x1 : Int32) (x2 : Int32) (x3 : Int32) (x4 : Int32) (d : xD) : Option xD :=
  (xgR 10 sh d q0 3).bind fun v1 => (xaI .int sh d v1 (2 : Int32)).bind fun v2 => if v2 ≤ x4 then (k_X10_wears_84 sh d) else (if ((x3 >>> (x4 &&& 31)) &&& (1 : Int32)) = 0 then (k_X10_wears_78 sh rec10 q0 x1 x2 x3 x4 d) else ((xon 10 sh q0 (f_X10_calls sh q0 x1 x4 x2 d)).bind fun d3 => (xgR 10 sh d3 q0 47).bind fun v4 => (xgR 10 sh d3 q0 47).bind fun v5 => (xaI .int sh d3 v5 (((8 : Int32) * x1) + x2)).bind fun v6 => (xon 10 sh q0 (f_X10_within sh q0 (2 : Int32) (99 : Int32) (1 : Int32) d3)).bind fun z7 => (xsI .int sh z7.2 v4 (((8 : Int32) * x1) + x2) (if (v6 + z7.1) < (9999 : Int32) then (v6 + z7.1) else (9999 : Int32))).bind fun d8 => k_X10_wears_78 sh rec10 q0 x1 x2 x3 x4 d8))
def f_X10_wears (sh : List xSh) (q0 : Nat) (x1 : Int32) (x2 : Int32) (d : xD) : Option xD :=
  (xon 10 sh q0 (f_X10_sitting sh q0 x1 x2 d)).bind fun z9 => xloop (fun _ _ _ _ _ _ => none) (b_X10_wears_10 sh) xF q0 x1 x2 z9.1 (0 : Int32) z9.2
set_option maxHeartbeats 4000000 in
set_option maxRecDepth 100000 in
theorem mt_X10_wears (l : Launch) (D : va_G) (cid : FieldType → ClassId) (b : Nat) (ex : Bool) (sa sv B0 : Nat) (sh : List xSh) (q0 : Nat) (x1 : Int32) (x2 : Int32) (d : xD) (dz : xD) (hf : f_X10_wears sh q0 x1 x2 d = some dz) : xMet l yX10_wears cX10_wears 5 none 4 0 0 D cid b ex sa sv B0 [.ref (b + q0), .int x1, .int x2] sh d none sh dz := by
  refine xMet.of (by decide) (Nat.le_of_ble_eq_true rfl) ?_
  intro p e s m below meth c ls A S hr hin G hl
  have hl : lv_has ls 5 [(0, .ref (b + q0)), (1, .int x1), (2, .int x2)] := hl
  generalize ([.ref (b + q0), .int x1, .int x2] : List Value).toArray = av at S ⊢
  have hx := S.1
  have hb := S.2.1
  have hml := S.2.2.1
  have hown := S.2.2.2.1
  have hts := S.2.2.2.2.1
  have K84 : ∀ (d : xD), k_X10_wears_84 sh d = some dz → ∀ (H : Heap) (locs : List Loc) (ls : Array Slot), lv_has ls 5 [] → xG D cid b A sh d s H locs → W p l e (xRm 4 0 0) s m av below meth c H locs 0 0 (MQ below (xQ D cid b ex A none sh dz) av s 0 0 A) (F0 m 84 ls []) := by
    intro d hf H locs ls hl G
    unfold k_X10_wears_84 at hf
    cases hf
    exact xr_vret S G (fun _ => rfl) hr dX10_wears_84
  have K78 : ∀ (rec10 : Nat → Int32 → Int32 → Int32 → Int32 → xD → Option xD) (hrec10 : ∀ (q0 : Nat) (x1 : Int32) (x2 : Int32) (x3 : Int32) (x4 : Int32) (d : xD), rec10 q0 x1 x2 x3 x4 d = some dz → ∀ (H : Heap) (locs : List Loc) (ls : Array Slot), lv_has ls 5 [(0, .ref (b + q0)), (1, .int x1), (2, .int x2), (3, .int x3), (4, .int x4)] → xG D cid b A sh d s H locs → W p l e (xRm 4 0 0) s m av below meth c H locs 0 0 (MQ below (xQ D cid b ex A none sh dz) av s 0 0 A) (F0 m 10 ls [])) (q0 : Nat) (x1 : Int32) (x2 : Int32) (x3 : Int32) (x4 : Int32) (d : xD), k_X10_wears_78 sh rec10 q0 x1 x2 x3 x4 d = some dz → ∀ (H : Heap) (locs : List Loc) (ls : Array Slot), lv_has ls 5 [(0, .ref (b + q0)), (1, .int x1), (2, .int x2), (3, .int x3), (4, .int x4)] → xG D cid b A sh d s H locs → W p l e (xRm 4 0 0) s m av below meth c H locs 0 0 (MQ below (xQ D cid b ex A none sh dz) av s 0 0 A) (F0 m 78 ls []) := by
    intro rec10 hrec10 q0 x1 x2 x3 x4 d hf H locs ls hl G
    unfold k_X10_wears_78 at hf
    refine lv_iinc (v := (x4 + 1)) (lv' := [(4, .int (x4 + 1)), (0, .ref (b + q0)), (1, .int x1), (2, .int x2), (3, .int x3)]) hx hb dX10_wears_78 hl (k := 4) rfl rfl (by decide) rfl (fun ls hl => ?_)
    refine lv_goto (tgt := 10) hx hb dX10_wears_81 (by decide) ?_
    exact hrec10 q0 x1 x2 x3 (x4 + 1) d hf _ _ ls (lv_sub hl [1, 2, 3, 4, 0] rfl) G
  have K10 : ∀ (n : Nat) (q0 : Nat) (x1 : Int32) (x2 : Int32) (x3 : Int32) (x4 : Int32) (d : xD), xloop (fun _ _ _ _ _ _ => none) (b_X10_wears_10 sh) n q0 x1 x2 x3 x4 d = some dz → ∀ (H : Heap) (locs : List Loc) (ls : Array Slot), lv_has ls 5 [(0, .ref (b + q0)), (1, .int x1), (2, .int x2), (3, .int x3), (4, .int x4)] → xG D cid b A sh d s H locs → W p l e (xRm 4 0 0) s m av below meth c H locs 0 0 (MQ below (xQ D cid b ex A none sh dz) av s 0 0 A) (F0 m 10 ls []) := by
    intro n
    induction n with
    | zero =>
      intro q0 x1 x2 x3 x4 d hf
      have hf : (none : Option xD) = some dz := hf
      cases hf
    | succ n hrec10 =>
      intro q0 x1 x2 x3 x4 d hf H locs ls hl G
      have hf : b_X10_wears_10 sh (xloop (fun _ _ _ _ _ _ => none) (b_X10_wears_10 sh) n) q0 x1 x2 x3 x4 d = some dz := hf
      unfold b_X10_wears_10 at hf
      refine lv_iload hx hb dX10_wears_10 (lv_at hl 4 rfl) ?_
      refine lv_aload_n hx hb dX10_wears_12 rfl (lv_at hl 0 rfl) ?_
      obtain ⟨v1, hv1, hf⟩ := x_ob hf
      refine xr_getR (ci := 10) (k := 3) S G hv1 rfl kw_1171 dX10_wears_13 ?_
      refine lv_iconst (v := (2 : Int32)) hx hb dX10_wears_16 (by decide) ?_
      obtain ⟨v2, hv2, hf⟩ := x_ob hf
      refine xr_iald S G hv2 dX10_wears_17 ?_
      refine lv_icmp_ge (tgt := 84) hx hb dX10_wears_18 (by decide) (fun c => ?_) (fun c => ?_)
      · have hf := x_pos c hf
        exact K84 d hf _ _ ls (lv_sub hl [] rfl) G
      · have hf := x_neg c hf
        refine lv_iload_n hx hb dX10_wears_21 rfl (lv_at hl 3 rfl) ?_
        refine lv_iload hx hb dX10_wears_22 (lv_at hl 4 rfl) ?_
        refine lv_ishr hx hb dX10_wears_24 ?_
        refine lv_iconst (v := (1 : Int32)) hx hb dX10_wears_25 (by decide) ?_
        refine lv_iand hx hb dX10_wears_26 ?_
        refine lv_if_ne (tgt := 33) hx hb dX10_wears_27 (by decide) (fun c => ?_) (fun c => ?_)
        · have hf := x_neg c hf
          refine lv_aload_n hx hb dX10_wears_33 rfl (lv_at hl 0 rfl) ?_
          refine lv_iload_n hx hb dX10_wears_34 rfl (lv_at hl 1 rfl) ?_
          refine lv_iload hx hb dX10_wears_35 (lv_at hl 4 rfl) ?_
          refine lv_iload_n hx hb dX10_wears_37 rfl (lv_at hl 2 rfl) ?_
          obtain ⟨d3, hd3, hf⟩ := x_ob hf
          obtain ⟨hqd3, hd3⟩ := xon_of hd3
          refine xr_callV (ci := 10) (As := [.int x1, .int x4, .int x2]) (rest := []) (st1 := []) S G hl.1 (fun _ => rfl) (mt_X10_calls l D cid b ex sa sv B0 sh q0 x1 x4 x2 d _ hd3) hqd3 (by decide) kw_1544 kw_1546 ks_67 kw_17 kw_1547 hd_X10_calls ⟨Nat.le_of_ble_eq_true rfl, Nat.le_of_ble_eq_true rfl⟩ rfl rfl rfl (Nat.le_of_ble_eq_true rfl) ⟨Nat.le_of_ble_eq_true rfl, Nat.le_of_ble_eq_true rfl⟩ dX10_wears_38 (fun H locs G => ?_)
          refine lv_aload_n hx hb dX10_wears_41 rfl (lv_at hl 0 rfl) ?_
          obtain ⟨v4, hv4, hf⟩ := x_ob hf
          refine xr_getR (ci := 10) (k := 47) S G hv4 rfl kw_1215 dX10_wears_42 ?_
          refine lv_bipush (v := (8 : Int32)) hx hb dX10_wears_45 (by decide) ?_
          refine lv_iload_n hx hb dX10_wears_47 rfl (lv_at hl 1 rfl) ?_
          refine lv_imul hx hb dX10_wears_48 ?_
          refine lv_iload_n hx hb dX10_wears_49 rfl (lv_at hl 2 rfl) ?_
          refine lv_iadd hx hb dX10_wears_50 ?_
          refine lv_sipush (v := (9999 : Int32)) hx hb dX10_wears_51 (by decide) ?_
          refine lv_aload_n hx hb dX10_wears_54 rfl (lv_at hl 0 rfl) ?_
          obtain ⟨v5, hv5, hf⟩ := x_ob hf
          refine xr_getR (ci := 10) (k := 47) S G hv5 rfl kw_1215 dX10_wears_55 ?_
          refine lv_bipush (v := (8 : Int32)) hx hb dX10_wears_58 (by decide) ?_
          refine lv_iload_n hx hb dX10_wears_60 rfl (lv_at hl 1 rfl) ?_
          refine lv_imul hx hb dX10_wears_61 ?_
          refine lv_iload_n hx hb dX10_wears_62 rfl (lv_at hl 2 rfl) ?_
          refine lv_iadd hx hb dX10_wears_63 ?_
          obtain ⟨v6, hv6, hf⟩ := x_ob hf
          refine xr_iald S G hv6 dX10_wears_64 ?_
          refine lv_aload_n hx hb dX10_wears_65 rfl (lv_at hl 0 rfl) ?_
          refine lv_iconst (v := (2 : Int32)) hx hb dX10_wears_66 (by decide) ?_
          refine lv_bipush (v := (99 : Int32)) hx hb dX10_wears_67 (by decide) ?_
          refine lv_iconst (v := (1 : Int32)) hx hb dX10_wears_69 (by decide) ?_
          obtain ⟨z7, hz7, hf⟩ := x_ob hf
          obtain ⟨hqz7, hz7⟩ := xon_of hz7
          refine xr_callV (ci := 10) (As := [.int (2 : Int32), .int (99 : Int32), .int (1 : Int32)]) (rest := [.int v6, .int (9999 : Int32), .int (((8 : Int32) * x1) + x2), .ref (b + v4)]) (st1 := [.int z7.1, .int v6, .int (9999 : Int32), .int (((8 : Int32) * x1) + x2), .ref (b + v4)]) S G hl.1 (fun _ => rfl) (mt_X10_within l D cid b ex sa sv B0 sh q0 (2 : Int32) (99 : Int32) (1 : Int32) d3 _ _ hz7) hqz7 (by decide) kw_1636 kw_1638 ks_84 kw_17 kw_1639 hd_X10_within ⟨Nat.le_of_ble_eq_true rfl, Nat.le_of_ble_eq_true rfl⟩ rfl rfl rfl (Nat.le_of_ble_eq_true rfl) ⟨Nat.le_of_ble_eq_true rfl, Nat.le_of_ble_eq_true rfl⟩ dX10_wears_70 (fun H locs G => ?_)
          refine lv_iadd hx hb dX10_wears_73 ?_
          refine va_mmin hx hb (hml.trans hl.1.symm) hown (hts _ kw_1642) (hts _ kw_556) (hts _ kw_18) (hts _ kp_mmin) (Nat.le_of_ble_eq_true rfl) (Nat.le_of_ble_eq_true rfl) (Nat.le_refl _) (Nat.le_refl _) dX10_wears_74 ?_
          obtain ⟨d8, hd8, hf⟩ := x_ob hf
          refine xr_iast S G hd8 dX10_wears_77 (fun H locs G => ?_)
          exact K78 _ hrec10 q0 x1 x2 x3 x4 d8 hf _ _ ls (lv_sub hl [0, 1, 2, 3, 4] rfl) G
        · have hf := x_pos c hf
          refine lv_goto (tgt := 78) hx hb dX10_wears_30 (by decide) ?_
          exact K78 _ hrec10 q0 x1 x2 x3 x4 d hf _ _ ls (lv_sub hl [0, 1, 2, 3, 4] rfl) G
  unfold f_X10_wears at hf
  refine lv_aload_n hx hb dX10_wears_0 rfl (lv_at hl 0 rfl) ?_
  refine lv_iload_n hx hb dX10_wears_1 rfl (lv_at hl 1 rfl) ?_
  refine lv_iload_n hx hb dX10_wears_2 rfl (lv_at hl 2 rfl) ?_
  obtain ⟨z9, hz9, hf⟩ := x_ob hf
  obtain ⟨hqz9, hz9⟩ := xon_of hz9
  refine xr_callV (ci := 10) (As := [.int x1, .int x2]) (rest := []) (st1 := [.int z9.1]) S G hl.1 (fun _ => rfl) (mt_X10_sitting l D cid b ex sa sv B0 sh q0 x1 x2 d _ _ hz9) hqz9 (by decide) kw_1516 kw_1518 ks_64 kw_17 kw_1519 hd_X10_sitting ⟨Nat.le_of_ble_eq_true rfl, Nat.le_of_ble_eq_true rfl⟩ rfl rfl rfl (Nat.le_of_ble_eq_true rfl) ⟨Nat.le_of_ble_eq_true rfl, Nat.le_of_ble_eq_true rfl⟩ dX10_wears_3 (fun H locs G => ?_)
  refine lv_istore_n (lv' := [(3, .int z9.1), (0, .ref (b + q0)), (1, .int x1), (2, .int x2)]) hx hb dX10_wears_6 rfl hl (by decide) rfl (fun ls hl => ?_)
  refine lv_iconst (v := (0 : Int32)) hx hb dX10_wears_7 (by decide) ?_
  refine lv_istore (lv' := [(4, .int (0 : Int32)), (3, .int z9.1), (0, .ref (b + q0)), (1, .int x1), (2, .int x2)]) hx hb dX10_wears_8 hl (by decide) rfl (fun ls hl => ?_)
  exact K10 xF q0 x1 x2 z9.1 (0 : Int32) z9.2 hf _ _ ls (lv_sub hl [2, 3, 4, 1, 0] rfl) G
-- HalfLandingsModel.isCalled(IZ)Z
theorem dX10_isCalled_0 : decode cX10_isCalled 0 = .ok (.aload_n 0, 1) := by decide +kernel
theorem dX10_isCalled_1 : decode cX10_isCalled 1 = .ok (.getfield 331, 3) := by decide +kernel
theorem dX10_isCalled_4 : decode cX10_isCalled 4 = .ok (.iconst 1, 1) := by decide +kernel
theorem dX10_isCalled_5 : decode cX10_isCalled 5 = .ok (.if_icmp .ne 5, 3) := by decide +kernel
theorem dX10_isCalled_8 : decode cX10_isCalled 8 = .ok (.iconst 0, 1) := by decide +kernel
theorem dX10_isCalled_9 : decode cX10_isCalled 9 = .ok (.ireturn, 1) := by decide +kernel
theorem dX10_isCalled_10 : decode cX10_isCalled 10 = .ok (.aload_n 0, 1) := by decide +kernel
theorem dX10_isCalled_11 : decode cX10_isCalled 11 = .ok (.getfield 13, 3) := by decide +kernel
theorem dX10_isCalled_14 : decode cX10_isCalled 14 = .ok (.iconst 5, 1) := by decide +kernel
theorem dX10_isCalled_15 : decode cX10_isCalled 15 = .ok (.iaload, 1) := by decide +kernel
theorem dX10_isCalled_16 : decode cX10_isCalled 16 = .ok (.istore_n 3, 1) := by decide +kernel
theorem dX10_isCalled_17 : decode cX10_isCalled 17 = .ok (.iload_n 2, 1) := by decide +kernel
theorem dX10_isCalled_18 : decode cX10_isCalled 18 = .ok (.ifCond .eq 13, 3) := by decide +kernel
theorem dX10_isCalled_21 : decode cX10_isCalled 21 = .ok (.iload_n 3, 1) := by decide +kernel
theorem dX10_isCalled_22 : decode cX10_isCalled 22 = .ok (.ifCond .eq 9, 3) := by decide +kernel
theorem dX10_isCalled_25 : decode cX10_isCalled 25 = .ok (.iload_n 3, 1) := by decide +kernel
theorem dX10_isCalled_26 : decode cX10_isCalled 26 = .ok (.bipush 100, 2) := by decide +kernel
theorem dX10_isCalled_28 : decode cX10_isCalled 28 = .ok (.if_icmp .ne 15, 3) := by decide +kernel
theorem dX10_isCalled_31 : decode cX10_isCalled 31 = .ok (.iload_n 3, 1) := by decide +kernel
theorem dX10_isCalled_32 : decode cX10_isCalled 32 = .ok (.bipush 50, 2) := by decide +kernel
theorem dX10_isCalled_34 : decode cX10_isCalled 34 = .ok (.if_icmp .lt 7, 3) := by decide +kernel
theorem dX10_isCalled_37 : decode cX10_isCalled 37 = .ok (.iconst 1, 1) := by decide +kernel
theorem dX10_isCalled_38 : decode cX10_isCalled 38 = .ok (.goto 4, 3) := by decide +kernel
theorem dX10_isCalled_41 : decode cX10_isCalled 41 = .ok (.iconst 0, 1) := by decide +kernel
theorem dX10_isCalled_42 : decode cX10_isCalled 42 = .ok (.ireturn, 1) := by decide +kernel
theorem dX10_isCalled_43 : decode cX10_isCalled 43 = .ok (.aload_n 0, 1) := by decide +kernel
theorem dX10_isCalled_44 : decode cX10_isCalled 44 = .ok (.getfield 75, 3) := by decide +kernel
theorem dX10_isCalled_47 : decode cX10_isCalled 47 = .ok (.iload_n 1, 1) := by decide +kernel
theorem dX10_isCalled_48 : decode cX10_isCalled 48 = .ok (.aload_n 0, 1) := by decide +kernel
theorem dX10_isCalled_49 : decode cX10_isCalled 49 = .ok (.getfield 75, 3) := by decide +kernel
theorem dX10_isCalled_52 : decode cX10_isCalled 52 = .ok (.iload_n 1, 1) := by decide +kernel
theorem dX10_isCalled_53 : decode cX10_isCalled 53 = .ok (.iaload, 1) := by decide +kernel
theorem dX10_isCalled_54 : decode cX10_isCalled 54 = .ok (.ldc_w 392, 3) := by decide +kernel
theorem dX10_isCalled_57 : decode cX10_isCalled 57 = .ok (.imul, 1) := by decide +kernel
theorem dX10_isCalled_58 : decode cX10_isCalled 58 = .ok (.sipush 12345, 3) := by decide +kernel
theorem dX10_isCalled_61 : decode cX10_isCalled 61 = .ok (.iadd, 1) := by decide +kernel
theorem dX10_isCalled_62 : decode cX10_isCalled 62 = .ok (.ldc_w 395, 3) := by decide +kernel
theorem dX10_isCalled_65 : decode cX10_isCalled 65 = .ok (.iand, 1) := by decide +kernel
theorem dX10_isCalled_66 : decode cX10_isCalled 66 = .ok (.iastore, 1) := by decide +kernel
theorem dX10_isCalled_67 : decode cX10_isCalled 67 = .ok (.aload_n 0, 1) := by decide +kernel
theorem dX10_isCalled_68 : decode cX10_isCalled 68 = .ok (.getfield 75, 3) := by decide +kernel
theorem dX10_isCalled_71 : decode cX10_isCalled 71 = .ok (.iload_n 1, 1) := by decide +kernel
theorem dX10_isCalled_72 : decode cX10_isCalled 72 = .ok (.iaload, 1) := by decide +kernel
theorem dX10_isCalled_73 : decode cX10_isCalled 73 = .ok (.bipush 16, 2) := by decide +kernel
theorem dX10_isCalled_75 : decode cX10_isCalled 75 = .ok (.ishr, 1) := by decide +kernel
theorem dX10_isCalled_76 : decode cX10_isCalled 76 = .ok (.bipush 100, 2) := by decide +kernel
theorem dX10_isCalled_78 : decode cX10_isCalled 78 = .ok (.irem, 1) := by decide +kernel
theorem dX10_isCalled_79 : decode cX10_isCalled 79 = .ok (.iload_n 3, 1) := by decide +kernel
theorem dX10_isCalled_80 : decode cX10_isCalled 80 = .ok (.if_icmp .ge 7, 3) := by decide +kernel
theorem dX10_isCalled_83 : decode cX10_isCalled 83 = .ok (.iconst 1, 1) := by decide +kernel
theorem dX10_isCalled_84 : decode cX10_isCalled 84 = .ok (.goto 4, 3) := by decide +kernel
theorem dX10_isCalled_87 : decode cX10_isCalled 87 = .ok (.iconst 0, 1) := by decide +kernel
theorem dX10_isCalled_88 : decode cX10_isCalled 88 = .ok (.ireturn, 1) := by decide +kernel
theorem hd_X10_isCalled : yX10_isCalled.cls = xCn 10 ∧ yX10_isCalled.cls ≠ "java/lang/invoke/MethodHandle" ∧ yX10_isCalled.cls ≠ "java/lang/invoke/VarHandle" ∧ (parseMethodDescriptor yX10_isCalled.desc).map (fun d => d.parameters.length) = some 2 := by decide +kernel
def k_X10_isCalled_42 (sh : List xSh) (y0 : Int32) (d : xD) : Option (Int32 × xD) :=
  (xz y0).bind fun v1 => some (v1, d)
def k_X10_isCalled_31 (sh : List xSh) (x3 : Int32) (d : xD) : Option (Int32 × xD) :=
  if x3 < (50 : Int32) then (k_X10_isCalled_42 sh (0 : Int32) d) else (k_X10_isCalled_42 sh (1 : Int32) d)
def k_X10_isCalled_88 (sh : List xSh) (y0 : Int32) (d : xD) : Option (Int32 × xD) :=
  (xz y0).bind fun v2 => some (v2, d)
def f_X10_isCalled (sh : List xSh) (q0 : Nat) (x1 : Int32) (x2 : Int32) (d : xD) : Option (Int32 × xD) :=
  (xgI 10 sh d q0 50).bind fun v3 => if v3 = (1 : Int32) then (some ((0 : Int32), d)) else ((xgR 10 sh d q0 3).bind fun v4 => (xaI .int sh d v4 (5 : Int32)).bind fun v5 => if x2 = 0 then (k_X10_isCalled_31 sh v5 d) else (if v5 = 0 then (k_X10_isCalled_31 sh v5 d) else (if v5 = (100 : Int32) then (k_X10_isCalled_31 sh v5 d) else ((xgR 10 sh d q0 36).bind fun v6 => (xgR 10 sh d q0 36).bind fun v7 => (xaI .int sh d v7 x1).bind fun v8 => (xsI .int sh d v6 x1 (((v8 * (1103515245 : Int32)) + (12345 : Int32)) &&& (2147483647 : Int32))).bind fun d9 => (xgR 10 sh d9 q0 36).bind fun v10 => (xaI .int sh d9 v10 x1).bind fun v11 => (xmI (v11 >>> ((16 : Int32) &&& 31)) (100 : Int32)).bind fun v12 => if v5 ≤ v12 then (k_X10_isCalled_88 sh (0 : Int32) d9) else (k_X10_isCalled_88 sh (1 : Int32) d9)))))
set_option maxHeartbeats 4000000 in
set_option maxRecDepth 100000 in
theorem mt_X10_isCalled (l : Launch) (D : va_G) (cid : FieldType → ClassId) (b : Nat) (ex : Bool) (sa sv B0 : Nat) (sh : List xSh) (q0 : Nat) (x1 : Int32) (x2 : Int32) (d : xD) (r : Int32) (dz : xD) (hf : f_X10_isCalled sh q0 x1 x2 d = some (r, dz)) : xMet l yX10_isCalled cX10_isCalled 4 (some .boolean) 0 0 0 D cid b ex sa sv B0 [.ref (b + q0), .int x1, .int x2] sh d (some (.int r)) sh dz := by
  refine xMet.of (by decide) (Nat.le_of_ble_eq_true rfl) ?_
  intro p e s m below meth c ls A S hr hin G hl
  have hl : lv_has ls 4 [(0, .ref (b + q0)), (1, .int x1), (2, .int x2)] := hl
  generalize ([.ref (b + q0), .int x1, .int x2] : List Value).toArray = av at S ⊢
  have hx := S.1
  have hb := S.2.1
  have hml := S.2.2.1
  have hown := S.2.2.2.1
  have hts := S.2.2.2.2.1
  have K42 : ∀ (y0 : Int32) (d : xD), k_X10_isCalled_42 sh y0 d = some (r, dz) → ∀ (H : Heap) (locs : List Loc) (ls : Array Slot), lv_has ls 4 [] → xG D cid b A sh d s H locs → W p l e (xRm 0 0 0) s m av below meth c H locs 0 0 (MQ below (xQ D cid b ex A (some (.int r)) sh dz) av s 0 0 A) (F0 m 42 ls [.int y0]) := by
    intro y0 d hf H locs ls hl G
    unfold k_X10_isCalled_42 at hf
    obtain ⟨v1, hv1, hf⟩ := x_ob hf
    cases hf
    exact xr_zret S G (fun _ => rfl) hr hv1 dX10_isCalled_42
  have K31 : ∀ (x3 : Int32) (d : xD), k_X10_isCalled_31 sh x3 d = some (r, dz) → ∀ (H : Heap) (locs : List Loc) (ls : Array Slot), lv_has ls 4 [(3, .int x3)] → xG D cid b A sh d s H locs → W p l e (xRm 0 0 0) s m av below meth c H locs 0 0 (MQ below (xQ D cid b ex A (some (.int r)) sh dz) av s 0 0 A) (F0 m 31 ls []) := by
    intro x3 d hf H locs ls hl G
    unfold k_X10_isCalled_31 at hf
    refine lv_iload_n hx hb dX10_isCalled_31 rfl (lv_at hl 0 rfl) ?_
    refine lv_bipush (v := (50 : Int32)) hx hb dX10_isCalled_32 (by decide) ?_
    refine lv_icmp_lt (tgt := 41) hx hb dX10_isCalled_34 (by decide) (fun c => ?_) (fun c => ?_)
    · have hf := x_pos c hf
      refine lv_iconst (v := (0 : Int32)) hx hb dX10_isCalled_41 (by decide) ?_
      exact K42 (0 : Int32) d hf _ _ ls (lv_sub hl [] rfl) G
    · have hf := x_neg c hf
      refine lv_iconst (v := (1 : Int32)) hx hb dX10_isCalled_37 (by decide) ?_
      refine lv_goto (tgt := 42) hx hb dX10_isCalled_38 (by decide) ?_
      exact K42 (1 : Int32) d hf _ _ ls (lv_sub hl [] rfl) G
  have K88 : ∀ (y0 : Int32) (d : xD), k_X10_isCalled_88 sh y0 d = some (r, dz) → ∀ (H : Heap) (locs : List Loc) (ls : Array Slot), lv_has ls 4 [] → xG D cid b A sh d s H locs → W p l e (xRm 0 0 0) s m av below meth c H locs 0 0 (MQ below (xQ D cid b ex A (some (.int r)) sh dz) av s 0 0 A) (F0 m 88 ls [.int y0]) := by
    intro y0 d hf H locs ls hl G
    unfold k_X10_isCalled_88 at hf
    obtain ⟨v2, hv2, hf⟩ := x_ob hf
    cases hf
    exact xr_zret S G (fun _ => rfl) hr hv2 dX10_isCalled_88
  unfold f_X10_isCalled at hf
  refine lv_aload_n hx hb dX10_isCalled_0 rfl (lv_at hl 0 rfl) ?_
  obtain ⟨v3, hv3, hf⟩ := x_ob hf
  refine xr_getI (ci := 10) (k := 50) S G hv3 rfl kw_1218 dX10_isCalled_1 ?_
  refine lv_iconst (v := (1 : Int32)) hx hb dX10_isCalled_4 (by decide) ?_
  refine lv_icmp_ne (tgt := 10) hx hb dX10_isCalled_5 (by decide) (fun c => ?_) (fun c => ?_)
  · have hf := x_neg c hf
    refine lv_aload_n hx hb dX10_isCalled_10 rfl (lv_at hl 0 rfl) ?_
    obtain ⟨v4, hv4, hf⟩ := x_ob hf
    refine xr_getR (ci := 10) (k := 3) S G hv4 rfl kw_1171 dX10_isCalled_11 ?_
    refine lv_iconst (v := (5 : Int32)) hx hb dX10_isCalled_14 (by decide) ?_
    obtain ⟨v5, hv5, hf⟩ := x_ob hf
    refine xr_iald S G hv5 dX10_isCalled_15 ?_
    refine lv_istore_n (lv' := [(3, .int v5), (0, .ref (b + q0)), (1, .int x1), (2, .int x2)]) hx hb dX10_isCalled_16 rfl hl (by decide) rfl (fun ls hl => ?_)
    refine lv_iload_n hx hb dX10_isCalled_17 rfl (lv_at hl 3 rfl) ?_
    refine lv_if_eq (tgt := 31) hx hb dX10_isCalled_18 (by decide) (fun c => ?_) (fun c => ?_)
    · have hf := x_pos c hf
      exact K31 v5 d hf _ _ ls (lv_sub hl [0] rfl) G
    · have hf := x_neg c hf
      refine lv_iload_n hx hb dX10_isCalled_21 rfl (lv_at hl 0 rfl) ?_
      refine lv_if_eq (tgt := 31) hx hb dX10_isCalled_22 (by decide) (fun c => ?_) (fun c => ?_)
      · have hf := x_pos c hf
        exact K31 v5 d hf _ _ ls (lv_sub hl [0] rfl) G
      · have hf := x_neg c hf
        refine lv_iload_n hx hb dX10_isCalled_25 rfl (lv_at hl 0 rfl) ?_
        refine lv_bipush (v := (100 : Int32)) hx hb dX10_isCalled_26 (by decide) ?_
        refine lv_icmp_ne (tgt := 43) hx hb dX10_isCalled_28 (by decide) (fun c => ?_) (fun c => ?_)
        · have hf := x_neg c hf
          refine lv_aload_n hx hb dX10_isCalled_43 rfl (lv_at hl 1 rfl) ?_
          obtain ⟨v6, hv6, hf⟩ := x_ob hf
          refine xr_getR (ci := 10) (k := 36) S G hv6 rfl kw_1204 dX10_isCalled_44 ?_
          refine lv_iload_n hx hb dX10_isCalled_47 rfl (lv_at hl 2 rfl) ?_
          refine lv_aload_n hx hb dX10_isCalled_48 rfl (lv_at hl 1 rfl) ?_
          obtain ⟨v7, hv7, hf⟩ := x_ob hf
          refine xr_getR (ci := 10) (k := 36) S G hv7 rfl kw_1204 dX10_isCalled_49 ?_
          refine lv_iload_n hx hb dX10_isCalled_52 rfl (lv_at hl 2 rfl) ?_
          obtain ⟨v8, hv8, hf⟩ := x_ob hf
          refine xr_iald S G hv8 dX10_isCalled_53 ?_
          refine lv_ldcw (v := (1103515245 : Int32)) hx hb hown (hts _ kw_1651) dX10_isCalled_54 ?_
          refine lv_imul hx hb dX10_isCalled_57 ?_
          refine lv_sipush (v := (12345 : Int32)) hx hb dX10_isCalled_58 (by decide) ?_
          refine lv_iadd hx hb dX10_isCalled_61 ?_
          refine lv_ldcw (v := (2147483647 : Int32)) hx hb hown (hts _ kw_1652) dX10_isCalled_62 ?_
          refine lv_iand hx hb dX10_isCalled_65 ?_
          obtain ⟨d9, hd9, hf⟩ := x_ob hf
          refine xr_iast S G hd9 dX10_isCalled_66 (fun H locs G => ?_)
          refine lv_aload_n hx hb dX10_isCalled_67 rfl (lv_at hl 1 rfl) ?_
          obtain ⟨v10, hv10, hf⟩ := x_ob hf
          refine xr_getR (ci := 10) (k := 36) S G hv10 rfl kw_1204 dX10_isCalled_68 ?_
          refine lv_iload_n hx hb dX10_isCalled_71 rfl (lv_at hl 2 rfl) ?_
          obtain ⟨v11, hv11, hf⟩ := x_ob hf
          refine xr_iald S G hv11 dX10_isCalled_72 ?_
          refine lv_bipush (v := (16 : Int32)) hx hb dX10_isCalled_73 (by decide) ?_
          refine lv_ishr hx hb dX10_isCalled_75 ?_
          refine lv_bipush (v := (100 : Int32)) hx hb dX10_isCalled_76 (by decide) ?_
          obtain ⟨v12, hv12, hf⟩ := x_ob hf
          refine xr_irem hx hb hv12 dX10_isCalled_78 ?_
          refine lv_iload_n hx hb dX10_isCalled_79 rfl (lv_at hl 0 rfl) ?_
          refine lv_icmp_ge (tgt := 87) hx hb dX10_isCalled_80 (by decide) (fun c => ?_) (fun c => ?_)
          · have hf := x_pos c hf
            refine lv_iconst (v := (0 : Int32)) hx hb dX10_isCalled_87 (by decide) ?_
            exact K88 (0 : Int32) d9 hf _ _ ls (lv_sub hl [] rfl) G
          · have hf := x_neg c hf
            refine lv_iconst (v := (1 : Int32)) hx hb dX10_isCalled_83 (by decide) ?_
            refine lv_goto (tgt := 88) hx hb dX10_isCalled_84 (by decide) ?_
            exact K88 (1 : Int32) d9 hf _ _ ls (lv_sub hl [] rfl) G
        · have hf := x_pos c hf
          exact K31 v5 d hf _ _ ls (lv_sub hl [0] rfl) G
  · have hf := x_pos c hf
    refine lv_iconst (v := (0 : Int32)) hx hb dX10_isCalled_8 (by decide) ?_
    cases hf
    exact xr_zret S G (fun _ => rfl) hr (by decide) dX10_isCalled_9
-- HalfLandingsModel.passes(IZ)V
theorem dX10_passes_0 : decode cX10_passes 0 = .ok (.iconst 0, 1) := by decide +kernel
theorem dX10_passes_1 : decode cX10_passes 1 = .ok (.istore_n 3, 1) := by decide +kernel
theorem dX10_passes_2 : decode cX10_passes 2 = .ok (.iload_n 3, 1) := by decide +kernel
theorem dX10_passes_3 : decode cX10_passes 3 = .ok (.aload_n 0, 1) := by decide +kernel
theorem dX10_passes_4 : decode cX10_passes 4 = .ok (.getfield 13, 3) := by decide +kernel
theorem dX10_passes_7 : decode cX10_passes 7 = .ok (.iconst 2, 1) := by decide +kernel
theorem dX10_passes_8 : decode cX10_passes 8 = .ok (.iaload, 1) := by decide +kernel
theorem dX10_passes_9 : decode cX10_passes 9 = .ok (.if_icmp .ge 50, 3) := by decide +kernel
theorem dX10_passes_12 : decode cX10_passes 12 = .ok (.aload_n 0, 1) := by decide +kernel
theorem dX10_passes_13 : decode cX10_passes 13 = .ok (.getfield 87, 3) := by decide +kernel
theorem dX10_passes_16 : decode cX10_passes 16 = .ok (.bipush 6, 2) := by decide +kernel
theorem dX10_passes_18 : decode cX10_passes 18 = .ok (.iload_n 1, 1) := by decide +kernel
theorem dX10_passes_19 : decode cX10_passes 19 = .ok (.imul, 1) := by decide +kernel
theorem dX10_passes_20 : decode cX10_passes 20 = .ok (.iload_n 3, 1) := by decide +kernel
theorem dX10_passes_21 : decode cX10_passes 21 = .ok (.iadd, 1) := by decide +kernel
theorem dX10_passes_22 : decode cX10_passes 22 = .ok (.iaload, 1) := by decide +kernel
theorem dX10_passes_23 : decode cX10_passes 23 = .ok (.ifCond .ne 30, 3) := by decide +kernel
theorem dX10_passes_26 : decode cX10_passes 26 = .ok (.aload_n 0, 1) := by decide +kernel
theorem dX10_passes_27 : decode cX10_passes 27 = .ok (.getfield 37, 3) := by decide +kernel
theorem dX10_passes_30 : decode cX10_passes 30 = .ok (.iload_n 3, 1) := by decide +kernel
theorem dX10_passes_31 : decode cX10_passes 31 = .ok (.iaload, 1) := by decide +kernel
theorem dX10_passes_32 : decode cX10_passes 32 = .ok (.aload_n 0, 1) := by decide +kernel
theorem dX10_passes_33 : decode cX10_passes 33 = .ok (.getfield 72, 3) := by decide +kernel
theorem dX10_passes_36 : decode cX10_passes 36 = .ok (.iload_n 1, 1) := by decide +kernel
theorem dX10_passes_37 : decode cX10_passes 37 = .ok (.iaload, 1) := by decide +kernel
theorem dX10_passes_38 : decode cX10_passes 38 = .ok (.if_icmp .ne 15, 3) := by decide +kernel
theorem dX10_passes_41 : decode cX10_passes 41 = .ok (.aload_n 0, 1) := by decide +kernel
theorem dX10_passes_42 : decode cX10_passes 42 = .ok (.getfield 87, 3) := by decide +kernel
theorem dX10_passes_45 : decode cX10_passes 45 = .ok (.bipush 6, 2) := by decide +kernel
theorem dX10_passes_47 : decode cX10_passes 47 = .ok (.iload_n 1, 1) := by decide +kernel
theorem dX10_passes_48 : decode cX10_passes 48 = .ok (.imul, 1) := by decide +kernel
theorem dX10_passes_49 : decode cX10_passes 49 = .ok (.iload_n 3, 1) := by decide +kernel
theorem dX10_passes_50 : decode cX10_passes 50 = .ok (.iadd, 1) := by decide +kernel
theorem dX10_passes_51 : decode cX10_passes 51 = .ok (.iconst 1, 1) := by decide +kernel
theorem dX10_passes_52 : decode cX10_passes 52 = .ok (.iastore, 1) := by decide +kernel
theorem dX10_passes_53 : decode cX10_passes 53 = .ok (.iinc 3 1, 3) := by decide +kernel
theorem dX10_passes_56 : decode cX10_passes 56 = .ok (.goto (-54), 3) := by decide +kernel
theorem dX10_passes_59 : decode cX10_passes 59 = .ok (.iconst 0, 1) := by decide +kernel
theorem dX10_passes_60 : decode cX10_passes 60 = .ok (.istore_n 3, 1) := by decide +kernel
theorem dX10_passes_61 : decode cX10_passes 61 = .ok (.iload_n 3, 1) := by decide +kernel
theorem dX10_passes_62 : decode cX10_passes 62 = .ok (.aload_n 0, 1) := by decide +kernel
theorem dX10_passes_63 : decode cX10_passes 63 = .ok (.getfield 13, 3) := by decide +kernel
theorem dX10_passes_66 : decode cX10_passes 66 = .ok (.iconst 2, 1) := by decide +kernel
theorem dX10_passes_67 : decode cX10_passes 67 = .ok (.iaload, 1) := by decide +kernel
theorem dX10_passes_68 : decode cX10_passes 68 = .ok (.if_icmp .ge 30, 3) := by decide +kernel
theorem dX10_passes_71 : decode cX10_passes 71 = .ok (.aload_n 0, 1) := by decide +kernel
theorem dX10_passes_72 : decode cX10_passes 72 = .ok (.getfield 87, 3) := by decide +kernel
theorem dX10_passes_75 : decode cX10_passes 75 = .ok (.bipush 6, 2) := by decide +kernel
theorem dX10_passes_77 : decode cX10_passes 77 = .ok (.iload_n 1, 1) := by decide +kernel
theorem dX10_passes_78 : decode cX10_passes 78 = .ok (.imul, 1) := by decide +kernel
theorem dX10_passes_79 : decode cX10_passes 79 = .ok (.iload_n 3, 1) := by decide +kernel
theorem dX10_passes_80 : decode cX10_passes 80 = .ok (.iadd, 1) := by decide +kernel
theorem dX10_passes_81 : decode cX10_passes 81 = .ok (.iaload, 1) := by decide +kernel
theorem dX10_passes_82 : decode cX10_passes 82 = .ok (.iconst 1, 1) := by decide +kernel
theorem dX10_passes_83 : decode cX10_passes 83 = .ok (.if_icmp .ne 9, 3) := by decide +kernel
theorem dX10_passes_86 : decode cX10_passes 86 = .ok (.aload_n 0, 1) := by decide +kernel
theorem dX10_passes_87 : decode cX10_passes 87 = .ok (.iload_n 1, 1) := by decide +kernel
theorem dX10_passes_88 : decode cX10_passes 88 = .ok (.iload_n 3, 1) := by decide +kernel
theorem dX10_passes_89 : decode cX10_passes 89 = .ok (.invokevirtual 396, 3) := by decide +kernel
theorem dX10_passes_92 : decode cX10_passes 92 = .ok (.iinc 3 1, 3) := by decide +kernel
theorem dX10_passes_95 : decode cX10_passes 95 = .ok (.goto (-34), 3) := by decide +kernel
theorem dX10_passes_98 : decode cX10_passes 98 = .ok (.iconst 0, 1) := by decide +kernel
theorem dX10_passes_99 : decode cX10_passes 99 = .ok (.istore_n 3, 1) := by decide +kernel
theorem dX10_passes_100 : decode cX10_passes 100 = .ok (.iload_n 3, 1) := by decide +kernel
theorem dX10_passes_101 : decode cX10_passes 101 = .ok (.aload_n 0, 1) := by decide +kernel
theorem dX10_passes_102 : decode cX10_passes 102 = .ok (.getfield 13, 3) := by decide +kernel
theorem dX10_passes_105 : decode cX10_passes 105 = .ok (.iconst 1, 1) := by decide +kernel
theorem dX10_passes_106 : decode cX10_passes 106 = .ok (.iaload, 1) := by decide +kernel
theorem dX10_passes_107 : decode cX10_passes 107 = .ok (.if_icmp .ge 15, 3) := by decide +kernel
theorem dX10_passes_110 : decode cX10_passes 110 = .ok (.aload_n 0, 1) := by decide +kernel
theorem dX10_passes_111 : decode cX10_passes 111 = .ok (.iload_n 1, 1) := by decide +kernel
theorem dX10_passes_112 : decode cX10_passes 112 = .ok (.iload_n 3, 1) := by decide +kernel
theorem dX10_passes_113 : decode cX10_passes 113 = .ok (.invokevirtual 399, 3) := by decide +kernel
theorem dX10_passes_116 : decode cX10_passes 116 = .ok (.iinc 3 1, 3) := by decide +kernel
theorem dX10_passes_119 : decode cX10_passes 119 = .ok (.goto (-19), 3) := by decide +kernel
theorem dX10_passes_122 : decode cX10_passes 122 = .ok (.iconst 0, 1) := by decide +kernel
theorem dX10_passes_123 : decode cX10_passes 123 = .ok (.istore_n 3, 1) := by decide +kernel
theorem dX10_passes_124 : decode cX10_passes 124 = .ok (.iload_n 3, 1) := by decide +kernel
theorem dX10_passes_125 : decode cX10_passes 125 = .ok (.aload_n 0, 1) := by decide +kernel
theorem dX10_passes_126 : decode cX10_passes 126 = .ok (.getfield 13, 3) := by decide +kernel
theorem dX10_passes_129 : decode cX10_passes 129 = .ok (.iconst 1, 1) := by decide +kernel
theorem dX10_passes_130 : decode cX10_passes 130 = .ok (.iaload, 1) := by decide +kernel
theorem dX10_passes_131 : decode cX10_passes 131 = .ok (.if_icmp .ge 15, 3) := by decide +kernel
theorem dX10_passes_134 : decode cX10_passes 134 = .ok (.aload_n 0, 1) := by decide +kernel
theorem dX10_passes_135 : decode cX10_passes 135 = .ok (.iload_n 1, 1) := by decide +kernel
theorem dX10_passes_136 : decode cX10_passes 136 = .ok (.iload_n 3, 1) := by decide +kernel
theorem dX10_passes_137 : decode cX10_passes 137 = .ok (.invokevirtual 402, 3) := by decide +kernel
theorem dX10_passes_140 : decode cX10_passes 140 = .ok (.iinc 3 1, 3) := by decide +kernel
theorem dX10_passes_143 : decode cX10_passes 143 = .ok (.goto (-19), 3) := by decide +kernel
theorem dX10_passes_146 : decode cX10_passes 146 = .ok (.iconst 0, 1) := by decide +kernel
theorem dX10_passes_147 : decode cX10_passes 147 = .ok (.istore_n 3, 1) := by decide +kernel
theorem dX10_passes_148 : decode cX10_passes 148 = .ok (.iload_n 3, 1) := by decide +kernel
theorem dX10_passes_149 : decode cX10_passes 149 = .ok (.aload_n 0, 1) := by decide +kernel
theorem dX10_passes_150 : decode cX10_passes 150 = .ok (.getfield 13, 3) := by decide +kernel
theorem dX10_passes_153 : decode cX10_passes 153 = .ok (.iconst 2, 1) := by decide +kernel
theorem dX10_passes_154 : decode cX10_passes 154 = .ok (.iaload, 1) := by decide +kernel
theorem dX10_passes_155 : decode cX10_passes 155 = .ok (.if_icmp .ge 89, 3) := by decide +kernel
theorem dX10_passes_158 : decode cX10_passes 158 = .ok (.bipush 6, 2) := by decide +kernel
theorem dX10_passes_160 : decode cX10_passes 160 = .ok (.iload_n 1, 1) := by decide +kernel
theorem dX10_passes_161 : decode cX10_passes 161 = .ok (.imul, 1) := by decide +kernel
theorem dX10_passes_162 : decode cX10_passes 162 = .ok (.iload_n 3, 1) := by decide +kernel
theorem dX10_passes_163 : decode cX10_passes 163 = .ok (.iadd, 1) := by decide +kernel
theorem dX10_passes_164 : decode cX10_passes 164 = .ok (.istore 4, 2) := by decide +kernel
theorem dX10_passes_166 : decode cX10_passes 166 = .ok (.aload_n 0, 1) := by decide +kernel
theorem dX10_passes_167 : decode cX10_passes 167 = .ok (.getfield 87, 3) := by decide +kernel
theorem dX10_passes_170 : decode cX10_passes 170 = .ok (.iload 4, 2) := by decide +kernel
theorem dX10_passes_172 : decode cX10_passes 172 = .ok (.iaload, 1) := by decide +kernel
theorem dX10_passes_173 : decode cX10_passes 173 = .ok (.iconst 2, 1) := by decide +kernel
theorem dX10_passes_174 : decode cX10_passes 174 = .ok (.if_icmp .eq 6, 3) := by decide +kernel
theorem dX10_passes_177 : decode cX10_passes 177 = .ok (.goto 61, 3) := by decide +kernel
theorem dX10_passes_180 : decode cX10_passes 180 = .ok (.aload_n 0, 1) := by decide +kernel
theorem dX10_passes_181 : decode cX10_passes 181 = .ok (.getfield 102, 3) := by decide +kernel
theorem dX10_passes_184 : decode cX10_passes 184 = .ok (.iload 4, 2) := by decide +kernel
theorem dX10_passes_186 : decode cX10_passes 186 = .ok (.sipush 999, 3) := by decide +kernel
theorem dX10_passes_189 : decode cX10_passes 189 = .ok (.aload_n 0, 1) := by decide +kernel
theorem dX10_passes_190 : decode cX10_passes 190 = .ok (.getfield 102, 3) := by decide +kernel
theorem dX10_passes_193 : decode cX10_passes 193 = .ok (.iload 4, 2) := by decide +kernel
theorem dX10_passes_195 : decode cX10_passes 195 = .ok (.iaload, 1) := by decide +kernel
theorem dX10_passes_196 : decode cX10_passes 196 = .ok (.iconst 1, 1) := by decide +kernel
theorem dX10_passes_197 : decode cX10_passes 197 = .ok (.iadd, 1) := by decide +kernel
theorem dX10_passes_198 : decode cX10_passes 198 = .ok (.invokestatic 390, 3) := by decide +kernel
theorem dX10_passes_201 : decode cX10_passes 201 = .ok (.iastore, 1) := by decide +kernel
theorem dX10_passes_202 : decode cX10_passes 202 = .ok (.aload_n 0, 1) := by decide +kernel
theorem dX10_passes_203 : decode cX10_passes 203 = .ok (.getfield 99, 3) := by decide +kernel
theorem dX10_passes_206 : decode cX10_passes 206 = .ok (.iload 4, 2) := by decide +kernel
theorem dX10_passes_208 : decode cX10_passes 208 = .ok (.dup2, 1) := by decide +kernel
theorem dX10_passes_209 : decode cX10_passes 209 = .ok (.iaload, 1) := by decide +kernel
theorem dX10_passes_210 : decode cX10_passes 210 = .ok (.iconst 1, 1) := by decide +kernel
theorem dX10_passes_211 : decode cX10_passes 211 = .ok (.isub, 1) := by decide +kernel
theorem dX10_passes_212 : decode cX10_passes 212 = .ok (.iastore, 1) := by decide +kernel
theorem dX10_passes_213 : decode cX10_passes 213 = .ok (.aload_n 0, 1) := by decide +kernel
theorem dX10_passes_214 : decode cX10_passes 214 = .ok (.getfield 99, 3) := by decide +kernel
theorem dX10_passes_217 : decode cX10_passes 217 = .ok (.iload 4, 2) := by decide +kernel
theorem dX10_passes_219 : decode cX10_passes 219 = .ok (.iaload, 1) := by decide +kernel
theorem dX10_passes_220 : decode cX10_passes 220 = .ok (.ifCond .eq 12, 3) := by decide +kernel
theorem dX10_passes_223 : decode cX10_passes 223 = .ok (.aload_n 0, 1) := by decide +kernel
theorem dX10_passes_224 : decode cX10_passes 224 = .ok (.iload_n 1, 1) := by decide +kernel
theorem dX10_passes_225 : decode cX10_passes 225 = .ok (.iload_n 2, 1) := by decide +kernel
theorem dX10_passes_226 : decode cX10_passes 226 = .ok (.invokevirtual 405, 3) := by decide +kernel
theorem dX10_passes_229 : decode cX10_passes 229 = .ok (.ifCond .eq 9, 3) := by decide +kernel
theorem dX10_passes_232 : decode cX10_passes 232 = .ok (.aload_n 0, 1) := by decide +kernel
theorem dX10_passes_233 : decode cX10_passes 233 = .ok (.iload_n 1, 1) := by decide +kernel
theorem dX10_passes_234 : decode cX10_passes 234 = .ok (.iload_n 3, 1) := by decide +kernel
theorem dX10_passes_235 : decode cX10_passes 235 = .ok (.invokevirtual 356, 3) := by decide +kernel
theorem dX10_passes_238 : decode cX10_passes 238 = .ok (.iinc 3 1, 3) := by decide +kernel
theorem dX10_passes_241 : decode cX10_passes 241 = .ok (.goto (-93), 3) := by decide +kernel
theorem dX10_passes_244 : decode cX10_passes 244 = .ok (.aload_n 0, 1) := by decide +kernel
theorem dX10_passes_245 : decode cX10_passes 245 = .ok (.getfield 72, 3) := by decide +kernel
theorem dX10_passes_248 : decode cX10_passes 248 = .ok (.iload_n 1, 1) := by decide +kernel
theorem dX10_passes_249 : decode cX10_passes 249 = .ok (.dup2, 1) := by decide +kernel
theorem dX10_passes_250 : decode cX10_passes 250 = .ok (.iaload, 1) := by decide +kernel
theorem dX10_passes_251 : decode cX10_passes 251 = .ok (.iconst 1, 1) := by decide +kernel
theorem dX10_passes_252 : decode cX10_passes 252 = .ok (.iadd, 1) := by decide +kernel
theorem dX10_passes_253 : decode cX10_passes 253 = .ok (.iastore, 1) := by decide +kernel
theorem dX10_passes_254 : decode cX10_passes 254 = .ok (.return_, 1) := by decide +kernel
theorem hd_X10_passes : yX10_passes.cls = xCn 10 ∧ yX10_passes.cls ≠ "java/lang/invoke/MethodHandle" ∧ yX10_passes.cls ≠ "java/lang/invoke/VarHandle" ∧ (parseMethodDescriptor yX10_passes.desc).map (fun d => d.parameters.length) = some 2 := by decide +kernel
def k_X10_passes_244 (sh : List xSh) (q0 : Nat) (x1 : Int32) (d : xD) : Option xD :=
  (xgR 10 sh d q0 35).bind fun v1 => (xaI .int sh d v1 x1).bind fun v2 => (xsI .int sh d v1 x1 (v2 + (1 : Int32))).bind fun d3 => some d3
def k_X10_passes_238 (sh : List xSh) (rec148 : Nat → Int32 → Int32 → Int32 → xD → Option xD) (q0 : Nat) (x1 : Int32) (x2 : Int32) (x3 : Int32) (d : xD) : Option xD :=
  rec148 q0 x1 x2 (x3 + 1) d
def k_X10_passes_232 (sh : List xSh) (rec148 : Nat → Int32 → Int32 → Int32 → xD → Option xD) (q0 : Nat) (x1 : Int32) (x2 : Int32) (x3 : Int32) (d : xD) : Option xD :=
  (xon 10 sh q0 (f_X10_getsUp sh q0 x1 x3 d)).bind fun d4 => k_X10_passes_238 sh rec148 q0 x1 x2 x3 d4
def b_X10_passes_148 (sh : List xSh) (rec148 : Nat → Int32 → Int32 → Int32 → xD → Option xD) (q0 : Nat) (x1 : Int32) (x2 : Int32) (x3 : Int32) (d : xD) : Option xD :=
  (xgR 10 sh d q0 3).bind fun v5 => (xaI .int sh d v5 (2 : Int32)).bind fun v6 => if v6 ≤ x3 then (k_X10_passes_244 sh q0 x1 d) else ((xgR 10 sh d q0 40).bind fun v7 => (xaI .int sh d v7 (((6 : Int32) * x1) + x3)).bind fun v8 => if v8 = (2 : Int32) then ((xgR 10 sh d q0 45).bind fun v9 => (xgR 10 sh d q0 45).bind fun v10 => (xaI .int sh d v10 (((6 : Int32) * x1) + x3)).bind fun v11 => (xsI .int sh d v9 (((6 : Int32) * x1) + x3) (if (v11 + (1 : Int32)) < (999 : Int32) then (v11 + (1 : Int32)) else (999 : Int32))).bind fun d12 => (xgR 10 sh d12 q0 44).bind fun v13 => (xaI .int sh d12 v13 (((6 : Int32) * x1) + x3)).bind fun v14 => (xsI .int sh d12 v13 (((6 : Int32) * x1) + x3) (v14 - (1 : Int32))).bind fun d15 => (xgR 10 sh d15 q0 44).bind fun v16 => (xaI .int sh d15 v16 (((6 : Int32) * x1) + x3)).bind fun v17 => if v17 = 0 then (k_X10_passes_232 sh rec148 q0 x1 x2 x3 d15) else ((xon 10 sh q0 (f_X10_isCalled sh q0 x1 x2 d15)).bind fun z18 => if z18.1 = 0 then (k_X10_passes_238 sh rec148 q0 x1 x2 x3 z18.2) else (k_X10_passes_232 sh rec148 q0 x1 x2 x3 z18.2))) else (k_X10_passes_238 sh rec148 q0 x1 x2 x3 d))
def k_X10_passes_146 (sh : List xSh) (q0 : Nat) (x1 : Int32) (x2 : Int32) (d : xD) : Option xD :=
  xloop (fun _ _ _ _ _ => none) (b_X10_passes_148 sh) xF q0 x1 x2 (0 : Int32) d
def b_X10_passes_124 (sh : List xSh) (rec124 : Nat → Int32 → Int32 → Int32 → xD → Option xD) (q0 : Nat) (x1 : Int32) (x2 : Int32) (x3 : Int32) (d : xD) : Option xD :=
  (xgR 10 sh d q0 3).bind fun v19 => (xaI .int sh d v19 (1 : Int32)).bind fun v20 => if v20 ≤ x3 then (k_X10_passes_146 sh q0 x1 x2 d) else ((xon 10 sh q0 (f_X10_wears sh q0 x1 x3 d)).bind fun d21 => rec124 q0 x1 x2 (x3 + 1) d21)
def k_X10_passes_122 (sh : List xSh) (q0 : Nat) (x1 : Int32) (x2 : Int32) (d : xD) : Option xD :=
  xloop (fun _ _ _ _ _ => none) (b_X10_passes_124 sh) xF q0 x1 x2 (0 : Int32) d
def b_X10_passes_100 (sh : List xSh) (rec100 : Nat → Int32 → Int32 → Int32 → xD → Option xD) (q0 : Nat) (x1 : Int32) (x2 : Int32) (x3 : Int32) (d : xD) : Option xD :=
  (xgR 10 sh d q0 3).bind fun v22 => (xaI .int sh d v22 (1 : Int32)).bind fun v23 => if v23 ≤ x3 then (k_X10_passes_122 sh q0 x1 x2 d) else ((xon 10 sh q0 (f_X10_talks sh q0 x1 x3 d)).bind fun d24 => rec100 q0 x1 x2 (x3 + 1) d24)
def k_X10_passes_98 (sh : List xSh) (q0 : Nat) (x1 : Int32) (x2 : Int32) (d : xD) : Option xD :=
  xloop (fun _ _ _ _ _ => none) (b_X10_passes_100 sh) xF q0 x1 x2 (0 : Int32) d
def k_X10_passes_92 (sh : List xSh) (rec61 : Nat → Int32 → Int32 → Int32 → xD → Option xD) (q0 : Nat) (x1 : Int32) (x2 : Int32) (x3 : Int32) (d : xD) : Option xD :=
  rec61 q0 x1 x2 (x3 + 1) d
def b_X10_passes_61 (sh : List xSh) (rec61 : Nat → Int32 → Int32 → Int32 → xD → Option xD) (q0 : Nat) (x1 : Int32) (x2 : Int32) (x3 : Int32) (d : xD) : Option xD :=
  (xgR 10 sh d q0 3).bind fun v25 => (xaI .int sh d v25 (2 : Int32)).bind fun v26 => if v26 ≤ x3 then (k_X10_passes_98 sh q0 x1 x2 d) else ((xgR 10 sh d q0 40).bind fun v27 => (xaI .int sh d v27 (((6 : Int32) * x1) + x3)).bind fun v28 => if v28 = (1 : Int32) then ((xon 10 sh q0 (f_X10_walks sh q0 x1 x3 d)).bind fun d29 => k_X10_passes_92 sh rec61 q0 x1 x2 x3 d29) else (k_X10_passes_92 sh rec61 q0 x1 x2 x3 d))
def k_X10_passes_59 (sh : List xSh) (q0 : Nat) (x1 : Int32) (x2 : Int32) (d : xD) : Option xD :=
  xloop (fun _ _ _ _ _ => none) (b_X10_passes_61 sh) xF q0 x1 x2 (0 : Int32) d
def k_X10_passes_53 (sh : List xSh) (rec2 : Nat → Int32 → Int32 → Int32 → xD → Option xD) (q0 : Nat) (x1 : Int32) (x2 : Int32) (x3 : Int32) (d : xD) : Option xD :=
  rec2 q0 x1 x2 (x3 + 1) d
def b_X10_passes_2 (sh : List xSh) (rec2 : Nat → Int32 → Int32 → Int32 → xD → Option xD) (q0 : Nat) (x1 : Int32) (x2 : Int32) (x3 : Int32) (d : xD) : Option xD :=
  (xgR 10 sh d q0 3).bind fun v30 => (xaI .int sh d v30 (2 : Int32)).bind fun v31 => if v31 ≤ x3 then (k_X10_passes_59 sh q0 x1 x2 d) else ((xgR 10 sh d q0 40).bind fun v32 => (xaI .int sh d v32 (((6 : Int32) * x1) + x3)).bind fun v33 => if v33 = 0 then ((xgR 10 sh d q0 11).bind fun v34 => (xaI .int sh d v34 x3).bind fun v35 => (xgR 10 sh d q0 35).bind fun v36 => (xaI .int sh d v36 x1).bind fun v37 => if v35 = v37 then ((xgR 10 sh d q0 40).bind fun v38 => (xsI .int sh d v38 (((6 : Int32) * x1) + x3) (1 : Int32)).bind fun d39 => k_X10_passes_53 sh rec2 q0 x1 x2 x3 d39) else (k_X10_passes_53 sh rec2 q0 x1 x2 x3 d)) else (k_X10_passes_53 sh rec2 q0 x1 x2 x3 d))
def f_X10_passes (sh : List xSh) (q0 : Nat) (x1 : Int32) (x2 : Int32) (d : xD) : Option xD :=
  xloop (fun _ _ _ _ _ => none) (b_X10_passes_2 sh) xF q0 x1 x2 (0 : Int32) d
set_option maxHeartbeats 4000000 in
set_option maxRecDepth 100000 in
theorem mt_X10_passes (l : Launch) (D : va_G) (cid : FieldType → ClassId) (b : Nat) (ex : Bool) (sa sv B0 : Nat) (sh : List xSh) (q0 : Nat) (x1 : Int32) (x2 : Int32) (d : xD) (dz : xD) (hf : f_X10_passes sh q0 x1 x2 d = some dz) : xMet l yX10_passes cX10_passes 5 none 5 0 0 D cid b ex sa sv B0 [.ref (b + q0), .int x1, .int x2] sh d none sh dz := by
  refine xMet.of (by decide) (Nat.le_of_ble_eq_true rfl) ?_
  intro p e s m below meth c ls A S hr hin G hl
  have hl : lv_has ls 5 [(0, .ref (b + q0)), (1, .int x1), (2, .int x2)] := hl
  generalize ([.ref (b + q0), .int x1, .int x2] : List Value).toArray = av at S ⊢
  have hx := S.1
  have hb := S.2.1
  have hml := S.2.2.1
  have hown := S.2.2.2.1
  have hts := S.2.2.2.2.1
  have K244 : ∀ (q0 : Nat) (x1 : Int32) (d : xD), k_X10_passes_244 sh q0 x1 d = some dz → ∀ (H : Heap) (locs : List Loc) (ls : Array Slot), lv_has ls 5 [(0, .ref (b + q0)), (1, .int x1)] → xG D cid b A sh d s H locs → W p l e (xRm 5 0 0) s m av below meth c H locs 0 0 (MQ below (xQ D cid b ex A none sh dz) av s 0 0 A) (F0 m 244 ls []) := by
    intro q0 x1 d hf H locs ls hl G
    unfold k_X10_passes_244 at hf
    refine lv_aload_n hx hb dX10_passes_244 rfl (lv_at hl 0 rfl) ?_
    obtain ⟨v1, hv1, hf⟩ := x_ob hf
    refine xr_getR (ci := 10) (k := 35) S G hv1 rfl kw_1203 dX10_passes_245 ?_
    refine lv_iload_n hx hb dX10_passes_248 rfl (lv_at hl 1 rfl) ?_
    refine lv_dup2_11 hx hb dX10_passes_249 rfl rfl ?_
    obtain ⟨v2, hv2, hf⟩ := x_ob hf
    refine xr_iald S G hv2 dX10_passes_250 ?_
    refine lv_iconst (v := (1 : Int32)) hx hb dX10_passes_251 (by decide) ?_
    refine lv_iadd hx hb dX10_passes_252 ?_
    obtain ⟨d3, hd3, hf⟩ := x_ob hf
    refine xr_iast S G hd3 dX10_passes_253 (fun H locs G => ?_)
    cases hf
    exact xr_vret S G (fun _ => rfl) hr dX10_passes_254
  have K238 : ∀ (rec148 : Nat → Int32 → Int32 → Int32 → xD → Option xD) (hrec148 : ∀ (q0 : Nat) (x1 : Int32) (x2 : Int32) (x3 : Int32) (d : xD), rec148 q0 x1 x2 x3 d = some dz → ∀ (H : Heap) (locs : List Loc) (ls : Array Slot), lv_has ls 5 [(0, .ref (b + q0)), (1, .int x1), (2, .int x2), (3, .int x3)] → xG D cid b A sh d s H locs → W p l e (xRm 5 0 0) s m av below meth c H locs 0 0 (MQ below (xQ D cid b ex A none sh dz) av s 0 0 A) (F0 m 148 ls [])) (q0 : Nat) (x1 : Int32) (x2 : Int32) (x3 : Int32) (d : xD), k_X10_passes_238 sh rec148 q0 x1 x2 x3 d = some dz → ∀ (H : Heap) (locs : List Loc) (ls : Array Slot), lv_has ls 5 [(0, .ref (b + q0)), (1, .int x1), (2, .int x2), (3, .int x3)] → xG D cid b A sh d s H locs → W p l e (xRm 5 0 0) s m av below meth c H locs 0 0 (MQ below (xQ D cid b ex A none sh dz) av s 0 0 A) (F0 m 238 ls []) := by
    intro rec148 hrec148 q0 x1 x2 x3 d hf H locs ls hl G
    unfold k_X10_passes_238 at hf
    refine lv_iinc (v := (x3 + 1)) (lv' := [(3, .int (x3 + 1)), (0, .ref (b + q0)), (1, .int x1), (2, .int x2)]) hx hb dX10_passes_238 hl (k := 3) rfl rfl (by decide) rfl (fun ls hl => ?_)
    refine lv_goto (tgt := 148) hx hb dX10_passes_241 (by decide) ?_
    exact hrec148 q0 x1 x2 (x3 + 1) d hf _ _ ls (lv_sub hl [1, 2, 3, 0] rfl) G
  have K232 : ∀ (rec148 : Nat → Int32 → Int32 → Int32 → xD → Option xD) (hrec148 : ∀ (q0 : Nat) (x1 : Int32) (x2 : Int32) (x3 : Int32) (d : xD), rec148 q0 x1 x2 x3 d = some dz → ∀ (H : Heap) (locs : List Loc) (ls : Array Slot), lv_has ls 5 [(0, .ref (b + q0)), (1, .int x1), (2, .int x2), (3, .int x3)] → xG D cid b A sh d s H locs → W p l e (xRm 5 0 0) s m av below meth c H locs 0 0 (MQ below (xQ D cid b ex A none sh dz) av s 0 0 A) (F0 m 148 ls [])) (q0 : Nat) (x1 : Int32) (x2 : Int32) (x3 : Int32) (d : xD), k_X10_passes_232 sh rec148 q0 x1 x2 x3 d = some dz → ∀ (H : Heap) (locs : List Loc) (ls : Array Slot), lv_has ls 5 [(0, .ref (b + q0)), (1, .int x1), (2, .int x2), (3, .int x3)] → xG D cid b A sh d s H locs → W p l e (xRm 5 0 0) s m av below meth c H locs 0 0 (MQ below (xQ D cid b ex A none sh dz) av s 0 0 A) (F0 m 232 ls []) := by
    intro rec148 hrec148 q0 x1 x2 x3 d hf H locs ls hl G
    unfold k_X10_passes_232 at hf
    refine lv_aload_n hx hb dX10_passes_232 rfl (lv_at hl 0 rfl) ?_
    refine lv_iload_n hx hb dX10_passes_233 rfl (lv_at hl 1 rfl) ?_
    refine lv_iload_n hx hb dX10_passes_234 rfl (lv_at hl 3 rfl) ?_
    obtain ⟨d4, hd4, hf⟩ := x_ob hf
    obtain ⟨hqd4, hd4⟩ := xon_of hd4
    refine xr_callV (ci := 10) (As := [.int x1, .int x3]) (rest := []) (st1 := []) S G hl.1 (fun _ => rfl) (mt_X10_getsUp l D cid b ex sa sv B0 sh q0 x1 x3 d _ hd4) hqd4 (by decide) kw_1592 kw_1594 ks_75 kw_17 kw_1595 hd_X10_getsUp ⟨Nat.le_of_ble_eq_true rfl, Nat.le_of_ble_eq_true rfl⟩ rfl rfl rfl (Nat.le_of_ble_eq_true rfl) ⟨Nat.le_of_ble_eq_true rfl, Nat.le_of_ble_eq_true rfl⟩ dX10_passes_235 (fun H locs G => ?_)
    exact K238 _ hrec148 q0 x1 x2 x3 d4 hf _ _ ls (lv_sub hl [0, 1, 2, 3] rfl) G
  have K148 : ∀ (n : Nat) (q0 : Nat) (x1 : Int32) (x2 : Int32) (x3 : Int32) (d : xD), xloop (fun _ _ _ _ _ => none) (b_X10_passes_148 sh) n q0 x1 x2 x3 d = some dz → ∀ (H : Heap) (locs : List Loc) (ls : Array Slot), lv_has ls 5 [(0, .ref (b + q0)), (1, .int x1), (2, .int x2), (3, .int x3)] → xG D cid b A sh d s H locs → W p l e (xRm 5 0 0) s m av below meth c H locs 0 0 (MQ below (xQ D cid b ex A none sh dz) av s 0 0 A) (F0 m 148 ls []) := by
    intro n
    induction n with
    | zero =>
      intro q0 x1 x2 x3 d hf
      have hf : (none : Option xD) = some dz := hf
      cases hf
    | succ n hrec148 =>
      intro q0 x1 x2 x3 d hf H locs ls hl G
      have hf : b_X10_passes_148 sh (xloop (fun _ _ _ _ _ => none) (b_X10_passes_148 sh) n) q0 x1 x2 x3 d = some dz := hf
      unfold b_X10_passes_148 at hf
      refine lv_iload_n hx hb dX10_passes_148 rfl (lv_at hl 3 rfl) ?_
      refine lv_aload_n hx hb dX10_passes_149 rfl (lv_at hl 0 rfl) ?_
      obtain ⟨v5, hv5, hf⟩ := x_ob hf
      refine xr_getR (ci := 10) (k := 3) S G hv5 rfl kw_1171 dX10_passes_150 ?_
      refine lv_iconst (v := (2 : Int32)) hx hb dX10_passes_153 (by decide) ?_
      obtain ⟨v6, hv6, hf⟩ := x_ob hf
      refine xr_iald S G hv6 dX10_passes_154 ?_
      refine lv_icmp_ge (tgt := 244) hx hb dX10_passes_155 (by decide) (fun c => ?_) (fun c => ?_)
      · have hf := x_pos c hf
        exact K244 q0 x1 d hf _ _ ls (lv_sub hl [0, 1] rfl) G
      · have hf := x_neg c hf
        refine lv_bipush (v := (6 : Int32)) hx hb dX10_passes_158 (by decide) ?_
        refine lv_iload_n hx hb dX10_passes_160 rfl (lv_at hl 1 rfl) ?_
        refine lv_imul hx hb dX10_passes_161 ?_
        refine lv_iload_n hx hb dX10_passes_162 rfl (lv_at hl 3 rfl) ?_
        refine lv_iadd hx hb dX10_passes_163 ?_
        refine lv_istore (lv' := [(4, .int (((6 : Int32) * x1) + x3)), (0, .ref (b + q0)), (1, .int x1), (2, .int x2), (3, .int x3)]) hx hb dX10_passes_164 hl (by decide) rfl (fun ls hl => ?_)
        refine lv_aload_n hx hb dX10_passes_166 rfl (lv_at hl 1 rfl) ?_
        obtain ⟨v7, hv7, hf⟩ := x_ob hf
        refine xr_getR (ci := 10) (k := 40) S G hv7 rfl kw_1208 dX10_passes_167 ?_
        refine lv_iload hx hb dX10_passes_170 (lv_at hl 0 rfl) ?_
        obtain ⟨v8, hv8, hf⟩ := x_ob hf
        refine xr_iald S G hv8 dX10_passes_172 ?_
        refine lv_iconst (v := (2 : Int32)) hx hb dX10_passes_173 (by decide) ?_
        refine lv_icmp_eq (tgt := 180) hx hb dX10_passes_174 (by decide) (fun c => ?_) (fun c => ?_)
        · have hf := x_pos c hf
          refine lv_aload_n hx hb dX10_passes_180 rfl (lv_at hl 1 rfl) ?_
          obtain ⟨v9, hv9, hf⟩ := x_ob hf
          refine xr_getR (ci := 10) (k := 45) S G hv9 rfl kw_1213 dX10_passes_181 ?_
          refine lv_iload hx hb dX10_passes_184 (lv_at hl 0 rfl) ?_
          refine lv_sipush (v := (999 : Int32)) hx hb dX10_passes_186 (by decide) ?_
          refine lv_aload_n hx hb dX10_passes_189 rfl (lv_at hl 1 rfl) ?_
          obtain ⟨v10, hv10, hf⟩ := x_ob hf
          refine xr_getR (ci := 10) (k := 45) S G hv10 rfl kw_1213 dX10_passes_190 ?_
          refine lv_iload hx hb dX10_passes_193 (lv_at hl 0 rfl) ?_
          obtain ⟨v11, hv11, hf⟩ := x_ob hf
          refine xr_iald S G hv11 dX10_passes_195 ?_
          refine lv_iconst (v := (1 : Int32)) hx hb dX10_passes_196 (by decide) ?_
          refine lv_iadd hx hb dX10_passes_197 ?_
          refine va_mmin hx hb (hml.trans hl.1.symm) hown (hts _ kw_1642) (hts _ kw_556) (hts _ kw_18) (hts _ kp_mmin) (Nat.le_of_ble_eq_true rfl) (Nat.le_of_ble_eq_true rfl) (Nat.le_refl _) (Nat.le_refl _) dX10_passes_198 ?_
          obtain ⟨d12, hd12, hf⟩ := x_ob hf
          refine xr_iast S G hd12 dX10_passes_201 (fun H locs G => ?_)
          refine lv_aload_n hx hb dX10_passes_202 rfl (lv_at hl 1 rfl) ?_
          obtain ⟨v13, hv13, hf⟩ := x_ob hf
          refine xr_getR (ci := 10) (k := 44) S G hv13 rfl kw_1212 dX10_passes_203 ?_
          refine lv_iload hx hb dX10_passes_206 (lv_at hl 0 rfl) ?_
          refine lv_dup2_11 hx hb dX10_passes_208 rfl rfl ?_
          obtain ⟨v14, hv14, hf⟩ := x_ob hf
          refine xr_iald S G hv14 dX10_passes_209 ?_
          refine lv_iconst (v := (1 : Int32)) hx hb dX10_passes_210 (by decide) ?_
          refine lv_isub hx hb dX10_passes_211 ?_
          obtain ⟨d15, hd15, hf⟩ := x_ob hf
          refine xr_iast S G hd15 dX10_passes_212 (fun H locs G => ?_)
          refine lv_aload_n hx hb dX10_passes_213 rfl (lv_at hl 1 rfl) ?_
          obtain ⟨v16, hv16, hf⟩ := x_ob hf
          refine xr_getR (ci := 10) (k := 44) S G hv16 rfl kw_1212 dX10_passes_214 ?_
          refine lv_iload hx hb dX10_passes_217 (lv_at hl 0 rfl) ?_
          obtain ⟨v17, hv17, hf⟩ := x_ob hf
          refine xr_iald S G hv17 dX10_passes_219 ?_
          refine lv_if_eq (tgt := 232) hx hb dX10_passes_220 (by decide) (fun c => ?_) (fun c => ?_)
          · have hf := x_pos c hf
            exact K232 _ hrec148 q0 x1 x2 x3 d15 hf _ _ ls (lv_sub hl [1, 2, 3, 4] rfl) G
          · have hf := x_neg c hf
            refine lv_aload_n hx hb dX10_passes_223 rfl (lv_at hl 1 rfl) ?_
            refine lv_iload_n hx hb dX10_passes_224 rfl (lv_at hl 2 rfl) ?_
            refine lv_iload_n hx hb dX10_passes_225 rfl (lv_at hl 3 rfl) ?_
            obtain ⟨z18, hz18, hf⟩ := x_ob hf
            obtain ⟨hqz18, hz18⟩ := xon_of hz18
            refine xr_callV (ci := 10) (As := [.int x1, .int x2]) (rest := []) (st1 := [.int z18.1]) S G hl.1 (fun _ => rfl) (mt_X10_isCalled l D cid b ex sa sv B0 sh q0 x1 x2 d15 _ _ hz18) hqz18 (by decide) kw_1647 kw_1649 ks_86 kw_17 kw_1650 hd_X10_isCalled ⟨Nat.le_of_ble_eq_true rfl, Nat.le_of_ble_eq_true rfl⟩ rfl rfl rfl (Nat.le_of_ble_eq_true rfl) ⟨Nat.le_of_ble_eq_true rfl, Nat.le_of_ble_eq_true rfl⟩ dX10_passes_226 (fun H locs G => ?_)
            refine lv_if_eq (tgt := 238) hx hb dX10_passes_229 (by decide) (fun c => ?_) (fun c => ?_)
            · have hf := x_pos c hf
              exact K238 _ hrec148 q0 x1 x2 x3 z18.2 hf _ _ ls (lv_sub hl [1, 2, 3, 4] rfl) G
            · have hf := x_neg c hf
              exact K232 _ hrec148 q0 x1 x2 x3 z18.2 hf _ _ ls (lv_sub hl [1, 2, 3, 4] rfl) G
        · have hf := x_neg c hf
          refine lv_goto (tgt := 238) hx hb dX10_passes_177 (by decide) ?_
          exact K238 _ hrec148 q0 x1 x2 x3 d hf _ _ ls (lv_sub hl [1, 2, 3, 4] rfl) G
  have K146 : ∀ (q0 : Nat) (x1 : Int32) (x2 : Int32) (d : xD), k_X10_passes_146 sh q0 x1 x2 d = some dz → ∀ (H : Heap) (locs : List Loc) (ls : Array Slot), lv_has ls 5 [(0, .ref (b + q0)), (1, .int x1), (2, .int x2)] → xG D cid b A sh d s H locs → W p l e (xRm 5 0 0) s m av below meth c H locs 0 0 (MQ below (xQ D cid b ex A none sh dz) av s 0 0 A) (F0 m 146 ls []) := by
    intro q0 x1 x2 d hf H locs ls hl G
    unfold k_X10_passes_146 at hf
    refine lv_iconst (v := (0 : Int32)) hx hb dX10_passes_146 (by decide) ?_
    refine lv_istore_n (lv' := [(3, .int (0 : Int32)), (0, .ref (b + q0)), (1, .int x1), (2, .int x2)]) hx hb dX10_passes_147 rfl hl (by decide) rfl (fun ls hl => ?_)
    exact K148 xF q0 x1 x2 (0 : Int32) d hf _ _ ls (lv_sub hl [1, 2, 3, 0] rfl) G
  have K124 : ∀ (n : Nat) (q0 : Nat) (x1 : Int32) (x2 : Int32) (x3 : Int32) (d : xD), xloop (fun _ _ _ _ _ => none) (b_X10_passes_124 sh) n q0 x1 x2 x3 d = some dz → ∀ (H : Heap) (locs : List Loc) (ls : Array Slot), lv_has ls 5 [(0, .ref (b + q0)), (1, .int x1), (2, .int x2), (3, .int x3)] → xG D cid b A sh d s H locs → W p l e (xRm 5 0 0) s m av below meth c H locs 0 0 (MQ below (xQ D cid b ex A none sh dz) av s 0 0 A) (F0 m 124 ls []) := by
    intro n
    induction n with
    | zero =>
      intro q0 x1 x2 x3 d hf
      have hf : (none : Option xD) = some dz := hf
      cases hf
    | succ n hrec124 =>
      intro q0 x1 x2 x3 d hf H locs ls hl G
      have hf : b_X10_passes_124 sh (xloop (fun _ _ _ _ _ => none) (b_X10_passes_124 sh) n) q0 x1 x2 x3 d = some dz := hf
      unfold b_X10_passes_124 at hf
      refine lv_iload_n hx hb dX10_passes_124 rfl (lv_at hl 3 rfl) ?_
      refine lv_aload_n hx hb dX10_passes_125 rfl (lv_at hl 0 rfl) ?_
      obtain ⟨v19, hv19, hf⟩ := x_ob hf
      refine xr_getR (ci := 10) (k := 3) S G hv19 rfl kw_1171 dX10_passes_126 ?_
      refine lv_iconst (v := (1 : Int32)) hx hb dX10_passes_129 (by decide) ?_
      obtain ⟨v20, hv20, hf⟩ := x_ob hf
      refine xr_iald S G hv20 dX10_passes_130 ?_
      refine lv_icmp_ge (tgt := 146) hx hb dX10_passes_131 (by decide) (fun c => ?_) (fun c => ?_)
      · have hf := x_pos c hf
        exact K146 q0 x1 x2 d hf _ _ ls (lv_sub hl [0, 1, 2] rfl) G
      · have hf := x_neg c hf
        refine lv_aload_n hx hb dX10_passes_134 rfl (lv_at hl 0 rfl) ?_
        refine lv_iload_n hx hb dX10_passes_135 rfl (lv_at hl 1 rfl) ?_
        refine lv_iload_n hx hb dX10_passes_136 rfl (lv_at hl 3 rfl) ?_
        obtain ⟨d21, hd21, hf⟩ := x_ob hf
        obtain ⟨hqd21, hd21⟩ := xon_of hd21
        refine xr_callV (ci := 10) (As := [.int x1, .int x3]) (rest := []) (st1 := []) S G hl.1 (fun _ => rfl) (mt_X10_wears l D cid b ex sa sv B0 sh q0 x1 x3 d _ hd21) hqd21 (by decide) kw_1643 kw_1645 ks_85 kw_17 kw_1646 hd_X10_wears ⟨Nat.le_of_ble_eq_true rfl, Nat.le_of_ble_eq_true rfl⟩ rfl rfl rfl (Nat.le_of_ble_eq_true rfl) ⟨Nat.le_of_ble_eq_true rfl, Nat.le_of_ble_eq_true rfl⟩ dX10_passes_137 (fun H locs G => ?_)
        refine lv_iinc (v := (x3 + 1)) (lv' := [(3, .int (x3 + 1)), (0, .ref (b + q0)), (1, .int x1), (2, .int x2)]) hx hb dX10_passes_140 hl (k := 3) rfl rfl (by decide) rfl (fun ls hl => ?_)
        refine lv_goto (tgt := 124) hx hb dX10_passes_143 (by decide) ?_
        exact hrec124 q0 x1 x2 (x3 + 1) d21 hf _ _ ls (lv_sub hl [1, 2, 3, 0] rfl) G
  have K122 : ∀ (q0 : Nat) (x1 : Int32) (x2 : Int32) (d : xD), k_X10_passes_122 sh q0 x1 x2 d = some dz → ∀ (H : Heap) (locs : List Loc) (ls : Array Slot), lv_has ls 5 [(0, .ref (b + q0)), (1, .int x1), (2, .int x2)] → xG D cid b A sh d s H locs → W p l e (xRm 5 0 0) s m av below meth c H locs 0 0 (MQ below (xQ D cid b ex A none sh dz) av s 0 0 A) (F0 m 122 ls []) := by
    intro q0 x1 x2 d hf H locs ls hl G
    unfold k_X10_passes_122 at hf
    refine lv_iconst (v := (0 : Int32)) hx hb dX10_passes_122 (by decide) ?_
    refine lv_istore_n (lv' := [(3, .int (0 : Int32)), (0, .ref (b + q0)), (1, .int x1), (2, .int x2)]) hx hb dX10_passes_123 rfl hl (by decide) rfl (fun ls hl => ?_)
    exact K124 xF q0 x1 x2 (0 : Int32) d hf _ _ ls (lv_sub hl [1, 2, 3, 0] rfl) G
  have K100 : ∀ (n : Nat) (q0 : Nat) (x1 : Int32) (x2 : Int32) (x3 : Int32) (d : xD), xloop (fun _ _ _ _ _ => none) (b_X10_passes_100 sh) n q0 x1 x2 x3 d = some dz → ∀ (H : Heap) (locs : List Loc) (ls : Array Slot), lv_has ls 5 [(0, .ref (b + q0)), (1, .int x1), (2, .int x2), (3, .int x3)] → xG D cid b A sh d s H locs → W p l e (xRm 5 0 0) s m av below meth c H locs 0 0 (MQ below (xQ D cid b ex A none sh dz) av s 0 0 A) (F0 m 100 ls []) := by
    intro n
    induction n with
    | zero =>
      intro q0 x1 x2 x3 d hf
      have hf : (none : Option xD) = some dz := hf
      cases hf
    | succ n hrec100 =>
      intro q0 x1 x2 x3 d hf H locs ls hl G
      have hf : b_X10_passes_100 sh (xloop (fun _ _ _ _ _ => none) (b_X10_passes_100 sh) n) q0 x1 x2 x3 d = some dz := hf
      unfold b_X10_passes_100 at hf
      refine lv_iload_n hx hb dX10_passes_100 rfl (lv_at hl 3 rfl) ?_
      refine lv_aload_n hx hb dX10_passes_101 rfl (lv_at hl 0 rfl) ?_
      obtain ⟨v22, hv22, hf⟩ := x_ob hf
      refine xr_getR (ci := 10) (k := 3) S G hv22 rfl kw_1171 dX10_passes_102 ?_
      refine lv_iconst (v := (1 : Int32)) hx hb dX10_passes_105 (by decide) ?_
      obtain ⟨v23, hv23, hf⟩ := x_ob hf
      refine xr_iald S G hv23 dX10_passes_106 ?_
      refine lv_icmp_ge (tgt := 122) hx hb dX10_passes_107 (by decide) (fun c => ?_) (fun c => ?_)
      · have hf := x_pos c hf
        exact K122 q0 x1 x2 d hf _ _ ls (lv_sub hl [0, 1, 2] rfl) G
      · have hf := x_neg c hf
        refine lv_aload_n hx hb dX10_passes_110 rfl (lv_at hl 0 rfl) ?_
        refine lv_iload_n hx hb dX10_passes_111 rfl (lv_at hl 1 rfl) ?_
        refine lv_iload_n hx hb dX10_passes_112 rfl (lv_at hl 3 rfl) ?_
        obtain ⟨d24, hd24, hf⟩ := x_ob hf
        obtain ⟨hqd24, hd24⟩ := xon_of hd24
        refine xr_callV (ci := 10) (As := [.int x1, .int x3]) (rest := []) (st1 := []) S G hl.1 (fun _ => rfl) (mt_X10_talks l D cid b ex sa sv B0 sh q0 x1 x3 d _ hd24) hqd24 (by decide) kw_1632 kw_1634 ks_83 kw_17 kw_1635 hd_X10_talks ⟨Nat.le_of_ble_eq_true rfl, Nat.le_of_ble_eq_true rfl⟩ rfl rfl rfl (Nat.le_of_ble_eq_true rfl) ⟨Nat.le_of_ble_eq_true rfl, Nat.le_of_ble_eq_true rfl⟩ dX10_passes_113 (fun H locs G => ?_)
        refine lv_iinc (v := (x3 + 1)) (lv' := [(3, .int (x3 + 1)), (0, .ref (b + q0)), (1, .int x1), (2, .int x2)]) hx hb dX10_passes_116 hl (k := 3) rfl rfl (by decide) rfl (fun ls hl => ?_)
        refine lv_goto (tgt := 100) hx hb dX10_passes_119 (by decide) ?_
        exact hrec100 q0 x1 x2 (x3 + 1) d24 hf _ _ ls (lv_sub hl [1, 2, 3, 0] rfl) G
  have K98 : ∀ (q0 : Nat) (x1 : Int32) (x2 : Int32) (d : xD), k_X10_passes_98 sh q0 x1 x2 d = some dz → ∀ (H : Heap) (locs : List Loc) (ls : Array Slot), lv_has ls 5 [(0, .ref (b + q0)), (1, .int x1), (2, .int x2)] → xG D cid b A sh d s H locs → W p l e (xRm 5 0 0) s m av below meth c H locs 0 0 (MQ below (xQ D cid b ex A none sh dz) av s 0 0 A) (F0 m 98 ls []) := by
    intro q0 x1 x2 d hf H locs ls hl G
    unfold k_X10_passes_98 at hf
    refine lv_iconst (v := (0 : Int32)) hx hb dX10_passes_98 (by decide) ?_
    refine lv_istore_n (lv' := [(3, .int (0 : Int32)), (0, .ref (b + q0)), (1, .int x1), (2, .int x2)]) hx hb dX10_passes_99 rfl hl (by decide) rfl (fun ls hl => ?_)
    exact K100 xF q0 x1 x2 (0 : Int32) d hf _ _ ls (lv_sub hl [1, 2, 3, 0] rfl) G
  have K92 : ∀ (rec61 : Nat → Int32 → Int32 → Int32 → xD → Option xD) (hrec61 : ∀ (q0 : Nat) (x1 : Int32) (x2 : Int32) (x3 : Int32) (d : xD), rec61 q0 x1 x2 x3 d = some dz → ∀ (H : Heap) (locs : List Loc) (ls : Array Slot), lv_has ls 5 [(0, .ref (b + q0)), (1, .int x1), (2, .int x2), (3, .int x3)] → xG D cid b A sh d s H locs → W p l e (xRm 5 0 0) s m av below meth c H locs 0 0 (MQ below (xQ D cid b ex A none sh dz) av s 0 0 A) (F0 m 61 ls [])) (q0 : Nat) (x1 : Int32) (x2 : Int32) (x3 : Int32) (d : xD), k_X10_passes_92 sh rec61 q0 x1 x2 x3 d = some dz → ∀ (H : Heap) (locs : List Loc) (ls : Array Slot), lv_has ls 5 [(0, .ref (b + q0)), (1, .int x1), (2, .int x2), (3, .int x3)] → xG D cid b A sh d s H locs → W p l e (xRm 5 0 0) s m av below meth c H locs 0 0 (MQ below (xQ D cid b ex A none sh dz) av s 0 0 A) (F0 m 92 ls []) := by
    intro rec61 hrec61 q0 x1 x2 x3 d hf H locs ls hl G
    unfold k_X10_passes_92 at hf
    refine lv_iinc (v := (x3 + 1)) (lv' := [(3, .int (x3 + 1)), (0, .ref (b + q0)), (1, .int x1), (2, .int x2)]) hx hb dX10_passes_92 hl (k := 3) rfl rfl (by decide) rfl (fun ls hl => ?_)
    refine lv_goto (tgt := 61) hx hb dX10_passes_95 (by decide) ?_
    exact hrec61 q0 x1 x2 (x3 + 1) d hf _ _ ls (lv_sub hl [1, 2, 3, 0] rfl) G
  have K61 : ∀ (n : Nat) (q0 : Nat) (x1 : Int32) (x2 : Int32) (x3 : Int32) (d : xD), xloop (fun _ _ _ _ _ => none) (b_X10_passes_61 sh) n q0 x1 x2 x3 d = some dz → ∀ (H : Heap) (locs : List Loc) (ls : Array Slot), lv_has ls 5 [(0, .ref (b + q0)), (1, .int x1), (2, .int x2), (3, .int x3)] → xG D cid b A sh d s H locs → W p l e (xRm 5 0 0) s m av below meth c H locs 0 0 (MQ below (xQ D cid b ex A none sh dz) av s 0 0 A) (F0 m 61 ls []) := by
    intro n
    induction n with
    | zero =>
      intro q0 x1 x2 x3 d hf
      have hf : (none : Option xD) = some dz := hf
      cases hf
    | succ n hrec61 =>
      intro q0 x1 x2 x3 d hf H locs ls hl G
      have hf : b_X10_passes_61 sh (xloop (fun _ _ _ _ _ => none) (b_X10_passes_61 sh) n) q0 x1 x2 x3 d = some dz := hf
      unfold b_X10_passes_61 at hf
      refine lv_iload_n hx hb dX10_passes_61 rfl (lv_at hl 3 rfl) ?_
      refine lv_aload_n hx hb dX10_passes_62 rfl (lv_at hl 0 rfl) ?_
      obtain ⟨v25, hv25, hf⟩ := x_ob hf
      refine xr_getR (ci := 10) (k := 3) S G hv25 rfl kw_1171 dX10_passes_63 ?_
      refine lv_iconst (v := (2 : Int32)) hx hb dX10_passes_66 (by decide) ?_
      obtain ⟨v26, hv26, hf⟩ := x_ob hf
      refine xr_iald S G hv26 dX10_passes_67 ?_
      refine lv_icmp_ge (tgt := 98) hx hb dX10_passes_68 (by decide) (fun c => ?_) (fun c => ?_)
      · have hf := x_pos c hf
        exact K98 q0 x1 x2 d hf _ _ ls (lv_sub hl [0, 1, 2] rfl) G
      · have hf := x_neg c hf
        refine lv_aload_n hx hb dX10_passes_71 rfl (lv_at hl 0 rfl) ?_
        obtain ⟨v27, hv27, hf⟩ := x_ob hf
        refine xr_getR (ci := 10) (k := 40) S G hv27 rfl kw_1208 dX10_passes_72 ?_
        refine lv_bipush (v := (6 : Int32)) hx hb dX10_passes_75 (by decide) ?_
        refine lv_iload_n hx hb dX10_passes_77 rfl (lv_at hl 1 rfl) ?_
        refine lv_imul hx hb dX10_passes_78 ?_
        refine lv_iload_n hx hb dX10_passes_79 rfl (lv_at hl 3 rfl) ?_
        refine lv_iadd hx hb dX10_passes_80 ?_
        obtain ⟨v28, hv28, hf⟩ := x_ob hf
        refine xr_iald S G hv28 dX10_passes_81 ?_
        refine lv_iconst (v := (1 : Int32)) hx hb dX10_passes_82 (by decide) ?_
        refine lv_icmp_ne (tgt := 92) hx hb dX10_passes_83 (by decide) (fun c => ?_) (fun c => ?_)
        · have hf := x_neg c hf
          exact K92 _ hrec61 q0 x1 x2 x3 d hf _ _ ls (lv_sub hl [0, 1, 2, 3] rfl) G
        · have hf := x_pos c hf
          refine lv_aload_n hx hb dX10_passes_86 rfl (lv_at hl 0 rfl) ?_
          refine lv_iload_n hx hb dX10_passes_87 rfl (lv_at hl 1 rfl) ?_
          refine lv_iload_n hx hb dX10_passes_88 rfl (lv_at hl 3 rfl) ?_
          obtain ⟨d29, hd29, hf⟩ := x_ob hf
          obtain ⟨hqd29, hd29⟩ := xon_of hd29
          refine xr_callV (ci := 10) (As := [.int x1, .int x3]) (rest := []) (st1 := []) S G hl.1 (fun _ => rfl) (mt_X10_walks l D cid b ex sa sv B0 sh q0 x1 x3 d _ hd29) hqd29 (by decide) kw_1620 kw_1622 ks_80 kw_17 kw_1623 hd_X10_walks ⟨Nat.le_of_ble_eq_true rfl, Nat.le_of_ble_eq_true rfl⟩ rfl rfl rfl (Nat.le_of_ble_eq_true rfl) ⟨Nat.le_of_ble_eq_true rfl, Nat.le_of_ble_eq_true rfl⟩ dX10_passes_89 (fun H locs G => ?_)
          exact K92 _ hrec61 q0 x1 x2 x3 d29 hf _ _ ls (lv_sub hl [0, 1, 2, 3] rfl) G
  have K59 : ∀ (q0 : Nat) (x1 : Int32) (x2 : Int32) (d : xD), k_X10_passes_59 sh q0 x1 x2 d = some dz → ∀ (H : Heap) (locs : List Loc) (ls : Array Slot), lv_has ls 5 [(0, .ref (b + q0)), (1, .int x1), (2, .int x2)] → xG D cid b A sh d s H locs → W p l e (xRm 5 0 0) s m av below meth c H locs 0 0 (MQ below (xQ D cid b ex A none sh dz) av s 0 0 A) (F0 m 59 ls []) := by
    intro q0 x1 x2 d hf H locs ls hl G
    unfold k_X10_passes_59 at hf
    refine lv_iconst (v := (0 : Int32)) hx hb dX10_passes_59 (by decide) ?_
    refine lv_istore_n (lv' := [(3, .int (0 : Int32)), (0, .ref (b + q0)), (1, .int x1), (2, .int x2)]) hx hb dX10_passes_60 rfl hl (by decide) rfl (fun ls hl => ?_)
    exact K61 xF q0 x1 x2 (0 : Int32) d hf _ _ ls (lv_sub hl [1, 2, 3, 0] rfl) G
  have K53 : ∀ (rec2 : Nat → Int32 → Int32 → Int32 → xD → Option xD) (hrec2 : ∀ (q0 : Nat) (x1 : Int32) (x2 : Int32) (x3 : Int32) (d : xD), rec2 q0 x1 x2 x3 d = some dz → ∀ (H : Heap) (locs : List Loc) (ls : Array Slot), lv_has ls 5 [(0, .ref (b + q0)), (1, .int x1), (2, .int x2), (3, .int x3)] → xG D cid b A sh d s H locs → W p l e (xRm 5 0 0) s m av below meth c H locs 0 0 (MQ below (xQ D cid b ex A none sh dz) av s 0 0 A) (F0 m 2 ls [])) (q0 : Nat) (x1 : Int32) (x2 : Int32) (x3 : Int32) (d : xD), k_X10_passes_53 sh rec2 q0 x1 x2 x3 d = some dz → ∀ (H : Heap) (locs : List Loc) (ls : Array Slot), lv_has ls 5 [(0, .ref (b + q0)), (1, .int x1), (2, .int x2), (3, .int x3)] → xG D cid b A sh d s H locs → W p l e (xRm 5 0 0) s m av below meth c H locs 0 0 (MQ below (xQ D cid b ex A none sh dz) av s 0 0 A) (F0 m 53 ls []) := by
    intro rec2 hrec2 q0 x1 x2 x3 d hf H locs ls hl G
    unfold k_X10_passes_53 at hf
    refine lv_iinc (v := (x3 + 1)) (lv' := [(3, .int (x3 + 1)), (0, .ref (b + q0)), (1, .int x1), (2, .int x2)]) hx hb dX10_passes_53 hl (k := 3) rfl rfl (by decide) rfl (fun ls hl => ?_)
    refine lv_goto (tgt := 2) hx hb dX10_passes_56 (by decide) ?_
    exact hrec2 q0 x1 x2 (x3 + 1) d hf _ _ ls (lv_sub hl [1, 2, 3, 0] rfl) G
  have K2 : ∀ (n : Nat) (q0 : Nat) (x1 : Int32) (x2 : Int32) (x3 : Int32) (d : xD), xloop (fun _ _ _ _ _ => none) (b_X10_passes_2 sh) n q0 x1 x2 x3 d = some dz → ∀ (H : Heap) (locs : List Loc) (ls : Array Slot), lv_has ls 5 [(0, .ref (b + q0)), (1, .int x1), (2, .int x2), (3, .int x3)] → xG D cid b A sh d s H locs → W p l e (xRm 5 0 0) s m av below meth c H locs 0 0 (MQ below (xQ D cid b ex A none sh dz) av s 0 0 A) (F0 m 2 ls []) := by
    intro n
    induction n with
    | zero =>
      intro q0 x1 x2 x3 d hf
      have hf : (none : Option xD) = some dz := hf
      cases hf
    | succ n hrec2 =>
      intro q0 x1 x2 x3 d hf H locs ls hl G
      have hf : b_X10_passes_2 sh (xloop (fun _ _ _ _ _ => none) (b_X10_passes_2 sh) n) q0 x1 x2 x3 d = some dz := hf
      unfold b_X10_passes_2 at hf
      refine lv_iload_n hx hb dX10_passes_2 rfl (lv_at hl 3 rfl) ?_
      refine lv_aload_n hx hb dX10_passes_3 rfl (lv_at hl 0 rfl) ?_
      obtain ⟨v30, hv30, hf⟩ := x_ob hf
      refine xr_getR (ci := 10) (k := 3) S G hv30 rfl kw_1171 dX10_passes_4 ?_
      refine lv_iconst (v := (2 : Int32)) hx hb dX10_passes_7 (by decide) ?_
      obtain ⟨v31, hv31, hf⟩ := x_ob hf
      refine xr_iald S G hv31 dX10_passes_8 ?_
      refine lv_icmp_ge (tgt := 59) hx hb dX10_passes_9 (by decide) (fun c => ?_) (fun c => ?_)
      · have hf := x_pos c hf
        exact K59 q0 x1 x2 d hf _ _ ls (lv_sub hl [0, 1, 2] rfl) G
      · have hf := x_neg c hf
        refine lv_aload_n hx hb dX10_passes_12 rfl (lv_at hl 0 rfl) ?_
        obtain ⟨v32, hv32, hf⟩ := x_ob hf
        refine xr_getR (ci := 10) (k := 40) S G hv32 rfl kw_1208 dX10_passes_13 ?_
        refine lv_bipush (v := (6 : Int32)) hx hb dX10_passes_16 (by decide) ?_
        refine lv_iload_n hx hb dX10_passes_18 rfl (lv_at hl 1 rfl) ?_
        refine lv_imul hx hb dX10_passes_19 ?_
        refine lv_iload_n hx hb dX10_passes_20 rfl (lv_at hl 3 rfl) ?_
        refine lv_iadd hx hb dX10_passes_21 ?_
        obtain ⟨v33, hv33, hf⟩ := x_ob hf
        refine xr_iald S G hv33 dX10_passes_22 ?_
        refine lv_if_ne (tgt := 53) hx hb dX10_passes_23 (by decide) (fun c => ?_) (fun c => ?_)
        · have hf := x_neg c hf
          exact K53 _ hrec2 q0 x1 x2 x3 d hf _ _ ls (lv_sub hl [0, 1, 2, 3] rfl) G
        · have hf := x_pos c hf
          refine lv_aload_n hx hb dX10_passes_26 rfl (lv_at hl 0 rfl) ?_
          obtain ⟨v34, hv34, hf⟩ := x_ob hf
          refine xr_getR (ci := 10) (k := 11) S G hv34 rfl kw_1179 dX10_passes_27 ?_
          refine lv_iload_n hx hb dX10_passes_30 rfl (lv_at hl 3 rfl) ?_
          obtain ⟨v35, hv35, hf⟩ := x_ob hf
          refine xr_iald S G hv35 dX10_passes_31 ?_
          refine lv_aload_n hx hb dX10_passes_32 rfl (lv_at hl 0 rfl) ?_
          obtain ⟨v36, hv36, hf⟩ := x_ob hf
          refine xr_getR (ci := 10) (k := 35) S G hv36 rfl kw_1203 dX10_passes_33 ?_
          refine lv_iload_n hx hb dX10_passes_36 rfl (lv_at hl 1 rfl) ?_
          obtain ⟨v37, hv37, hf⟩ := x_ob hf
          refine xr_iald S G hv37 dX10_passes_37 ?_
          refine lv_icmp_ne (tgt := 53) hx hb dX10_passes_38 (by decide) (fun c => ?_) (fun c => ?_)
          · have hf := x_neg c hf
            exact K53 _ hrec2 q0 x1 x2 x3 d hf _ _ ls (lv_sub hl [0, 1, 2, 3] rfl) G
          · have hf := x_pos c hf
            refine lv_aload_n hx hb dX10_passes_41 rfl (lv_at hl 0 rfl) ?_
            obtain ⟨v38, hv38, hf⟩ := x_ob hf
            refine xr_getR (ci := 10) (k := 40) S G hv38 rfl kw_1208 dX10_passes_42 ?_
            refine lv_bipush (v := (6 : Int32)) hx hb dX10_passes_45 (by decide) ?_
            refine lv_iload_n hx hb dX10_passes_47 rfl (lv_at hl 1 rfl) ?_
            refine lv_imul hx hb dX10_passes_48 ?_
            refine lv_iload_n hx hb dX10_passes_49 rfl (lv_at hl 3 rfl) ?_
            refine lv_iadd hx hb dX10_passes_50 ?_
            refine lv_iconst (v := (1 : Int32)) hx hb dX10_passes_51 (by decide) ?_
            obtain ⟨d39, hd39, hf⟩ := x_ob hf
            refine xr_iast S G hd39 dX10_passes_52 (fun H locs G => ?_)
            exact K53 _ hrec2 q0 x1 x2 x3 d39 hf _ _ ls (lv_sub hl [0, 1, 2, 3] rfl) G
  unfold f_X10_passes at hf
  refine lv_iconst (v := (0 : Int32)) hx hb dX10_passes_0 (by decide) ?_
  refine lv_istore_n (lv' := [(3, .int (0 : Int32)), (0, .ref (b + q0)), (1, .int x1), (2, .int x2)]) hx hb dX10_passes_1 rfl hl (by decide) rfl (fun ls hl => ?_)
  exact K2 xF q0 x1 x2 (0 : Int32) d hf _ _ ls (lv_sub hl [1, 2, 3, 0] rfl) G

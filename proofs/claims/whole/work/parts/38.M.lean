-- HalfLandingsModel.cover(I)I
theorem dX10_cover_0 : decode cX10_cover 0 = .ok (.aload_n 0, 1) := by decide +kernel
theorem dX10_cover_1 : decode cX10_cover 1 = .ok (.iconst 0, 1) := by decide +kernel
theorem dX10_cover_2 : decode cX10_cover 2 = .ok (.putfield 145, 3) := by decide +kernel
theorem dX10_cover_5 : decode cX10_cover 5 = .ok (.iload_n 1, 1) := by decide +kernel
theorem dX10_cover_6 : decode cX10_cover 6 = .ok (.iconst 1, 1) := by decide +kernel
theorem dX10_cover_7 : decode cX10_cover 7 = .ok (.if_icmp .lt 9, 3) := by decide +kernel
theorem dX10_cover_10 : decode cX10_cover 10 = .ok (.iload_n 1, 1) := by decide +kernel
theorem dX10_cover_11 : decode cX10_cover 11 = .ok (.bipush 60, 2) := by decide +kernel
theorem dX10_cover_13 : decode cX10_cover 13 = .ok (.if_icmp .le 5, 3) := by decide +kernel
theorem dX10_cover_16 : decode cX10_cover 16 = .ok (.iconst (-1), 1) := by decide +kernel
theorem dX10_cover_17 : decode cX10_cover 17 = .ok (.ireturn, 1) := by decide +kernel
theorem dX10_cover_18 : decode cX10_cover 18 = .ok (.bipush (-2), 2) := by decide +kernel
theorem dX10_cover_20 : decode cX10_cover 20 = .ok (.istore_n 2, 1) := by decide +kernel
theorem dX10_cover_21 : decode cX10_cover 21 = .ok (.iconst 0, 1) := by decide +kernel
theorem dX10_cover_22 : decode cX10_cover 22 = .ok (.istore_n 3, 1) := by decide +kernel
theorem dX10_cover_23 : decode cX10_cover 23 = .ok (.iload_n 3, 1) := by decide +kernel
theorem dX10_cover_24 : decode cX10_cover 24 = .ok (.iconst 1, 1) := by decide +kernel
theorem dX10_cover_25 : decode cX10_cover 25 = .ok (.aload_n 0, 1) := by decide +kernel
theorem dX10_cover_26 : decode cX10_cover 26 = .ok (.getfield 13, 3) := by decide +kernel
theorem dX10_cover_29 : decode cX10_cover 29 = .ok (.iconst 1, 1) := by decide +kernel
theorem dX10_cover_30 : decode cX10_cover 30 = .ok (.iaload, 1) := by decide +kernel
theorem dX10_cover_31 : decode cX10_cover 31 = .ok (.ishl, 1) := by decide +kernel
theorem dX10_cover_32 : decode cX10_cover 32 = .ok (.if_icmp .ge 35, 3) := by decide +kernel
theorem dX10_cover_35 : decode cX10_cover 35 = .ok (.iload_n 2, 1) := by decide +kernel
theorem dX10_cover_36 : decode cX10_cover 36 = .ok (.ifCond .lt 14, 3) := by decide +kernel
theorem dX10_cover_39 : decode cX10_cover 39 = .ok (.iload_n 3, 1) := by decide +kernel
theorem dX10_cover_40 : decode cX10_cover 40 = .ok (.invokestatic 337, 3) := by decide +kernel
theorem dX10_cover_43 : decode cX10_cover 43 = .ok (.iload_n 2, 1) := by decide +kernel
theorem dX10_cover_44 : decode cX10_cover 44 = .ok (.invokestatic 337, 3) := by decide +kernel
theorem dX10_cover_47 : decode cX10_cover 47 = .ok (.if_icmp .ge 14, 3) := by decide +kernel
theorem dX10_cover_50 : decode cX10_cover 50 = .ok (.aload_n 0, 1) := by decide +kernel
theorem dX10_cover_51 : decode cX10_cover 51 = .ok (.iload_n 3, 1) := by decide +kernel
theorem dX10_cover_52 : decode cX10_cover 52 = .ok (.iload_n 1, 1) := by decide +kernel
theorem dX10_cover_53 : decode cX10_cover 53 = .ok (.invokevirtual 454, 3) := by decide +kernel
theorem dX10_cover_56 : decode cX10_cover 56 = .ok (.ifCond .eq 5, 3) := by decide +kernel
theorem dX10_cover_59 : decode cX10_cover 59 = .ok (.iload_n 3, 1) := by decide +kernel
theorem dX10_cover_60 : decode cX10_cover 60 = .ok (.istore_n 2, 1) := by decide +kernel
theorem dX10_cover_61 : decode cX10_cover 61 = .ok (.iinc 3 1, 3) := by decide +kernel
theorem dX10_cover_64 : decode cX10_cover 64 = .ok (.goto (-41), 3) := by decide +kernel
theorem dX10_cover_67 : decode cX10_cover 67 = .ok (.iload_n 2, 1) := by decide +kernel
theorem dX10_cover_68 : decode cX10_cover 68 = .ok (.ireturn, 1) := by decide +kernel
theorem hd_X10_cover : yX10_cover.cls = xCn 10 ∧ yX10_cover.cls ≠ "java/lang/invoke/MethodHandle" ∧ yX10_cover.cls ≠ "java/lang/invoke/VarHandle" ∧ (parseMethodDescriptor yX10_cover.desc).map (fun d => d.parameters.length) = some 1 := by decide +kernel
def k_X10_cover_16 (sh : List xSh) (d : xD) : Option (Int32 × xD) :=
  some ((-1 : Int32), d)
def k_X10_cover_67 (sh : List xSh) (x2 : Int32) (d : xD) : Option (Int32 × xD) :=
  some (x2, d)
def k_X10_cover_61 (sh : List xSh) (rec23 : Nat → Int32 → Int32 → Int32 → xD → Option (Int32 × xD)) (q0 : Nat) (x1 : Int32) (x2 : Int32) (x3 : Int32) (d : xD) : Option (Int32 × xD) :=
  rec23 q0 x1 x2 (x3 + 1) d
def k_X10_cover_50 (sh : List xSh) (rec23 : Nat → Int32 → Int32 → Int32 → xD → Option (Int32 × xD)) (q0 : Nat) (x1 : Int32) (x2 : Int32) (x3 : Int32) (d : xD) : Option (Int32 × xD) :=
  (xon 10 sh q0 (f_X10_doCover sh q0 x3 x1 d)).bind fun z1 => if z1.1 = 0 then (k_X10_cover_61 sh rec23 q0 x1 x2 x3 z1.2) else (k_X10_cover_61 sh rec23 q0 x1 x3 x3 z1.2)
def b_X10_cover_23 (sh : List xSh) (rec23 : Nat → Int32 → Int32 → Int32 → xD → Option (Int32 × xD)) (q0 : Nat) (x1 : Int32) (x2 : Int32) (x3 : Int32) (d : xD) : Option (Int32 × xD) :=
  (xgR 10 sh d q0 3).bind fun v2 => (xaI .int sh d v2 (1 : Int32)).bind fun v3 => if ((1 : Int32) <<< (v3 &&& 31)) ≤ x3 then (k_X10_cover_67 sh x2 d) else (if x2 < 0 then (k_X10_cover_50 sh rec23 q0 x1 x2 x3 d) else ((f_X10_bitsOf sh x3 d).bind fun z4 => (f_X10_bitsOf sh x2 z4.2).bind fun z5 => if z5.1 ≤ z4.1 then (k_X10_cover_61 sh rec23 q0 x1 x2 x3 z5.2) else (k_X10_cover_50 sh rec23 q0 x1 x2 x3 z5.2)))
def f_X10_cover (sh : List xSh) (q0 : Nat) (x1 : Int32) (d : xD) : Option (Int32 × xD) :=
  (xpI 10 sh d q0 0 (0 : Int32)).bind fun d6 => if x1 < (1 : Int32) then (k_X10_cover_16 sh d6) else (if x1 ≤ (60 : Int32) then (xloop (fun _ _ _ _ _ => none) (b_X10_cover_23 sh) xF q0 x1 (-2 : Int32) (0 : Int32) d6) else (k_X10_cover_16 sh d6))
set_option maxHeartbeats 4000000 in
set_option maxRecDepth 100000 in
theorem mt_X10_cover (l : Launch) (D : va_G) (cid : FieldType → ClassId) (b : Nat) (ex : Bool) (sa sv B0 : Nat) (sh : List xSh) (q0 : Nat) (x1 : Int32) (d : xD) (r : Int32) (dz : xD) (hf : f_X10_cover sh q0 x1 d = some (r, dz)) : xMet l yX10_cover cX10_cover 4 (some .int) 3 0 0 D cid b ex sa sv B0 [.ref (b + q0), .int x1] sh d (some (.int r)) sh dz := by
  refine xMet.of (by decide) (Nat.le_of_ble_eq_true rfl) ?_
  intro p e s m below meth c ls A S hr hin G hl
  have hl : lv_has ls 4 [(0, .ref (b + q0)), (1, .int x1)] := hl
  generalize ([.ref (b + q0), .int x1] : List Value).toArray = av at S ⊢
  have hx := S.1
  have hb := S.2.1
  have hml := S.2.2.1
  have hown := S.2.2.2.1
  have hts := S.2.2.2.2.1
  have K16 : ∀ (d : xD), k_X10_cover_16 sh d = some (r, dz) → ∀ (H : Heap) (locs : List Loc) (ls : Array Slot), lv_has ls 4 [] → xG D cid b A sh d s H locs → W p l e (xRm 3 0 0) s m av below meth c H locs 0 0 (MQ below (xQ D cid b ex A (some (.int r)) sh dz) av s 0 0 A) (F0 m 16 ls []) := by
    intro d hf H locs ls hl G
    unfold k_X10_cover_16 at hf
    refine lv_iconst (v := (-1 : Int32)) hx hb dX10_cover_16 (by decide) ?_
    cases hf
    exact xr_iret S G (fun _ => rfl) hr dX10_cover_17
  have K67 : ∀ (x2 : Int32) (d : xD), k_X10_cover_67 sh x2 d = some (r, dz) → ∀ (H : Heap) (locs : List Loc) (ls : Array Slot), lv_has ls 4 [(2, .int x2)] → xG D cid b A sh d s H locs → W p l e (xRm 3 0 0) s m av below meth c H locs 0 0 (MQ below (xQ D cid b ex A (some (.int r)) sh dz) av s 0 0 A) (F0 m 67 ls []) := by
    intro x2 d hf H locs ls hl G
    unfold k_X10_cover_67 at hf
    refine lv_iload_n hx hb dX10_cover_67 rfl (lv_at hl 0 rfl) ?_
    cases hf
    exact xr_iret S G (fun _ => rfl) hr dX10_cover_68
  have K61 : ∀ (rec23 : Nat → Int32 → Int32 → Int32 → xD → Option (Int32 × xD)) (hrec23 : ∀ (q0 : Nat) (x1 : Int32) (x2 : Int32) (x3 : Int32) (d : xD), rec23 q0 x1 x2 x3 d = some (r, dz) → ∀ (H : Heap) (locs : List Loc) (ls : Array Slot), lv_has ls 4 [(0, .ref (b + q0)), (1, .int x1), (2, .int x2), (3, .int x3)] → xG D cid b A sh d s H locs → W p l e (xRm 3 0 0) s m av below meth c H locs 0 0 (MQ below (xQ D cid b ex A (some (.int r)) sh dz) av s 0 0 A) (F0 m 23 ls [])) (q0 : Nat) (x1 : Int32) (x2 : Int32) (x3 : Int32) (d : xD), k_X10_cover_61 sh rec23 q0 x1 x2 x3 d = some (r, dz) → ∀ (H : Heap) (locs : List Loc) (ls : Array Slot), lv_has ls 4 [(0, .ref (b + q0)), (1, .int x1), (2, .int x2), (3, .int x3)] → xG D cid b A sh d s H locs → W p l e (xRm 3 0 0) s m av below meth c H locs 0 0 (MQ below (xQ D cid b ex A (some (.int r)) sh dz) av s 0 0 A) (F0 m 61 ls []) := by
    intro rec23 hrec23 q0 x1 x2 x3 d hf H locs ls hl G
    unfold k_X10_cover_61 at hf
    refine lv_iinc (v := (x3 + 1)) (lv' := [(3, .int (x3 + 1)), (0, .ref (b + q0)), (1, .int x1), (2, .int x2)]) hx hb dX10_cover_61 hl (k := 3) rfl rfl (by decide) rfl (fun ls hl => ?_)
    refine lv_goto (tgt := 23) hx hb dX10_cover_64 (by decide) ?_
    exact hrec23 q0 x1 x2 (x3 + 1) d hf _ _ ls (lv_sub hl [1, 2, 3, 0] rfl) G
  have K50 : ∀ (rec23 : Nat → Int32 → Int32 → Int32 → xD → Option (Int32 × xD)) (hrec23 : ∀ (q0 : Nat) (x1 : Int32) (x2 : Int32) (x3 : Int32) (d : xD), rec23 q0 x1 x2 x3 d = some (r, dz) → ∀ (H : Heap) (locs : List Loc) (ls : Array Slot), lv_has ls 4 [(0, .ref (b + q0)), (1, .int x1), (2, .int x2), (3, .int x3)] → xG D cid b A sh d s H locs → W p l e (xRm 3 0 0) s m av below meth c H locs 0 0 (MQ below (xQ D cid b ex A (some (.int r)) sh dz) av s 0 0 A) (F0 m 23 ls [])) (q0 : Nat) (x1 : Int32) (x2 : Int32) (x3 : Int32) (d : xD), k_X10_cover_50 sh rec23 q0 x1 x2 x3 d = some (r, dz) → ∀ (H : Heap) (locs : List Loc) (ls : Array Slot), lv_has ls 4 [(0, .ref (b + q0)), (1, .int x1), (2, .int x2), (3, .int x3)] → xG D cid b A sh d s H locs → W p l e (xRm 3 0 0) s m av below meth c H locs 0 0 (MQ below (xQ D cid b ex A (some (.int r)) sh dz) av s 0 0 A) (F0 m 50 ls []) := by
    intro rec23 hrec23 q0 x1 x2 x3 d hf H locs ls hl G
    unfold k_X10_cover_50 at hf
    refine lv_aload_n hx hb dX10_cover_50 rfl (lv_at hl 0 rfl) ?_
    refine lv_iload_n hx hb dX10_cover_51 rfl (lv_at hl 3 rfl) ?_
    refine lv_iload_n hx hb dX10_cover_52 rfl (lv_at hl 1 rfl) ?_
    obtain ⟨z1, hz1, hf⟩ := x_ob hf
    obtain ⟨hqz1, hz1⟩ := xon_of hz1
    refine xr_callV (ci := 10) (As := [.int x3, .int x1]) (rest := []) (st1 := [.int z1.1]) S G hl.1 (fun _ => rfl) (mt_X10_doCover l D cid b ex sa sv B0 sh q0 x3 x1 d _ _ hz1) hqz1 (by decide) kw_1697 kw_1699 ks_92 kw_17 kw_1700 hd_X10_doCover ⟨Nat.le_of_ble_eq_true rfl, Nat.le_of_ble_eq_true rfl⟩ rfl rfl rfl (Nat.le_of_ble_eq_true rfl) ⟨Nat.le_of_ble_eq_true rfl, Nat.le_of_ble_eq_true rfl⟩ dX10_cover_53 (fun H locs G => ?_)
    refine lv_if_eq (tgt := 61) hx hb dX10_cover_56 (by decide) (fun c => ?_) (fun c => ?_)
    · have hf := x_pos c hf
      exact K61 _ hrec23 q0 x1 x2 x3 z1.2 hf _ _ ls (lv_sub hl [0, 1, 2, 3] rfl) G
    · have hf := x_neg c hf
      refine lv_iload_n hx hb dX10_cover_59 rfl (lv_at hl 3 rfl) ?_
      refine lv_istore_n (lv' := [(2, .int x3), (0, .ref (b + q0)), (1, .int x1), (3, .int x3)]) hx hb dX10_cover_60 rfl hl (by decide) rfl (fun ls hl => ?_)
      exact K61 _ hrec23 q0 x1 x3 x3 z1.2 hf _ _ ls (lv_sub hl [1, 2, 0, 3] rfl) G
  have K23 : ∀ (n : Nat) (q0 : Nat) (x1 : Int32) (x2 : Int32) (x3 : Int32) (d : xD), xloop (fun _ _ _ _ _ => none) (b_X10_cover_23 sh) n q0 x1 x2 x3 d = some (r, dz) → ∀ (H : Heap) (locs : List Loc) (ls : Array Slot), lv_has ls 4 [(0, .ref (b + q0)), (1, .int x1), (2, .int x2), (3, .int x3)] → xG D cid b A sh d s H locs → W p l e (xRm 3 0 0) s m av below meth c H locs 0 0 (MQ below (xQ D cid b ex A (some (.int r)) sh dz) av s 0 0 A) (F0 m 23 ls []) := by
    intro n
    induction n with
    | zero =>
      intro q0 x1 x2 x3 d hf
      have hf : (none : Option (Int32 × xD)) = some (r, dz) := hf
      cases hf
    | succ n hrec23 =>
      intro q0 x1 x2 x3 d hf H locs ls hl G
      have hf : b_X10_cover_23 sh (xloop (fun _ _ _ _ _ => none) (b_X10_cover_23 sh) n) q0 x1 x2 x3 d = some (r, dz) := hf
      unfold b_X10_cover_23 at hf
      refine lv_iload_n hx hb dX10_cover_23 rfl (lv_at hl 3 rfl) ?_
      refine lv_iconst (v := (1 : Int32)) hx hb dX10_cover_24 (by decide) ?_
      refine lv_aload_n hx hb dX10_cover_25 rfl (lv_at hl 0 rfl) ?_
      obtain ⟨v2, hv2, hf⟩ := x_ob hf
      refine xr_getR (ci := 10) (k := 3) S G hv2 rfl kw_1171 dX10_cover_26 ?_
      refine lv_iconst (v := (1 : Int32)) hx hb dX10_cover_29 (by decide) ?_
      obtain ⟨v3, hv3, hf⟩ := x_ob hf
      refine xr_iald S G hv3 dX10_cover_30 ?_
      refine lv_ishl hx hb dX10_cover_31 ?_
      refine lv_icmp_ge (tgt := 67) hx hb dX10_cover_32 (by decide) (fun c => ?_) (fun c => ?_)
      · have hf := x_pos c hf
        exact K67 x2 d hf _ _ ls (lv_sub hl [2] rfl) G
      · have hf := x_neg c hf
        refine lv_iload_n hx hb dX10_cover_35 rfl (lv_at hl 2 rfl) ?_
        refine lv_if_lt (tgt := 50) hx hb dX10_cover_36 (by decide) (fun c => ?_) (fun c => ?_)
        · have hf := x_pos c hf
          exact K50 _ hrec23 q0 x1 x2 x3 d hf _ _ ls (lv_sub hl [0, 1, 2, 3] rfl) G
        · have hf := x_neg c hf
          refine lv_iload_n hx hb dX10_cover_39 rfl (lv_at hl 3 rfl) ?_
          obtain ⟨z4, hz4, hf⟩ := x_ob hf
          refine xr_callS (As := [.int x3]) (rest := []) (st1 := [.int z4.1]) S G hl.1 (fun _ => rfl) (mt_X10_bitsOf l D cid b ex sa sv B0 sh x3 d _ _ hz4) kw_1524 kw_1525 kw_17 kw_1526 hd_X10_bitsOf ⟨Nat.le_of_ble_eq_true rfl, Nat.le_of_ble_eq_true rfl⟩ rfl rfl rfl (Nat.le_of_ble_eq_true rfl) ⟨Nat.le_of_ble_eq_true rfl, Nat.le_of_ble_eq_true rfl⟩ dX10_cover_40 (fun H locs G => ?_)
          refine lv_iload_n hx hb dX10_cover_43 rfl (lv_at hl 2 rfl) ?_
          obtain ⟨z5, hz5, hf⟩ := x_ob hf
          refine xr_callS (As := [.int x2]) (rest := [.int z4.1]) (st1 := [.int z5.1, .int z4.1]) S G hl.1 (fun _ => rfl) (mt_X10_bitsOf l D cid b ex sa sv B0 sh x2 z4.2 _ _ hz5) kw_1524 kw_1525 kw_17 kw_1526 hd_X10_bitsOf ⟨Nat.le_of_ble_eq_true rfl, Nat.le_of_ble_eq_true rfl⟩ rfl rfl rfl (Nat.le_of_ble_eq_true rfl) ⟨Nat.le_of_ble_eq_true rfl, Nat.le_of_ble_eq_true rfl⟩ dX10_cover_44 (fun H locs G => ?_)
          refine lv_icmp_ge (tgt := 61) hx hb dX10_cover_47 (by decide) (fun c => ?_) (fun c => ?_)
          · have hf := x_pos c hf
            exact K61 _ hrec23 q0 x1 x2 x3 z5.2 hf _ _ ls (lv_sub hl [0, 1, 2, 3] rfl) G
          · have hf := x_neg c hf
            exact K50 _ hrec23 q0 x1 x2 x3 z5.2 hf _ _ ls (lv_sub hl [0, 1, 2, 3] rfl) G
  unfold f_X10_cover at hf
  refine lv_aload_n hx hb dX10_cover_0 rfl (lv_at hl 0 rfl) ?_
  refine lv_iconst (v := (0 : Int32)) hx hb dX10_cover_1 (by decide) ?_
  obtain ⟨d6, hd6, hf⟩ := x_ob hf
  refine xr_putI (ci := 10) (k := 0) S G hd6 rfl kw_1168 dX10_cover_2 (fun H locs G => ?_)
  refine lv_iload_n hx hb dX10_cover_5 rfl (lv_at hl 1 rfl) ?_
  refine lv_iconst (v := (1 : Int32)) hx hb dX10_cover_6 (by decide) ?_
  refine lv_icmp_lt (tgt := 16) hx hb dX10_cover_7 (by decide) (fun c => ?_) (fun c => ?_)
  · have hf := x_pos c hf
    exact K16 d6 hf _ _ ls (lv_sub hl [] rfl) G
  · have hf := x_neg c hf
    refine lv_iload_n hx hb dX10_cover_10 rfl (lv_at hl 1 rfl) ?_
    refine lv_bipush (v := (60 : Int32)) hx hb dX10_cover_11 (by decide) ?_
    refine lv_icmp_le (tgt := 18) hx hb dX10_cover_13 (by decide) (fun c => ?_) (fun c => ?_)
    · have hf := x_pos c hf
      refine lv_bipush (v := (-2 : Int32)) hx hb dX10_cover_18 (by decide) ?_
      refine lv_istore_n (lv' := [(2, .int (-2 : Int32)), (0, .ref (b + q0)), (1, .int x1)]) hx hb dX10_cover_20 rfl hl (by decide) rfl (fun ls hl => ?_)
      refine lv_iconst (v := (0 : Int32)) hx hb dX10_cover_21 (by decide) ?_
      refine lv_istore_n (lv' := [(3, .int (0 : Int32)), (2, .int (-2 : Int32)), (0, .ref (b + q0)), (1, .int x1)]) hx hb dX10_cover_22 rfl hl (by decide) rfl (fun ls hl => ?_)
      exact K23 xF q0 x1 (-2 : Int32) (0 : Int32) d6 hf _ _ ls (lv_sub hl [2, 3, 1, 0] rfl) G
    · have hf := x_neg c hf
      exact K16 d6 hf _ _ ls (lv_sub hl [] rfl) G
-- HalfLandingsModel.carry()I
theorem dX10_carry_0 : decode cX10_carry 0 = .ok (.aload_n 0, 1) := by decide +kernel
theorem dX10_carry_1 : decode cX10_carry 1 = .ok (.iconst 0, 1) := by decide +kernel
theorem dX10_carry_2 : decode cX10_carry 2 = .ok (.putfield 145, 3) := by decide +kernel
theorem dX10_carry_5 : decode cX10_carry 5 = .ok (.aload_n 0, 1) := by decide +kernel
theorem dX10_carry_6 : decode cX10_carry 6 = .ok (.getfield 81, 3) := by decide +kernel
theorem dX10_carry_9 : decode cX10_carry 9 = .ok (.iconst 0, 1) := by decide +kernel
theorem dX10_carry_10 : decode cX10_carry 10 = .ok (.iaload, 1) := by decide +kernel
theorem dX10_carry_11 : decode cX10_carry 11 = .ok (.ifCond .ne 5, 3) := by decide +kernel
theorem dX10_carry_14 : decode cX10_carry 14 = .ok (.iconst (-1), 1) := by decide +kernel
theorem dX10_carry_15 : decode cX10_carry 15 = .ok (.ireturn, 1) := by decide +kernel
theorem dX10_carry_16 : decode cX10_carry 16 = .ok (.iconst 0, 1) := by decide +kernel
theorem dX10_carry_17 : decode cX10_carry 17 = .ok (.istore_n 1, 1) := by decide +kernel
theorem dX10_carry_18 : decode cX10_carry 18 = .ok (.iload_n 1, 1) := by decide +kernel
theorem dX10_carry_19 : decode cX10_carry 19 = .ok (.bipush 64, 2) := by decide +kernel
theorem dX10_carry_21 : decode cX10_carry 21 = .ok (.if_icmp .ge 30, 3) := by decide +kernel
theorem dX10_carry_24 : decode cX10_carry 24 = .ok (.aload_n 0, 1) := by decide +kernel
theorem dX10_carry_25 : decode cX10_carry 25 = .ok (.getfield 117, 3) := by decide +kernel
theorem dX10_carry_28 : decode cX10_carry 28 = .ok (.iload_n 1, 1) := by decide +kernel
theorem dX10_carry_29 : decode cX10_carry 29 = .ok (.iload_n 1, 1) := by decide +kernel
theorem dX10_carry_30 : decode cX10_carry 30 = .ok (.aload_n 0, 1) := by decide +kernel
theorem dX10_carry_31 : decode cX10_carry 31 = .ok (.getfield 81, 3) := by decide +kernel
theorem dX10_carry_34 : decode cX10_carry 34 = .ok (.iconst 0, 1) := by decide +kernel
theorem dX10_carry_35 : decode cX10_carry 35 = .ok (.iaload, 1) := by decide +kernel
theorem dX10_carry_36 : decode cX10_carry 36 = .ok (.if_icmp .ne 7, 3) := by decide +kernel
theorem dX10_carry_39 : decode cX10_carry 39 = .ok (.iconst 0, 1) := by decide +kernel
theorem dX10_carry_40 : decode cX10_carry 40 = .ok (.goto 4, 3) := by decide +kernel
theorem dX10_carry_43 : decode cX10_carry 43 = .ok (.iconst (-1), 1) := by decide +kernel
theorem dX10_carry_44 : decode cX10_carry 44 = .ok (.iastore, 1) := by decide +kernel
theorem dX10_carry_45 : decode cX10_carry 45 = .ok (.iinc 1 1, 3) := by decide +kernel
theorem dX10_carry_48 : decode cX10_carry 48 = .ok (.goto (-30), 3) := by decide +kernel
theorem dX10_carry_51 : decode cX10_carry 51 = .ok (.iconst 0, 1) := by decide +kernel
theorem dX10_carry_52 : decode cX10_carry 52 = .ok (.istore_n 1, 1) := by decide +kernel
theorem dX10_carry_53 : decode cX10_carry 53 = .ok (.iload_n 1, 1) := by decide +kernel
theorem dX10_carry_54 : decode cX10_carry 54 = .ok (.bipush 64, 2) := by decide +kernel
theorem dX10_carry_56 : decode cX10_carry 56 = .ok (.if_icmp .ge 87, 3) := by decide +kernel
theorem dX10_carry_59 : decode cX10_carry 59 = .ok (.iconst 1, 1) := by decide +kernel
theorem dX10_carry_60 : decode cX10_carry 60 = .ok (.istore_n 2, 1) := by decide +kernel
theorem dX10_carry_61 : decode cX10_carry 61 = .ok (.iload_n 2, 1) := by decide +kernel
theorem dX10_carry_62 : decode cX10_carry 62 = .ok (.aload_n 0, 1) := by decide +kernel
theorem dX10_carry_63 : decode cX10_carry 63 = .ok (.getfield 13, 3) := by decide +kernel
theorem dX10_carry_66 : decode cX10_carry 66 = .ok (.iconst 0, 1) := by decide +kernel
theorem dX10_carry_67 : decode cX10_carry 67 = .ok (.iaload, 1) := by decide +kernel
theorem dX10_carry_68 : decode cX10_carry 68 = .ok (.if_icmp .ge 69, 3) := by decide +kernel
theorem dX10_carry_71 : decode cX10_carry 71 = .ok (.bipush (-3), 2) := by decide +kernel
theorem dX10_carry_73 : decode cX10_carry 73 = .ok (.istore_n 3, 1) := by decide +kernel
theorem dX10_carry_74 : decode cX10_carry 74 = .ok (.iload_n 3, 1) := by decide +kernel
theorem dX10_carry_75 : decode cX10_carry 75 = .ok (.iconst 3, 1) := by decide +kernel
theorem dX10_carry_76 : decode cX10_carry 76 = .ok (.if_icmp .gt 55, 3) := by decide +kernel
theorem dX10_carry_79 : decode cX10_carry 79 = .ok (.aload_n 0, 1) := by decide +kernel
theorem dX10_carry_80 : decode cX10_carry 80 = .ok (.getfield 117, 3) := by decide +kernel
theorem dX10_carry_83 : decode cX10_carry 83 = .ok (.iload_n 2, 1) := by decide +kernel
theorem dX10_carry_84 : decode cX10_carry 84 = .ok (.iaload, 1) := by decide +kernel
theorem dX10_carry_85 : decode cX10_carry 85 = .ok (.iload_n 1, 1) := by decide +kernel
theorem dX10_carry_86 : decode cX10_carry 86 = .ok (.if_icmp .ne 45, 3) := by decide +kernel
theorem dX10_carry_89 : decode cX10_carry 89 = .ok (.iload_n 3, 1) := by decide +kernel
theorem dX10_carry_90 : decode cX10_carry 90 = .ok (.ifCond .eq 35, 3) := by decide +kernel
theorem dX10_carry_93 : decode cX10_carry 93 = .ok (.aload_n 0, 1) := by decide +kernel
theorem dX10_carry_94 : decode cX10_carry 94 = .ok (.iload_n 2, 1) := by decide +kernel
theorem dX10_carry_95 : decode cX10_carry 95 = .ok (.iload_n 3, 1) := by decide +kernel
theorem dX10_carry_96 : decode cX10_carry 96 = .ok (.invokevirtual 439, 3) := by decide +kernel
theorem dX10_carry_99 : decode cX10_carry 99 = .ok (.ifCond .eq 26, 3) := by decide +kernel
theorem dX10_carry_102 : decode cX10_carry 102 = .ok (.aload_n 0, 1) := by decide +kernel
theorem dX10_carry_103 : decode cX10_carry 103 = .ok (.getfield 117, 3) := by decide +kernel
theorem dX10_carry_106 : decode cX10_carry 106 = .ok (.iload_n 2, 1) := by decide +kernel
theorem dX10_carry_107 : decode cX10_carry 107 = .ok (.iload_n 3, 1) := by decide +kernel
theorem dX10_carry_108 : decode cX10_carry 108 = .ok (.iadd, 1) := by decide +kernel
theorem dX10_carry_109 : decode cX10_carry 109 = .ok (.iaload, 1) := by decide +kernel
theorem dX10_carry_110 : decode cX10_carry 110 = .ok (.iconst (-1), 1) := by decide +kernel
theorem dX10_carry_111 : decode cX10_carry 111 = .ok (.if_icmp .ne 14, 3) := by decide +kernel
theorem dX10_carry_114 : decode cX10_carry 114 = .ok (.aload_n 0, 1) := by decide +kernel
theorem dX10_carry_115 : decode cX10_carry 115 = .ok (.getfield 117, 3) := by decide +kernel
theorem dX10_carry_118 : decode cX10_carry 118 = .ok (.iload_n 2, 1) := by decide +kernel
theorem dX10_carry_119 : decode cX10_carry 119 = .ok (.iload_n 3, 1) := by decide +kernel
theorem dX10_carry_120 : decode cX10_carry 120 = .ok (.iadd, 1) := by decide +kernel
theorem dX10_carry_121 : decode cX10_carry 121 = .ok (.iload_n 1, 1) := by decide +kernel
theorem dX10_carry_122 : decode cX10_carry 122 = .ok (.iconst 1, 1) := by decide +kernel
theorem dX10_carry_123 : decode cX10_carry 123 = .ok (.iadd, 1) := by decide +kernel
theorem dX10_carry_124 : decode cX10_carry 124 = .ok (.iastore, 1) := by decide +kernel
theorem dX10_carry_125 : decode cX10_carry 125 = .ok (.iinc 3 1, 3) := by decide +kernel
theorem dX10_carry_128 : decode cX10_carry 128 = .ok (.goto (-54), 3) := by decide +kernel
theorem dX10_carry_131 : decode cX10_carry 131 = .ok (.iinc 2 1, 3) := by decide +kernel
theorem dX10_carry_134 : decode cX10_carry 134 = .ok (.goto (-73), 3) := by decide +kernel
theorem dX10_carry_137 : decode cX10_carry 137 = .ok (.iinc 1 1, 3) := by decide +kernel
theorem dX10_carry_140 : decode cX10_carry 140 = .ok (.goto (-87), 3) := by decide +kernel
theorem dX10_carry_143 : decode cX10_carry 143 = .ok (.aload_n 0, 1) := by decide +kernel
theorem dX10_carry_144 : decode cX10_carry 144 = .ok (.getfield 117, 3) := by decide +kernel
theorem dX10_carry_147 : decode cX10_carry 147 = .ok (.aload_n 0, 1) := by decide +kernel
theorem dX10_carry_148 : decode cX10_carry 148 = .ok (.getfield 13, 3) := by decide +kernel
theorem dX10_carry_151 : decode cX10_carry 151 = .ok (.iconst 0, 1) := by decide +kernel
theorem dX10_carry_152 : decode cX10_carry 152 = .ok (.iaload, 1) := by decide +kernel
theorem dX10_carry_153 : decode cX10_carry 153 = .ok (.iconst 1, 1) := by decide +kernel
theorem dX10_carry_154 : decode cX10_carry 154 = .ok (.isub, 1) := by decide +kernel
theorem dX10_carry_155 : decode cX10_carry 155 = .ok (.iaload, 1) := by decide +kernel
theorem dX10_carry_156 : decode cX10_carry 156 = .ok (.istore_n 1, 1) := by decide +kernel
theorem dX10_carry_157 : decode cX10_carry 157 = .ok (.iload_n 1, 1) := by decide +kernel
theorem dX10_carry_158 : decode cX10_carry 158 = .ok (.iconst (-1), 1) := by decide +kernel
theorem dX10_carry_159 : decode cX10_carry 159 = .ok (.if_icmp .ne 8, 3) := by decide +kernel
theorem dX10_carry_162 : decode cX10_carry 162 = .ok (.bipush (-2), 2) := by decide +kernel
theorem dX10_carry_164 : decode cX10_carry 164 = .ok (.goto 4, 3) := by decide +kernel
theorem dX10_carry_167 : decode cX10_carry 167 = .ok (.iload_n 1, 1) := by decide +kernel
theorem dX10_carry_168 : decode cX10_carry 168 = .ok (.ireturn, 1) := by decide +kernel
theorem hd_X10_carry : yX10_carry.cls = xCn 10 ∧ yX10_carry.cls ≠ "java/lang/invoke/MethodHandle" ∧ yX10_carry.cls ≠ "java/lang/invoke/VarHandle" ∧ (parseMethodDescriptor yX10_carry.desc).map (fun d => d.parameters.length) = some 0 := by decide +kernel
def k_X10_carry_168 (sh : List xSh) (y0 : Int32) (d : xD) : Option (Int32 × xD) :=
  some (y0, d)
def k_X10_carry_143 (sh : List xSh) (q0 : Nat) (d : xD) : Option (Int32 × xD) :=
  (xgR 10 sh d q0 56).bind fun v1 => (xgR 10 sh d q0 3).bind fun v2 => (xaI .int sh d v2 (0 : Int32)).bind fun v3 => (xaI .int sh d v1 (v3 - (1 : Int32))).bind fun v4 => if v4 = (-1 : Int32) then (k_X10_carry_168 sh (-2 : Int32) d) else (k_X10_carry_168 sh v4 d)
def k_X10_carry_137 (sh : List xSh) (rec53 : Nat → Int32 → xD → Option (Int32 × xD)) (q0 : Nat) (x1 : Int32) (d : xD) : Option (Int32 × xD) :=
  rec53 q0 (x1 + 1) d
def k_X10_carry_131 (sh : List xSh) (rec53 : Nat → Int32 → xD → Option (Int32 × xD)) (rec61 : Nat → Int32 → Int32 → xD → Option (Int32 × xD)) (q0 : Nat) (x1 : Int32) (x2 : Int32) (d : xD) : Option (Int32 × xD) :=
  rec61 q0 x1 (x2 + 1) d
def k_X10_carry_125 (sh : List xSh) (rec53 : Nat → Int32 → xD → Option (Int32 × xD)) (rec61 : Nat → Int32 → Int32 → xD → Option (Int32 × xD)) (rec74 : Nat → Int32 → Int32 → Int32 → xD → Option (Int32 × xD)) (q0 : Nat) (x1 : Int32) (x2 : Int32) (x3 : Int32) (d : xD) : Option (Int32 × xD) :=
  rec74 q0 x1 x2 (x3 + 1) d
def b_X10_carry_74 (sh : List xSh) (rec53 : Nat → Int32 → xD → Option (Int32 × xD)) (rec61 : Nat → Int32 → Int32 → xD → Option (Int32 × xD)) (rec74 : Nat → Int32 → Int32 → Int32 → xD → Option (Int32 × xD)) (q0 : Nat) (x1 : Int32) (x2 : Int32) (x3 : Int32) (d : xD) : Option (Int32 × xD) :=
  if (3 : Int32) < x3 then (k_X10_carry_131 sh rec53 rec61 q0 x1 x2 d) else ((xgR 10 sh d q0 56).bind fun v5 => (xaI .int sh d v5 x2).bind fun v6 => if v6 = x1 then (if x3 = 0 then (k_X10_carry_125 sh rec53 rec61 rec74 q0 x1 x2 x3 d) else ((xon 10 sh q0 (f_X10_canPush sh q0 x2 x3 d)).bind fun z7 => if z7.1 = 0 then (k_X10_carry_125 sh rec53 rec61 rec74 q0 x1 x2 x3 z7.2) else ((xgR 10 sh z7.2 q0 56).bind fun v8 => (xaI .int sh z7.2 v8 (x2 + x3)).bind fun v9 => if v9 = (-1 : Int32) then ((xgR 10 sh z7.2 q0 56).bind fun v10 => (xsI .int sh z7.2 v10 (x2 + x3) (x1 + (1 : Int32))).bind fun d11 => k_X10_carry_125 sh rec53 rec61 rec74 q0 x1 x2 x3 d11) else (k_X10_carry_125 sh rec53 rec61 rec74 q0 x1 x2 x3 z7.2)))) else (k_X10_carry_131 sh rec53 rec61 q0 x1 x2 d))
def b_X10_carry_61 (sh : List xSh) (rec53 : Nat → Int32 → xD → Option (Int32 × xD)) (rec61 : Nat → Int32 → Int32 → xD → Option (Int32 × xD)) (q0 : Nat) (x1 : Int32) (x2 : Int32) (d : xD) : Option (Int32 × xD) :=
  (xgR 10 sh d q0 3).bind fun v12 => (xaI .int sh d v12 (0 : Int32)).bind fun v13 => if v13 ≤ x2 then (k_X10_carry_137 sh rec53 q0 x1 d) else (xloop (fun _ _ _ _ _ => none) (b_X10_carry_74 sh rec53 rec61) xF q0 x1 x2 (-3 : Int32) d)
def b_X10_carry_53 (sh : List xSh) (rec53 : Nat → Int32 → xD → Option (Int32 × xD)) (q0 : Nat) (x1 : Int32) (d : xD) : Option (Int32 × xD) :=
  if (64 : Int32) ≤ x1 then (k_X10_carry_143 sh q0 d) else (xloop (fun _ _ _ _ => none) (b_X10_carry_61 sh rec53) xF q0 x1 (1 : Int32) d)
def k_X10_carry_51 (sh : List xSh) (q0 : Nat) (d : xD) : Option (Int32 × xD) :=
  xloop (fun _ _ _ => none) (b_X10_carry_53 sh) xF q0 (0 : Int32) d
def k_X10_carry_44 (sh : List xSh) (rec18 : Nat → Int32 → xD → Option (Int32 × xD)) (q0 : Nat) (x1 : Int32) (p0 : Nat) (y1 : Int32) (y2 : Int32) (d : xD) : Option (Int32 × xD) :=
  (xsI .int sh d p0 y1 y2).bind fun d14 => rec18 q0 (x1 + 1) d14
def b_X10_carry_18 (sh : List xSh) (rec18 : Nat → Int32 → xD → Option (Int32 × xD)) (q0 : Nat) (x1 : Int32) (d : xD) : Option (Int32 × xD) :=
  if (64 : Int32) ≤ x1 then (k_X10_carry_51 sh q0 d) else ((xgR 10 sh d q0 56).bind fun v15 => (xgR 10 sh d q0 38).bind fun v16 => (xaI .int sh d v16 (0 : Int32)).bind fun v17 => if x1 = v17 then (k_X10_carry_44 sh rec18 q0 x1 v15 x1 (0 : Int32) d) else (k_X10_carry_44 sh rec18 q0 x1 v15 x1 (-1 : Int32) d))
def f_X10_carry (sh : List xSh) (q0 : Nat) (d : xD) : Option (Int32 × xD) :=
  (xpI 10 sh d q0 0 (0 : Int32)).bind fun d18 => (xgR 10 sh d18 q0 38).bind fun v19 => (xaI .int sh d18 v19 (0 : Int32)).bind fun v20 => if v20 = 0 then (some ((-1 : Int32), d18)) else (xloop (fun _ _ _ => none) (b_X10_carry_18 sh) xF q0 (0 : Int32) d18)
set_option maxHeartbeats 4000000 in
set_option maxRecDepth 100000 in
theorem mt_X10_carry (l : Launch) (D : va_G) (cid : FieldType → ClassId) (b : Nat) (ex : Bool) (sa sv B0 : Nat) (sh : List xSh) (q0 : Nat) (d : xD) (r : Int32) (dz : xD) (hf : f_X10_carry sh q0 d = some (r, dz)) : xMet l yX10_carry cX10_carry 4 (some .int) 3 0 0 D cid b ex sa sv B0 [.ref (b + q0)] sh d (some (.int r)) sh dz := by
  refine xMet.of (by decide) (Nat.le_of_ble_eq_true rfl) ?_
  intro p e s m below meth c ls A S hr hin G hl
  have hl : lv_has ls 4 [(0, .ref (b + q0))] := hl
  generalize ([.ref (b + q0)] : List Value).toArray = av at S ⊢
  have hx := S.1
  have hb := S.2.1
  have hml := S.2.2.1
  have hown := S.2.2.2.1
  have hts := S.2.2.2.2.1
  have K168 : ∀ (y0 : Int32) (d : xD), k_X10_carry_168 sh y0 d = some (r, dz) → ∀ (H : Heap) (locs : List Loc) (ls : Array Slot), lv_has ls 4 [] → xG D cid b A sh d s H locs → W p l e (xRm 3 0 0) s m av below meth c H locs 0 0 (MQ below (xQ D cid b ex A (some (.int r)) sh dz) av s 0 0 A) (F0 m 168 ls [.int y0]) := by
    intro y0 d hf H locs ls hl G
    unfold k_X10_carry_168 at hf
    cases hf
    exact xr_iret S G (fun _ => rfl) hr dX10_carry_168
  have K143 : ∀ (q0 : Nat) (d : xD), k_X10_carry_143 sh q0 d = some (r, dz) → ∀ (H : Heap) (locs : List Loc) (ls : Array Slot), lv_has ls 4 [(0, .ref (b + q0))] → xG D cid b A sh d s H locs → W p l e (xRm 3 0 0) s m av below meth c H locs 0 0 (MQ below (xQ D cid b ex A (some (.int r)) sh dz) av s 0 0 A) (F0 m 143 ls []) := by
    intro q0 d hf H locs ls hl G
    unfold k_X10_carry_143 at hf
    refine lv_aload_n hx hb dX10_carry_143 rfl (lv_at hl 0 rfl) ?_
    obtain ⟨v1, hv1, hf⟩ := x_ob hf
    refine xr_getR (ci := 10) (k := 56) S G hv1 rfl kw_1224 dX10_carry_144 ?_
    refine lv_aload_n hx hb dX10_carry_147 rfl (lv_at hl 0 rfl) ?_
    obtain ⟨v2, hv2, hf⟩ := x_ob hf
    refine xr_getR (ci := 10) (k := 3) S G hv2 rfl kw_1171 dX10_carry_148 ?_
    refine lv_iconst (v := (0 : Int32)) hx hb dX10_carry_151 (by decide) ?_
    obtain ⟨v3, hv3, hf⟩ := x_ob hf
    refine xr_iald S G hv3 dX10_carry_152 ?_
    refine lv_iconst (v := (1 : Int32)) hx hb dX10_carry_153 (by decide) ?_
    refine lv_isub hx hb dX10_carry_154 ?_
    obtain ⟨v4, hv4, hf⟩ := x_ob hf
    refine xr_iald S G hv4 dX10_carry_155 ?_
    refine lv_istore_n (lv' := [(1, .int v4), (0, .ref (b + q0))]) hx hb dX10_carry_156 rfl hl (by decide) rfl (fun ls hl => ?_)
    refine lv_iload_n hx hb dX10_carry_157 rfl (lv_at hl 0 rfl) ?_
    refine lv_iconst (v := (-1 : Int32)) hx hb dX10_carry_158 (by decide) ?_
    refine lv_icmp_ne (tgt := 167) hx hb dX10_carry_159 (by decide) (fun c => ?_) (fun c => ?_)
    · have hf := x_neg c hf
      refine lv_iload_n hx hb dX10_carry_167 rfl (lv_at hl 0 rfl) ?_
      exact K168 v4 d hf _ _ ls (lv_sub hl [] rfl) G
    · have hf := x_pos c hf
      refine lv_bipush (v := (-2 : Int32)) hx hb dX10_carry_162 (by decide) ?_
      refine lv_goto (tgt := 168) hx hb dX10_carry_164 (by decide) ?_
      exact K168 (-2 : Int32) d hf _ _ ls (lv_sub hl [] rfl) G
  have K137 : ∀ (rec53 : Nat → Int32 → xD → Option (Int32 × xD)) (hrec53 : ∀ (q0 : Nat) (x1 : Int32) (d : xD), rec53 q0 x1 d = some (r, dz) → ∀ (H : Heap) (locs : List Loc) (ls : Array Slot), lv_has ls 4 [(0, .ref (b + q0)), (1, .int x1)] → xG D cid b A sh d s H locs → W p l e (xRm 3 0 0) s m av below meth c H locs 0 0 (MQ below (xQ D cid b ex A (some (.int r)) sh dz) av s 0 0 A) (F0 m 53 ls [])) (q0 : Nat) (x1 : Int32) (d : xD), k_X10_carry_137 sh rec53 q0 x1 d = some (r, dz) → ∀ (H : Heap) (locs : List Loc) (ls : Array Slot), lv_has ls 4 [(0, .ref (b + q0)), (1, .int x1)] → xG D cid b A sh d s H locs → W p l e (xRm 3 0 0) s m av below meth c H locs 0 0 (MQ below (xQ D cid b ex A (some (.int r)) sh dz) av s 0 0 A) (F0 m 137 ls []) := by
    intro rec53 hrec53 q0 x1 d hf H locs ls hl G
    unfold k_X10_carry_137 at hf
    refine lv_iinc (v := (x1 + 1)) (lv' := [(1, .int (x1 + 1)), (0, .ref (b + q0))]) hx hb dX10_carry_137 hl (k := 1) rfl rfl (by decide) rfl (fun ls hl => ?_)
    refine lv_goto (tgt := 53) hx hb dX10_carry_140 (by decide) ?_
    exact hrec53 q0 (x1 + 1) d hf _ _ ls (lv_sub hl [1, 0] rfl) G
  have K131 : ∀ (rec53 : Nat → Int32 → xD → Option (Int32 × xD)) (hrec53 : ∀ (q0 : Nat) (x1 : Int32) (d : xD), rec53 q0 x1 d = some (r, dz) → ∀ (H : Heap) (locs : List Loc) (ls : Array Slot), lv_has ls 4 [(0, .ref (b + q0)), (1, .int x1)] → xG D cid b A sh d s H locs → W p l e (xRm 3 0 0) s m av below meth c H locs 0 0 (MQ below (xQ D cid b ex A (some (.int r)) sh dz) av s 0 0 A) (F0 m 53 ls [])) (rec61 : Nat → Int32 → Int32 → xD → Option (Int32 × xD)) (hrec61 : ∀ (q0 : Nat) (x1 : Int32) (x2 : Int32) (d : xD), rec61 q0 x1 x2 d = some (r, dz) → ∀ (H : Heap) (locs : List Loc) (ls : Array Slot), lv_has ls 4 [(0, .ref (b + q0)), (1, .int x1), (2, .int x2)] → xG D cid b A sh d s H locs → W p l e (xRm 3 0 0) s m av below meth c H locs 0 0 (MQ below (xQ D cid b ex A (some (.int r)) sh dz) av s 0 0 A) (F0 m 61 ls [])) (q0 : Nat) (x1 : Int32) (x2 : Int32) (d : xD), k_X10_carry_131 sh rec53 rec61 q0 x1 x2 d = some (r, dz) → ∀ (H : Heap) (locs : List Loc) (ls : Array Slot), lv_has ls 4 [(0, .ref (b + q0)), (1, .int x1), (2, .int x2)] → xG D cid b A sh d s H locs → W p l e (xRm 3 0 0) s m av below meth c H locs 0 0 (MQ below (xQ D cid b ex A (some (.int r)) sh dz) av s 0 0 A) (F0 m 131 ls []) := by
    intro rec53 hrec53 rec61 hrec61 q0 x1 x2 d hf H locs ls hl G
    unfold k_X10_carry_131 at hf
    refine lv_iinc (v := (x2 + 1)) (lv' := [(2, .int (x2 + 1)), (0, .ref (b + q0)), (1, .int x1)]) hx hb dX10_carry_131 hl (k := 2) rfl rfl (by decide) rfl (fun ls hl => ?_)
    refine lv_goto (tgt := 61) hx hb dX10_carry_134 (by decide) ?_
    exact hrec61 q0 x1 (x2 + 1) d hf _ _ ls (lv_sub hl [1, 2, 0] rfl) G
  have K125 : ∀ (rec53 : Nat → Int32 → xD → Option (Int32 × xD)) (hrec53 : ∀ (q0 : Nat) (x1 : Int32) (d : xD), rec53 q0 x1 d = some (r, dz) → ∀ (H : Heap) (locs : List Loc) (ls : Array Slot), lv_has ls 4 [(0, .ref (b + q0)), (1, .int x1)] → xG D cid b A sh d s H locs → W p l e (xRm 3 0 0) s m av below meth c H locs 0 0 (MQ below (xQ D cid b ex A (some (.int r)) sh dz) av s 0 0 A) (F0 m 53 ls [])) (rec61 : Nat → Int32 → Int32 → xD → Option (Int32 × xD)) (hrec61 : ∀ (q0 : Nat) (x1 : Int32) (x2 : Int32) (d : xD), rec61 q0 x1 x2 d = some (r, dz) → ∀ (H : Heap) (locs : List Loc) (ls : Array Slot), lv_has ls 4 [(0, .ref (b + q0)), (1, .int x1), (2, .int x2)] → xG D cid b A sh d s H locs → W p l e (xRm 3 0 0) s m av below meth c H locs 0 0 (MQ below (xQ D cid b ex A (some (.int r)) sh dz) av s 0 0 A) (F0 m 61 ls [])) (rec74 : Nat → Int32 → Int32 → Int32 → xD → Option (Int32 × xD)) (hrec74 : ∀ (q0 : Nat) (x1 : Int32) (x2 : Int32) (x3 : Int32) (d : xD), rec74 q0 x1 x2 x3 d = some (r, dz) → ∀ (H : Heap) (locs : List Loc) (ls : Array Slot), lv_has ls 4 [(0, .ref (b + q0)), (1, .int x1), (2, .int x2), (3, .int x3)] → xG D cid b A sh d s H locs → W p l e (xRm 3 0 0) s m av below meth c H locs 0 0 (MQ below (xQ D cid b ex A (some (.int r)) sh dz) av s 0 0 A) (F0 m 74 ls [])) (q0 : Nat) (x1 : Int32) (x2 : Int32) (x3 : Int32) (d : xD), k_X10_carry_125 sh rec53 rec61 rec74 q0 x1 x2 x3 d = some (r, dz) → ∀ (H : Heap) (locs : List Loc) (ls : Array Slot), lv_has ls 4 [(0, .ref (b + q0)), (1, .int x1), (2, .int x2), (3, .int x3)] → xG D cid b A sh d s H locs → W p l e (xRm 3 0 0) s m av below meth c H locs 0 0 (MQ below (xQ D cid b ex A (some (.int r)) sh dz) av s 0 0 A) (F0 m 125 ls []) := by
    intro rec53 hrec53 rec61 hrec61 rec74 hrec74 q0 x1 x2 x3 d hf H locs ls hl G
    unfold k_X10_carry_125 at hf
    refine lv_iinc (v := (x3 + 1)) (lv' := [(3, .int (x3 + 1)), (0, .ref (b + q0)), (1, .int x1), (2, .int x2)]) hx hb dX10_carry_125 hl (k := 3) rfl rfl (by decide) rfl (fun ls hl => ?_)
    refine lv_goto (tgt := 74) hx hb dX10_carry_128 (by decide) ?_
    exact hrec74 q0 x1 x2 (x3 + 1) d hf _ _ ls (lv_sub hl [1, 2, 3, 0] rfl) G
  have K74 : ∀ (rec53 : Nat → Int32 → xD → Option (Int32 × xD)) (hrec53 : ∀ (q0 : Nat) (x1 : Int32) (d : xD), rec53 q0 x1 d = some (r, dz) → ∀ (H : Heap) (locs : List Loc) (ls : Array Slot), lv_has ls 4 [(0, .ref (b + q0)), (1, .int x1)] → xG D cid b A sh d s H locs → W p l e (xRm 3 0 0) s m av below meth c H locs 0 0 (MQ below (xQ D cid b ex A (some (.int r)) sh dz) av s 0 0 A) (F0 m 53 ls [])) (rec61 : Nat → Int32 → Int32 → xD → Option (Int32 × xD)) (hrec61 : ∀ (q0 : Nat) (x1 : Int32) (x2 : Int32) (d : xD), rec61 q0 x1 x2 d = some (r, dz) → ∀ (H : Heap) (locs : List Loc) (ls : Array Slot), lv_has ls 4 [(0, .ref (b + q0)), (1, .int x1), (2, .int x2)] → xG D cid b A sh d s H locs → W p l e (xRm 3 0 0) s m av below meth c H locs 0 0 (MQ below (xQ D cid b ex A (some (.int r)) sh dz) av s 0 0 A) (F0 m 61 ls [])) (n : Nat) (q0 : Nat) (x1 : Int32) (x2 : Int32) (x3 : Int32) (d : xD), xloop (fun _ _ _ _ _ => none) (b_X10_carry_74 sh rec53 rec61) n q0 x1 x2 x3 d = some (r, dz) → ∀ (H : Heap) (locs : List Loc) (ls : Array Slot), lv_has ls 4 [(0, .ref (b + q0)), (1, .int x1), (2, .int x2), (3, .int x3)] → xG D cid b A sh d s H locs → W p l e (xRm 3 0 0) s m av below meth c H locs 0 0 (MQ below (xQ D cid b ex A (some (.int r)) sh dz) av s 0 0 A) (F0 m 74 ls []) := by
    intro rec53 hrec53 rec61 hrec61 n
    induction n with
    | zero =>
      intro q0 x1 x2 x3 d hf
      have hf : (none : Option (Int32 × xD)) = some (r, dz) := hf
      cases hf
    | succ n hrec74 =>
      intro q0 x1 x2 x3 d hf H locs ls hl G
      have hf : b_X10_carry_74 sh rec53 rec61 (xloop (fun _ _ _ _ _ => none) (b_X10_carry_74 sh rec53 rec61) n) q0 x1 x2 x3 d = some (r, dz) := hf
      unfold b_X10_carry_74 at hf
      refine lv_iload_n hx hb dX10_carry_74 rfl (lv_at hl 3 rfl) ?_
      refine lv_iconst (v := (3 : Int32)) hx hb dX10_carry_75 (by decide) ?_
      refine lv_icmp_gt (tgt := 131) hx hb dX10_carry_76 (by decide) (fun c => ?_) (fun c => ?_)
      · have hf := x_pos c hf
        exact K131 _ hrec53 _ hrec61 q0 x1 x2 d hf _ _ ls (lv_sub hl [0, 1, 2] rfl) G
      · have hf := x_neg c hf
        refine lv_aload_n hx hb dX10_carry_79 rfl (lv_at hl 0 rfl) ?_
        obtain ⟨v5, hv5, hf⟩ := x_ob hf
        refine xr_getR (ci := 10) (k := 56) S G hv5 rfl kw_1224 dX10_carry_80 ?_
        refine lv_iload_n hx hb dX10_carry_83 rfl (lv_at hl 2 rfl) ?_
        obtain ⟨v6, hv6, hf⟩ := x_ob hf
        refine xr_iald S G hv6 dX10_carry_84 ?_
        refine lv_iload_n hx hb dX10_carry_85 rfl (lv_at hl 1 rfl) ?_
        refine lv_icmp_ne (tgt := 131) hx hb dX10_carry_86 (by decide) (fun c => ?_) (fun c => ?_)
        · have hf := x_neg c hf
          exact K131 _ hrec53 _ hrec61 q0 x1 x2 d hf _ _ ls (lv_sub hl [0, 1, 2] rfl) G
        · have hf := x_pos c hf
          refine lv_iload_n hx hb dX10_carry_89 rfl (lv_at hl 3 rfl) ?_
          refine lv_if_eq (tgt := 125) hx hb dX10_carry_90 (by decide) (fun c => ?_) (fun c => ?_)
          · have hf := x_pos c hf
            exact K125 _ hrec53 _ hrec61 _ hrec74 q0 x1 x2 x3 d hf _ _ ls (lv_sub hl [0, 1, 2, 3] rfl) G
          · have hf := x_neg c hf
            refine lv_aload_n hx hb dX10_carry_93 rfl (lv_at hl 0 rfl) ?_
            refine lv_iload_n hx hb dX10_carry_94 rfl (lv_at hl 2 rfl) ?_
            refine lv_iload_n hx hb dX10_carry_95 rfl (lv_at hl 3 rfl) ?_
            obtain ⟨z7, hz7, hf⟩ := x_ob hf
            obtain ⟨hqz7, hz7⟩ := xon_of hz7
            refine xr_callV (ci := 10) (As := [.int x2, .int x3]) (rest := []) (st1 := [.int z7.1]) S G hl.1 (fun _ => rfl) (mt_X10_canPush l D cid b ex sa sv B0 sh q0 x2 x3 d _ _ hz7) hqz7 (by decide) kw_1600 kw_1602 ks_76 kw_17 kw_1603 hd_X10_canPush ⟨Nat.le_of_ble_eq_true rfl, Nat.le_of_ble_eq_true rfl⟩ rfl rfl rfl (Nat.le_of_ble_eq_true rfl) ⟨Nat.le_of_ble_eq_true rfl, Nat.le_of_ble_eq_true rfl⟩ dX10_carry_96 (fun H locs G => ?_)
            refine lv_if_eq (tgt := 125) hx hb dX10_carry_99 (by decide) (fun c => ?_) (fun c => ?_)
            · have hf := x_pos c hf
              exact K125 _ hrec53 _ hrec61 _ hrec74 q0 x1 x2 x3 z7.2 hf _ _ ls (lv_sub hl [0, 1, 2, 3] rfl) G
            · have hf := x_neg c hf
              refine lv_aload_n hx hb dX10_carry_102 rfl (lv_at hl 0 rfl) ?_
              obtain ⟨v8, hv8, hf⟩ := x_ob hf
              refine xr_getR (ci := 10) (k := 56) S G hv8 rfl kw_1224 dX10_carry_103 ?_
              refine lv_iload_n hx hb dX10_carry_106 rfl (lv_at hl 2 rfl) ?_
              refine lv_iload_n hx hb dX10_carry_107 rfl (lv_at hl 3 rfl) ?_
              refine lv_iadd hx hb dX10_carry_108 ?_
              obtain ⟨v9, hv9, hf⟩ := x_ob hf
              refine xr_iald S G hv9 dX10_carry_109 ?_
              refine lv_iconst (v := (-1 : Int32)) hx hb dX10_carry_110 (by decide) ?_
              refine lv_icmp_ne (tgt := 125) hx hb dX10_carry_111 (by decide) (fun c => ?_) (fun c => ?_)
              · have hf := x_neg c hf
                exact K125 _ hrec53 _ hrec61 _ hrec74 q0 x1 x2 x3 z7.2 hf _ _ ls (lv_sub hl [0, 1, 2, 3] rfl) G
              · have hf := x_pos c hf
                refine lv_aload_n hx hb dX10_carry_114 rfl (lv_at hl 0 rfl) ?_
                obtain ⟨v10, hv10, hf⟩ := x_ob hf
                refine xr_getR (ci := 10) (k := 56) S G hv10 rfl kw_1224 dX10_carry_115 ?_
                refine lv_iload_n hx hb dX10_carry_118 rfl (lv_at hl 2 rfl) ?_
                refine lv_iload_n hx hb dX10_carry_119 rfl (lv_at hl 3 rfl) ?_
                refine lv_iadd hx hb dX10_carry_120 ?_
                refine lv_iload_n hx hb dX10_carry_121 rfl (lv_at hl 1 rfl) ?_
                refine lv_iconst (v := (1 : Int32)) hx hb dX10_carry_122 (by decide) ?_
                refine lv_iadd hx hb dX10_carry_123 ?_
                obtain ⟨d11, hd11, hf⟩ := x_ob hf
                refine xr_iast S G hd11 dX10_carry_124 (fun H locs G => ?_)
                exact K125 _ hrec53 _ hrec61 _ hrec74 q0 x1 x2 x3 d11 hf _ _ ls (lv_sub hl [0, 1, 2, 3] rfl) G
  have K61 : ∀ (rec53 : Nat → Int32 → xD → Option (Int32 × xD)) (hrec53 : ∀ (q0 : Nat) (x1 : Int32) (d : xD), rec53 q0 x1 d = some (r, dz) → ∀ (H : Heap) (locs : List Loc) (ls : Array Slot), lv_has ls 4 [(0, .ref (b + q0)), (1, .int x1)] → xG D cid b A sh d s H locs → W p l e (xRm 3 0 0) s m av below meth c H locs 0 0 (MQ below (xQ D cid b ex A (some (.int r)) sh dz) av s 0 0 A) (F0 m 53 ls [])) (n : Nat) (q0 : Nat) (x1 : Int32) (x2 : Int32) (d : xD), xloop (fun _ _ _ _ => none) (b_X10_carry_61 sh rec53) n q0 x1 x2 d = some (r, dz) → ∀ (H : Heap) (locs : List Loc) (ls : Array Slot), lv_has ls 4 [(0, .ref (b + q0)), (1, .int x1), (2, .int x2)] → xG D cid b A sh d s H locs → W p l e (xRm 3 0 0) s m av below meth c H locs 0 0 (MQ below (xQ D cid b ex A (some (.int r)) sh dz) av s 0 0 A) (F0 m 61 ls []) := by
    intro rec53 hrec53 n
    induction n with
    | zero =>
      intro q0 x1 x2 d hf
      have hf : (none : Option (Int32 × xD)) = some (r, dz) := hf
      cases hf
    | succ n hrec61 =>
      intro q0 x1 x2 d hf H locs ls hl G
      have hf : b_X10_carry_61 sh rec53 (xloop (fun _ _ _ _ => none) (b_X10_carry_61 sh rec53) n) q0 x1 x2 d = some (r, dz) := hf
      unfold b_X10_carry_61 at hf
      refine lv_iload_n hx hb dX10_carry_61 rfl (lv_at hl 2 rfl) ?_
      refine lv_aload_n hx hb dX10_carry_62 rfl (lv_at hl 0 rfl) ?_
      obtain ⟨v12, hv12, hf⟩ := x_ob hf
      refine xr_getR (ci := 10) (k := 3) S G hv12 rfl kw_1171 dX10_carry_63 ?_
      refine lv_iconst (v := (0 : Int32)) hx hb dX10_carry_66 (by decide) ?_
      obtain ⟨v13, hv13, hf⟩ := x_ob hf
      refine xr_iald S G hv13 dX10_carry_67 ?_
      refine lv_icmp_ge (tgt := 137) hx hb dX10_carry_68 (by decide) (fun c => ?_) (fun c => ?_)
      · have hf := x_pos c hf
        exact K137 _ hrec53 q0 x1 d hf _ _ ls (lv_sub hl [0, 1] rfl) G
      · have hf := x_neg c hf
        refine lv_bipush (v := (-3 : Int32)) hx hb dX10_carry_71 (by decide) ?_
        refine lv_istore_n (lv' := [(3, .int (-3 : Int32)), (0, .ref (b + q0)), (1, .int x1), (2, .int x2)]) hx hb dX10_carry_73 rfl hl (by decide) rfl (fun ls hl => ?_)
        exact K74 _ hrec53 _ hrec61 xF q0 x1 x2 (-3 : Int32) d hf _ _ ls (lv_sub hl [1, 2, 3, 0] rfl) G
  have K53 : ∀ (n : Nat) (q0 : Nat) (x1 : Int32) (d : xD), xloop (fun _ _ _ => none) (b_X10_carry_53 sh) n q0 x1 d = some (r, dz) → ∀ (H : Heap) (locs : List Loc) (ls : Array Slot), lv_has ls 4 [(0, .ref (b + q0)), (1, .int x1)] → xG D cid b A sh d s H locs → W p l e (xRm 3 0 0) s m av below meth c H locs 0 0 (MQ below (xQ D cid b ex A (some (.int r)) sh dz) av s 0 0 A) (F0 m 53 ls []) := by
    intro n
    induction n with
    | zero =>
      intro q0 x1 d hf
      have hf : (none : Option (Int32 × xD)) = some (r, dz) := hf
      cases hf
    | succ n hrec53 =>
      intro q0 x1 d hf H locs ls hl G
      have hf : b_X10_carry_53 sh (xloop (fun _ _ _ => none) (b_X10_carry_53 sh) n) q0 x1 d = some (r, dz) := hf
      unfold b_X10_carry_53 at hf
      refine lv_iload_n hx hb dX10_carry_53 rfl (lv_at hl 1 rfl) ?_
      refine lv_bipush (v := (64 : Int32)) hx hb dX10_carry_54 (by decide) ?_
      refine lv_icmp_ge (tgt := 143) hx hb dX10_carry_56 (by decide) (fun c => ?_) (fun c => ?_)
      · have hf := x_pos c hf
        exact K143 q0 d hf _ _ ls (lv_sub hl [0] rfl) G
      · have hf := x_neg c hf
        refine lv_iconst (v := (1 : Int32)) hx hb dX10_carry_59 (by decide) ?_
        refine lv_istore_n (lv' := [(2, .int (1 : Int32)), (0, .ref (b + q0)), (1, .int x1)]) hx hb dX10_carry_60 rfl hl (by decide) rfl (fun ls hl => ?_)
        exact K61 _ hrec53 xF q0 x1 (1 : Int32) d hf _ _ ls (lv_sub hl [1, 2, 0] rfl) G
  have K51 : ∀ (q0 : Nat) (d : xD), k_X10_carry_51 sh q0 d = some (r, dz) → ∀ (H : Heap) (locs : List Loc) (ls : Array Slot), lv_has ls 4 [(0, .ref (b + q0))] → xG D cid b A sh d s H locs → W p l e (xRm 3 0 0) s m av below meth c H locs 0 0 (MQ below (xQ D cid b ex A (some (.int r)) sh dz) av s 0 0 A) (F0 m 51 ls []) := by
    intro q0 d hf H locs ls hl G
    unfold k_X10_carry_51 at hf
    refine lv_iconst (v := (0 : Int32)) hx hb dX10_carry_51 (by decide) ?_
    refine lv_istore_n (lv' := [(1, .int (0 : Int32)), (0, .ref (b + q0))]) hx hb dX10_carry_52 rfl hl (by decide) rfl (fun ls hl => ?_)
    exact K53 xF q0 (0 : Int32) d hf _ _ ls (lv_sub hl [1, 0] rfl) G
  have K44 : ∀ (rec18 : Nat → Int32 → xD → Option (Int32 × xD)) (hrec18 : ∀ (q0 : Nat) (x1 : Int32) (d : xD), rec18 q0 x1 d = some (r, dz) → ∀ (H : Heap) (locs : List Loc) (ls : Array Slot), lv_has ls 4 [(0, .ref (b + q0)), (1, .int x1)] → xG D cid b A sh d s H locs → W p l e (xRm 3 0 0) s m av below meth c H locs 0 0 (MQ below (xQ D cid b ex A (some (.int r)) sh dz) av s 0 0 A) (F0 m 18 ls [])) (q0 : Nat) (x1 : Int32) (p0 : Nat) (y1 : Int32) (y2 : Int32) (d : xD), k_X10_carry_44 sh rec18 q0 x1 p0 y1 y2 d = some (r, dz) → ∀ (H : Heap) (locs : List Loc) (ls : Array Slot), lv_has ls 4 [(0, .ref (b + q0)), (1, .int x1)] → xG D cid b A sh d s H locs → W p l e (xRm 3 0 0) s m av below meth c H locs 0 0 (MQ below (xQ D cid b ex A (some (.int r)) sh dz) av s 0 0 A) (F0 m 44 ls [.int y2, .int y1, .ref (b + p0)]) := by
    intro rec18 hrec18 q0 x1 p0 y1 y2 d hf H locs ls hl G
    unfold k_X10_carry_44 at hf
    obtain ⟨d14, hd14, hf⟩ := x_ob hf
    refine xr_iast S G hd14 dX10_carry_44 (fun H locs G => ?_)
    refine lv_iinc (v := (x1 + 1)) (lv' := [(1, .int (x1 + 1)), (0, .ref (b + q0))]) hx hb dX10_carry_45 hl (k := 1) rfl rfl (by decide) rfl (fun ls hl => ?_)
    refine lv_goto (tgt := 18) hx hb dX10_carry_48 (by decide) ?_
    exact hrec18 q0 (x1 + 1) d14 hf _ _ ls (lv_sub hl [1, 0] rfl) G
  have K18 : ∀ (n : Nat) (q0 : Nat) (x1 : Int32) (d : xD), xloop (fun _ _ _ => none) (b_X10_carry_18 sh) n q0 x1 d = some (r, dz) → ∀ (H : Heap) (locs : List Loc) (ls : Array Slot), lv_has ls 4 [(0, .ref (b + q0)), (1, .int x1)] → xG D cid b A sh d s H locs → W p l e (xRm 3 0 0) s m av below meth c H locs 0 0 (MQ below (xQ D cid b ex A (some (.int r)) sh dz) av s 0 0 A) (F0 m 18 ls []) := by
    intro n
    induction n with
    | zero =>
      intro q0 x1 d hf
      have hf : (none : Option (Int32 × xD)) = some (r, dz) := hf
      cases hf
    | succ n hrec18 =>
      intro q0 x1 d hf H locs ls hl G
      have hf : b_X10_carry_18 sh (xloop (fun _ _ _ => none) (b_X10_carry_18 sh) n) q0 x1 d = some (r, dz) := hf
      unfold b_X10_carry_18 at hf
      refine lv_iload_n hx hb dX10_carry_18 rfl (lv_at hl 1 rfl) ?_
      refine lv_bipush (v := (64 : Int32)) hx hb dX10_carry_19 (by decide) ?_
      refine lv_icmp_ge (tgt := 51) hx hb dX10_carry_21 (by decide) (fun c => ?_) (fun c => ?_)
      · have hf := x_pos c hf
        exact K51 q0 d hf _ _ ls (lv_sub hl [0] rfl) G
      · have hf := x_neg c hf
        refine lv_aload_n hx hb dX10_carry_24 rfl (lv_at hl 0 rfl) ?_
        obtain ⟨v15, hv15, hf⟩ := x_ob hf
        refine xr_getR (ci := 10) (k := 56) S G hv15 rfl kw_1224 dX10_carry_25 ?_
        refine lv_iload_n hx hb dX10_carry_28 rfl (lv_at hl 1 rfl) ?_
        refine lv_iload_n hx hb dX10_carry_29 rfl (lv_at hl 1 rfl) ?_
        refine lv_aload_n hx hb dX10_carry_30 rfl (lv_at hl 0 rfl) ?_
        obtain ⟨v16, hv16, hf⟩ := x_ob hf
        refine xr_getR (ci := 10) (k := 38) S G hv16 rfl kw_1206 dX10_carry_31 ?_
        refine lv_iconst (v := (0 : Int32)) hx hb dX10_carry_34 (by decide) ?_
        obtain ⟨v17, hv17, hf⟩ := x_ob hf
        refine xr_iald S G hv17 dX10_carry_35 ?_
        refine lv_icmp_ne (tgt := 43) hx hb dX10_carry_36 (by decide) (fun c => ?_) (fun c => ?_)
        · have hf := x_neg c hf
          refine lv_iconst (v := (-1 : Int32)) hx hb dX10_carry_43 (by decide) ?_
          exact K44 _ hrec18 q0 x1 v15 x1 (-1 : Int32) d hf _ _ ls (lv_sub hl [0, 1] rfl) G
        · have hf := x_pos c hf
          refine lv_iconst (v := (0 : Int32)) hx hb dX10_carry_39 (by decide) ?_
          refine lv_goto (tgt := 44) hx hb dX10_carry_40 (by decide) ?_
          exact K44 _ hrec18 q0 x1 v15 x1 (0 : Int32) d hf _ _ ls (lv_sub hl [0, 1] rfl) G
  unfold f_X10_carry at hf
  refine lv_aload_n hx hb dX10_carry_0 rfl (lv_at hl 0 rfl) ?_
  refine lv_iconst (v := (0 : Int32)) hx hb dX10_carry_1 (by decide) ?_
  obtain ⟨d18, hd18, hf⟩ := x_ob hf
  refine xr_putI (ci := 10) (k := 0) S G hd18 rfl kw_1168 dX10_carry_2 (fun H locs G => ?_)
  refine lv_aload_n hx hb dX10_carry_5 rfl (lv_at hl 0 rfl) ?_
  obtain ⟨v19, hv19, hf⟩ := x_ob hf
  refine xr_getR (ci := 10) (k := 38) S G hv19 rfl kw_1206 dX10_carry_6 ?_
  refine lv_iconst (v := (0 : Int32)) hx hb dX10_carry_9 (by decide) ?_
  obtain ⟨v20, hv20, hf⟩ := x_ob hf
  refine xr_iald S G hv20 dX10_carry_10 ?_
  refine lv_if_ne (tgt := 16) hx hb dX10_carry_11 (by decide) (fun c => ?_) (fun c => ?_)
  · have hf := x_neg c hf
    refine lv_iconst (v := (0 : Int32)) hx hb dX10_carry_16 (by decide) ?_
    refine lv_istore_n (lv' := [(1, .int (0 : Int32)), (0, .ref (b + q0))]) hx hb dX10_carry_17 rfl hl (by decide) rfl (fun ls hl => ?_)
    exact K18 xF q0 (0 : Int32) d18 hf _ _ ls (lv_sub hl [1, 0] rfl) G
  · have hf := x_pos c hf
    refine lv_iconst (v := (-1 : Int32)) hx hb dX10_carry_14 (by decide) ?_
    cases hf
    exact xr_iret S G (fun _ => rfl) hr dX10_carry_15
-- HalfLandingsModel.hasOf(IIII)I
theorem dX10_hasOf_0 : decode cX10_hasOf 0 = .ok (.iload_n 3, 1) := by decide +kernel
theorem dX10_hasOf_1 : decode cX10_hasOf 1 = .ok (.iconst 1, 1) := by decide +kernel
theorem dX10_hasOf_2 : decode cX10_hasOf 2 = .ok (.if_icmp .ne 20, 3) := by decide +kernel
theorem dX10_hasOf_5 : decode cX10_hasOf 5 = .ok (.iload 4, 2) := by decide +kernel
theorem dX10_hasOf_7 : decode cX10_hasOf 7 = .ok (.iconst 1, 1) := by decide +kernel
theorem dX10_hasOf_8 : decode cX10_hasOf 8 = .ok (.if_icmp .ne 12, 3) := by decide +kernel
theorem dX10_hasOf_11 : decode cX10_hasOf 11 = .ok (.aload_n 0, 1) := by decide +kernel
theorem dX10_hasOf_12 : decode cX10_hasOf 12 = .ok (.getfield 34, 3) := by decide +kernel
theorem dX10_hasOf_15 : decode cX10_hasOf 15 = .ok (.iload_n 2, 1) := by decide +kernel
theorem dX10_hasOf_16 : decode cX10_hasOf 16 = .ok (.iaload, 1) := by decide +kernel
theorem dX10_hasOf_17 : decode cX10_hasOf 17 = .ok (.goto 4, 3) := by decide +kernel
theorem dX10_hasOf_20 : decode cX10_hasOf 20 = .ok (.iconst 0, 1) := by decide +kernel
theorem dX10_hasOf_21 : decode cX10_hasOf 21 = .ok (.ireturn, 1) := by decide +kernel
theorem dX10_hasOf_22 : decode cX10_hasOf 22 = .ok (.iload 4, 2) := by decide +kernel
theorem dX10_hasOf_24 : decode cX10_hasOf 24 = .ok (.iconst 1, 1) := by decide +kernel
theorem dX10_hasOf_25 : decode cX10_hasOf 25 = .ok (.if_icmp .ne 12, 3) := by decide +kernel
theorem dX10_hasOf_28 : decode cX10_hasOf 28 = .ok (.aload_n 0, 1) := by decide +kernel
theorem dX10_hasOf_29 : decode cX10_hasOf 29 = .ok (.getfield 34, 3) := by decide +kernel
theorem dX10_hasOf_32 : decode cX10_hasOf 32 = .ok (.iload_n 1, 1) := by decide +kernel
theorem dX10_hasOf_33 : decode cX10_hasOf 33 = .ok (.iaload, 1) := by decide +kernel
theorem dX10_hasOf_34 : decode cX10_hasOf 34 = .ok (.goto 11, 3) := by decide +kernel
theorem dX10_hasOf_37 : decode cX10_hasOf 37 = .ok (.aload_n 0, 1) := by decide +kernel
theorem dX10_hasOf_38 : decode cX10_hasOf 38 = .ok (.getfield 34, 3) := by decide +kernel
theorem dX10_hasOf_41 : decode cX10_hasOf 41 = .ok (.iload_n 1, 1) := by decide +kernel
theorem dX10_hasOf_42 : decode cX10_hasOf 42 = .ok (.iaload, 1) := by decide +kernel
theorem dX10_hasOf_43 : decode cX10_hasOf 43 = .ok (.iconst 2, 1) := by decide +kernel
theorem dX10_hasOf_44 : decode cX10_hasOf 44 = .ok (.idiv, 1) := by decide +kernel
theorem dX10_hasOf_45 : decode cX10_hasOf 45 = .ok (.ireturn, 1) := by decide +kernel
theorem hd_X10_hasOf : yX10_hasOf.cls = xCn 10 ∧ yX10_hasOf.cls ≠ "java/lang/invoke/MethodHandle" ∧ yX10_hasOf.cls ≠ "java/lang/invoke/VarHandle" ∧ (parseMethodDescriptor yX10_hasOf.desc).map (fun d => d.parameters.length) = some 4 := by decide +kernel
def k_X10_hasOf_45 (sh : List xSh) (y0 : Int32) (d : xD) : Option (Int32 × xD) :=
  some (y0, d)
def k_X10_hasOf_21 (sh : List xSh) (y0 : Int32) (d : xD) : Option (Int32 × xD) :=
  some (y0, d)
def f_X10_hasOf (sh : List xSh) (q0 : Nat) (x1 : Int32) (x2 : Int32) (x3 : Int32) (x4 : Int32) (d : xD) : Option (Int32 × xD) :=
  if x3 = (1 : Int32) then (if x4 = (1 : Int32) then ((xgR 10 sh d q0 10).bind fun v6 => (xaI .int sh d v6 x2).bind fun v7 => k_X10_hasOf_21 sh v7 d) else (k_X10_hasOf_21 sh (0 : Int32) d)) else (if x4 = (1 : Int32) then ((xgR 10 sh d q0 10).bind fun v4 => (xaI .int sh d v4 x1).bind fun v5 => k_X10_hasOf_45 sh v5 d) else ((xgR 10 sh d q0 10).bind fun v1 => (xaI .int sh d v1 x1).bind fun v2 => (xdI v2 (2 : Int32)).bind fun v3 => k_X10_hasOf_45 sh v3 d))
set_option maxHeartbeats 4000000 in
set_option maxRecDepth 100000 in
theorem mt_X10_hasOf (l : Launch) (D : va_G) (cid : FieldType → ClassId) (b : Nat) (ex : Bool) (sa sv B0 : Nat) (sh : List xSh) (q0 : Nat) (x1 : Int32) (x2 : Int32) (x3 : Int32) (x4 : Int32) (d : xD) (r : Int32) (dz : xD) (hf : f_X10_hasOf sh q0 x1 x2 x3 x4 d = some (r, dz)) : xMet l yX10_hasOf cX10_hasOf 5 (some .int) 0 0 0 D cid b ex sa sv B0 [.ref (b + q0), .int x1, .int x2, .int x3, .int x4] sh d (some (.int r)) sh dz := by
  refine xMet.of (by decide) (Nat.le_of_ble_eq_true rfl) ?_
  intro p e s m below meth c ls A S hr hin G hl
  have hl : lv_has ls 5 [(0, .ref (b + q0)), (1, .int x1), (2, .int x2), (3, .int x3), (4, .int x4)] := hl
  generalize ([.ref (b + q0), .int x1, .int x2, .int x3, .int x4] : List Value).toArray = av at S ⊢
  have hx := S.1
  have hb := S.2.1
  have hml := S.2.2.1
  have hown := S.2.2.2.1
  have hts := S.2.2.2.2.1
  have K45 : ∀ (y0 : Int32) (d : xD), k_X10_hasOf_45 sh y0 d = some (r, dz) → ∀ (H : Heap) (locs : List Loc) (ls : Array Slot), lv_has ls 5 [] → xG D cid b A sh d s H locs → W p l e (xRm 0 0 0) s m av below meth c H locs 0 0 (MQ below (xQ D cid b ex A (some (.int r)) sh dz) av s 0 0 A) (F0 m 45 ls [.int y0]) := by
    intro y0 d hf H locs ls hl G
    unfold k_X10_hasOf_45 at hf
    cases hf
    exact xr_iret S G (fun _ => rfl) hr dX10_hasOf_45
  have K21 : ∀ (y0 : Int32) (d : xD), k_X10_hasOf_21 sh y0 d = some (r, dz) → ∀ (H : Heap) (locs : List Loc) (ls : Array Slot), lv_has ls 5 [] → xG D cid b A sh d s H locs → W p l e (xRm 0 0 0) s m av below meth c H locs 0 0 (MQ below (xQ D cid b ex A (some (.int r)) sh dz) av s 0 0 A) (F0 m 21 ls [.int y0]) := by
    intro y0 d hf H locs ls hl G
    unfold k_X10_hasOf_21 at hf
    cases hf
    exact xr_iret S G (fun _ => rfl) hr dX10_hasOf_21
  unfold f_X10_hasOf at hf
  refine lv_iload_n hx hb dX10_hasOf_0 rfl (lv_at hl 3 rfl) ?_
  refine lv_iconst (v := (1 : Int32)) hx hb dX10_hasOf_1 (by decide) ?_
  refine lv_icmp_ne (tgt := 22) hx hb dX10_hasOf_2 (by decide) (fun c => ?_) (fun c => ?_)
  · have hf := x_neg c hf
    refine lv_iload hx hb dX10_hasOf_22 (lv_at hl 4 rfl) ?_
    refine lv_iconst (v := (1 : Int32)) hx hb dX10_hasOf_24 (by decide) ?_
    refine lv_icmp_ne (tgt := 37) hx hb dX10_hasOf_25 (by decide) (fun c => ?_) (fun c => ?_)
    · have hf := x_neg c hf
      refine lv_aload_n hx hb dX10_hasOf_37 rfl (lv_at hl 0 rfl) ?_
      obtain ⟨v1, hv1, hf⟩ := x_ob hf
      refine xr_getR (ci := 10) (k := 10) S G hv1 rfl kw_1178 dX10_hasOf_38 ?_
      refine lv_iload_n hx hb dX10_hasOf_41 rfl (lv_at hl 1 rfl) ?_
      obtain ⟨v2, hv2, hf⟩ := x_ob hf
      refine xr_iald S G hv2 dX10_hasOf_42 ?_
      refine lv_iconst (v := (2 : Int32)) hx hb dX10_hasOf_43 (by decide) ?_
      obtain ⟨v3, hv3, hf⟩ := x_ob hf
      refine xr_idiv hx hb hv3 dX10_hasOf_44 ?_
      exact K45 v3 d hf _ _ ls (lv_sub hl [] rfl) G
    · have hf := x_pos c hf
      refine lv_aload_n hx hb dX10_hasOf_28 rfl (lv_at hl 0 rfl) ?_
      obtain ⟨v4, hv4, hf⟩ := x_ob hf
      refine xr_getR (ci := 10) (k := 10) S G hv4 rfl kw_1178 dX10_hasOf_29 ?_
      refine lv_iload_n hx hb dX10_hasOf_32 rfl (lv_at hl 1 rfl) ?_
      obtain ⟨v5, hv5, hf⟩ := x_ob hf
      refine xr_iald S G hv5 dX10_hasOf_33 ?_
      refine lv_goto (tgt := 45) hx hb dX10_hasOf_34 (by decide) ?_
      exact K45 v5 d hf _ _ ls (lv_sub hl [] rfl) G
  · have hf := x_pos c hf
    refine lv_iload hx hb dX10_hasOf_5 (lv_at hl 4 rfl) ?_
    refine lv_iconst (v := (1 : Int32)) hx hb dX10_hasOf_7 (by decide) ?_
    refine lv_icmp_ne (tgt := 20) hx hb dX10_hasOf_8 (by decide) (fun c => ?_) (fun c => ?_)
    · have hf := x_neg c hf
      refine lv_iconst (v := (0 : Int32)) hx hb dX10_hasOf_20 (by decide) ?_
      exact K21 (0 : Int32) d hf _ _ ls (lv_sub hl [] rfl) G
    · have hf := x_pos c hf
      refine lv_aload_n hx hb dX10_hasOf_11 rfl (lv_at hl 0 rfl) ?_
      obtain ⟨v6, hv6, hf⟩ := x_ob hf
      refine xr_getR (ci := 10) (k := 10) S G hv6 rfl kw_1178 dX10_hasOf_12 ?_
      refine lv_iload_n hx hb dX10_hasOf_15 rfl (lv_at hl 2 rfl) ?_
      obtain ⟨v7, hv7, hf⟩ := x_ob hf
      refine xr_iald S G hv7 dX10_hasOf_16 ?_
      refine lv_goto (tgt := 21) hx hb dX10_hasOf_17 (by decide) ?_
      exact K21 v7 d hf _ _ ls (lv_sub hl [] rfl) G
-- HalfLandingsModel.isRest(III)Z
theorem dX10_isRest_0 : decode cX10_isRest 0 = .ok (.iload_n 3, 1) := by decide +kernel
theorem dX10_isRest_1 : decode cX10_isRest 1 = .ok (.iconst 2, 1) := by decide +kernel
theorem dX10_isRest_2 : decode cX10_isRest 2 = .ok (.idiv, 1) := by decide +kernel
theorem dX10_isRest_3 : decode cX10_isRest 3 = .ok (.istore 4, 2) := by decide +kernel
theorem dX10_isRest_5 : decode cX10_isRest 5 = .ok (.iload_n 3, 1) := by decide +kernel
theorem dX10_isRest_6 : decode cX10_isRest 6 = .ok (.iconst 2, 1) := by decide +kernel
theorem dX10_isRest_7 : decode cX10_isRest 7 = .ok (.irem, 1) := by decide +kernel
theorem dX10_isRest_8 : decode cX10_isRest 8 = .ok (.istore 5, 2) := by decide +kernel
theorem dX10_isRest_10 : decode cX10_isRest 10 = .ok (.aload_n 0, 1) := by decide +kernel
theorem dX10_isRest_11 : decode cX10_isRest 11 = .ok (.iload_n 1, 1) := by decide +kernel
theorem dX10_isRest_12 : decode cX10_isRest 12 = .ok (.iload_n 2, 1) := by decide +kernel
theorem dX10_isRest_13 : decode cX10_isRest 13 = .ok (.iconst 1, 1) := by decide +kernel
theorem dX10_isRest_14 : decode cX10_isRest 14 = .ok (.iload 4, 2) := by decide +kernel
theorem dX10_isRest_16 : decode cX10_isRest 16 = .ok (.isub, 1) := by decide +kernel
theorem dX10_isRest_17 : decode cX10_isRest 17 = .ok (.iload 5, 2) := by decide +kernel
theorem dX10_isRest_19 : decode cX10_isRest 19 = .ok (.invokevirtual 457, 3) := by decide +kernel
theorem dX10_isRest_22 : decode cX10_isRest 22 = .ok (.aload_n 0, 1) := by decide +kernel
theorem dX10_isRest_23 : decode cX10_isRest 23 = .ok (.iload_n 1, 1) := by decide +kernel
theorem dX10_isRest_24 : decode cX10_isRest 24 = .ok (.iload_n 2, 1) := by decide +kernel
theorem dX10_isRest_25 : decode cX10_isRest 25 = .ok (.iload 4, 2) := by decide +kernel
theorem dX10_isRest_27 : decode cX10_isRest 27 = .ok (.iload 5, 2) := by decide +kernel
theorem dX10_isRest_29 : decode cX10_isRest 29 = .ok (.invokevirtual 457, 3) := by decide +kernel
theorem dX10_isRest_32 : decode cX10_isRest 32 = .ok (.if_icmp .gt 32, 3) := by decide +kernel
theorem dX10_isRest_35 : decode cX10_isRest 35 = .ok (.aload_n 0, 1) := by decide +kernel
theorem dX10_isRest_36 : decode cX10_isRest 36 = .ok (.iload_n 2, 1) := by decide +kernel
theorem dX10_isRest_37 : decode cX10_isRest 37 = .ok (.iload_n 1, 1) := by decide +kernel
theorem dX10_isRest_38 : decode cX10_isRest 38 = .ok (.iconst 1, 1) := by decide +kernel
theorem dX10_isRest_39 : decode cX10_isRest 39 = .ok (.iload 5, 2) := by decide +kernel
theorem dX10_isRest_41 : decode cX10_isRest 41 = .ok (.isub, 1) := by decide +kernel
theorem dX10_isRest_42 : decode cX10_isRest 42 = .ok (.iload 4, 2) := by decide +kernel
theorem dX10_isRest_44 : decode cX10_isRest 44 = .ok (.invokevirtual 457, 3) := by decide +kernel
theorem dX10_isRest_47 : decode cX10_isRest 47 = .ok (.aload_n 0, 1) := by decide +kernel
theorem dX10_isRest_48 : decode cX10_isRest 48 = .ok (.iload_n 2, 1) := by decide +kernel
theorem dX10_isRest_49 : decode cX10_isRest 49 = .ok (.iload_n 1, 1) := by decide +kernel
theorem dX10_isRest_50 : decode cX10_isRest 50 = .ok (.iload 5, 2) := by decide +kernel
theorem dX10_isRest_52 : decode cX10_isRest 52 = .ok (.iload 4, 2) := by decide +kernel
theorem dX10_isRest_54 : decode cX10_isRest 54 = .ok (.invokevirtual 457, 3) := by decide +kernel
theorem dX10_isRest_57 : decode cX10_isRest 57 = .ok (.if_icmp .gt 7, 3) := by decide +kernel
theorem dX10_isRest_60 : decode cX10_isRest 60 = .ok (.iconst 1, 1) := by decide +kernel
theorem dX10_isRest_61 : decode cX10_isRest 61 = .ok (.goto 4, 3) := by decide +kernel
theorem dX10_isRest_64 : decode cX10_isRest 64 = .ok (.iconst 0, 1) := by decide +kernel
theorem dX10_isRest_65 : decode cX10_isRest 65 = .ok (.ireturn, 1) := by decide +kernel
theorem hd_X10_isRest : yX10_isRest.cls = xCn 10 ∧ yX10_isRest.cls ≠ "java/lang/invoke/MethodHandle" ∧ yX10_isRest.cls ≠ "java/lang/invoke/VarHandle" ∧ (parseMethodDescriptor yX10_isRest.desc).map (fun d => d.parameters.length) = some 3 := by decide +kernel
def k_X10_isRest_65 (sh : List xSh) (y0 : Int32) (d : xD) : Option (Int32 × xD) :=
  (xz y0).bind fun v1 => some (v1, d)
def k_X10_isRest_64 (sh : List xSh) (d : xD) : Option (Int32 × xD) :=
  k_X10_isRest_65 sh (0 : Int32) d
def f_X10_isRest (sh : List xSh) (q0 : Nat) (x1 : Int32) (x2 : Int32) (x3 : Int32) (d : xD) : Option (Int32 × xD) :=
  (xdI x3 (2 : Int32)).bind fun v2 => (xmI x3 (2 : Int32)).bind fun v3 => (xon 10 sh q0 (f_X10_hasOf sh q0 x1 x2 ((1 : Int32) - v2) v3 d)).bind fun z4 => (xon 10 sh q0 (f_X10_hasOf sh q0 x1 x2 v2 v3 z4.2)).bind fun z5 => if z5.1 < z4.1 then (k_X10_isRest_64 sh z5.2) else ((xon 10 sh q0 (f_X10_hasOf sh q0 x2 x1 ((1 : Int32) - v3) v2 z5.2)).bind fun z6 => (xon 10 sh q0 (f_X10_hasOf sh q0 x2 x1 v3 v2 z6.2)).bind fun z7 => if z7.1 < z6.1 then (k_X10_isRest_64 sh z7.2) else (k_X10_isRest_65 sh (1 : Int32) z7.2))
set_option maxHeartbeats 4000000 in
set_option maxRecDepth 100000 in
theorem mt_X10_isRest (l : Launch) (D : va_G) (cid : FieldType → ClassId) (b : Nat) (ex : Bool) (sa sv B0 : Nat) (sh : List xSh) (q0 : Nat) (x1 : Int32) (x2 : Int32) (x3 : Int32) (d : xD) (r : Int32) (dz : xD) (hf : f_X10_isRest sh q0 x1 x2 x3 d = some (r, dz)) : xMet l yX10_isRest cX10_isRest 6 (some .boolean) 1 0 0 D cid b ex sa sv B0 [.ref (b + q0), .int x1, .int x2, .int x3] sh d (some (.int r)) sh dz := by
  refine xMet.of (by decide) (Nat.le_of_ble_eq_true rfl) ?_
  intro p e s m below meth c ls A S hr hin G hl
  have hl : lv_has ls 6 [(0, .ref (b + q0)), (1, .int x1), (2, .int x2), (3, .int x3)] := hl
  generalize ([.ref (b + q0), .int x1, .int x2, .int x3] : List Value).toArray = av at S ⊢
  have hx := S.1
  have hb := S.2.1
  have hml := S.2.2.1
  have hown := S.2.2.2.1
  have hts := S.2.2.2.2.1
  have K65 : ∀ (y0 : Int32) (d : xD), k_X10_isRest_65 sh y0 d = some (r, dz) → ∀ (H : Heap) (locs : List Loc) (ls : Array Slot), lv_has ls 6 [] → xG D cid b A sh d s H locs → W p l e (xRm 1 0 0) s m av below meth c H locs 0 0 (MQ below (xQ D cid b ex A (some (.int r)) sh dz) av s 0 0 A) (F0 m 65 ls [.int y0]) := by
    intro y0 d hf H locs ls hl G
    unfold k_X10_isRest_65 at hf
    obtain ⟨v1, hv1, hf⟩ := x_ob hf
    cases hf
    exact xr_zret S G (fun _ => rfl) hr hv1 dX10_isRest_65
  have K64 : ∀ (d : xD), k_X10_isRest_64 sh d = some (r, dz) → ∀ (H : Heap) (locs : List Loc) (ls : Array Slot), lv_has ls 6 [] → xG D cid b A sh d s H locs → W p l e (xRm 1 0 0) s m av below meth c H locs 0 0 (MQ below (xQ D cid b ex A (some (.int r)) sh dz) av s 0 0 A) (F0 m 64 ls []) := by
    intro d hf H locs ls hl G
    unfold k_X10_isRest_64 at hf
    refine lv_iconst (v := (0 : Int32)) hx hb dX10_isRest_64 (by decide) ?_
    exact K65 (0 : Int32) d hf _ _ ls (lv_sub hl [] rfl) G
  unfold f_X10_isRest at hf
  refine lv_iload_n hx hb dX10_isRest_0 rfl (lv_at hl 3 rfl) ?_
  refine lv_iconst (v := (2 : Int32)) hx hb dX10_isRest_1 (by decide) ?_
  obtain ⟨v2, hv2, hf⟩ := x_ob hf
  refine xr_idiv hx hb hv2 dX10_isRest_2 ?_
  refine lv_istore (lv' := [(4, .int v2), (0, .ref (b + q0)), (1, .int x1), (2, .int x2), (3, .int x3)]) hx hb dX10_isRest_3 hl (by decide) rfl (fun ls hl => ?_)
  refine lv_iload_n hx hb dX10_isRest_5 rfl (lv_at hl 4 rfl) ?_
  refine lv_iconst (v := (2 : Int32)) hx hb dX10_isRest_6 (by decide) ?_
  obtain ⟨v3, hv3, hf⟩ := x_ob hf
  refine xr_irem hx hb hv3 dX10_isRest_7 ?_
  refine lv_istore (lv' := [(5, .int v3), (4, .int v2), (0, .ref (b + q0)), (1, .int x1), (2, .int x2), (3, .int x3)]) hx hb dX10_isRest_8 hl (by decide) rfl (fun ls hl => ?_)
  refine lv_aload_n hx hb dX10_isRest_10 rfl (lv_at hl 2 rfl) ?_
  refine lv_iload_n hx hb dX10_isRest_11 rfl (lv_at hl 3 rfl) ?_
  refine lv_iload_n hx hb dX10_isRest_12 rfl (lv_at hl 4 rfl) ?_
  refine lv_iconst (v := (1 : Int32)) hx hb dX10_isRest_13 (by decide) ?_
  refine lv_iload hx hb dX10_isRest_14 (lv_at hl 1 rfl) ?_
  refine lv_isub hx hb dX10_isRest_16 ?_
  refine lv_iload hx hb dX10_isRest_17 (lv_at hl 0 rfl) ?_
  obtain ⟨z4, hz4, hf⟩ := x_ob hf
  obtain ⟨hqz4, hz4⟩ := xon_of hz4
  refine xr_callV (ci := 10) (As := [.int x1, .int x2, .int ((1 : Int32) - v2), .int v3]) (rest := []) (st1 := [.int z4.1]) S G hl.1 (fun _ => rfl) (mt_X10_hasOf l D cid b ex sa sv B0 sh q0 x1 x2 ((1 : Int32) - v2) v3 d _ _ hz4) hqz4 (by decide) kw_1717 kw_1719 ks_95 kw_17 kw_1720 hd_X10_hasOf ⟨Nat.le_of_ble_eq_true rfl, Nat.le_of_ble_eq_true rfl⟩ rfl rfl rfl (Nat.le_of_ble_eq_true rfl) ⟨Nat.le_of_ble_eq_true rfl, Nat.le_of_ble_eq_true rfl⟩ dX10_isRest_19 (fun H locs G => ?_)
  refine lv_aload_n hx hb dX10_isRest_22 rfl (lv_at hl 2 rfl) ?_
  refine lv_iload_n hx hb dX10_isRest_23 rfl (lv_at hl 3 rfl) ?_
  refine lv_iload_n hx hb dX10_isRest_24 rfl (lv_at hl 4 rfl) ?_
  refine lv_iload hx hb dX10_isRest_25 (lv_at hl 1 rfl) ?_
  refine lv_iload hx hb dX10_isRest_27 (lv_at hl 0 rfl) ?_
  obtain ⟨z5, hz5, hf⟩ := x_ob hf
  obtain ⟨hqz5, hz5⟩ := xon_of hz5
  refine xr_callV (ci := 10) (As := [.int x1, .int x2, .int v2, .int v3]) (rest := [.int z4.1]) (st1 := [.int z5.1, .int z4.1]) S G hl.1 (fun _ => rfl) (mt_X10_hasOf l D cid b ex sa sv B0 sh q0 x1 x2 v2 v3 z4.2 _ _ hz5) hqz5 (by decide) kw_1717 kw_1719 ks_95 kw_17 kw_1720 hd_X10_hasOf ⟨Nat.le_of_ble_eq_true rfl, Nat.le_of_ble_eq_true rfl⟩ rfl rfl rfl (Nat.le_of_ble_eq_true rfl) ⟨Nat.le_of_ble_eq_true rfl, Nat.le_of_ble_eq_true rfl⟩ dX10_isRest_29 (fun H locs G => ?_)
  refine lv_icmp_gt (tgt := 64) hx hb dX10_isRest_32 (by decide) (fun c => ?_) (fun c => ?_)
  · have hf := x_pos c hf
    exact K64 z5.2 hf _ _ ls (lv_sub hl [] rfl) G
  · have hf := x_neg c hf
    refine lv_aload_n hx hb dX10_isRest_35 rfl (lv_at hl 2 rfl) ?_
    refine lv_iload_n hx hb dX10_isRest_36 rfl (lv_at hl 4 rfl) ?_
    refine lv_iload_n hx hb dX10_isRest_37 rfl (lv_at hl 3 rfl) ?_
    refine lv_iconst (v := (1 : Int32)) hx hb dX10_isRest_38 (by decide) ?_
    refine lv_iload hx hb dX10_isRest_39 (lv_at hl 0 rfl) ?_
    refine lv_isub hx hb dX10_isRest_41 ?_
    refine lv_iload hx hb dX10_isRest_42 (lv_at hl 1 rfl) ?_
    obtain ⟨z6, hz6, hf⟩ := x_ob hf
    obtain ⟨hqz6, hz6⟩ := xon_of hz6
    refine xr_callV (ci := 10) (As := [.int x2, .int x1, .int ((1 : Int32) - v3), .int v2]) (rest := []) (st1 := [.int z6.1]) S G hl.1 (fun _ => rfl) (mt_X10_hasOf l D cid b ex sa sv B0 sh q0 x2 x1 ((1 : Int32) - v3) v2 z5.2 _ _ hz6) hqz6 (by decide) kw_1717 kw_1719 ks_95 kw_17 kw_1720 hd_X10_hasOf ⟨Nat.le_of_ble_eq_true rfl, Nat.le_of_ble_eq_true rfl⟩ rfl rfl rfl (Nat.le_of_ble_eq_true rfl) ⟨Nat.le_of_ble_eq_true rfl, Nat.le_of_ble_eq_true rfl⟩ dX10_isRest_44 (fun H locs G => ?_)
    refine lv_aload_n hx hb dX10_isRest_47 rfl (lv_at hl 2 rfl) ?_
    refine lv_iload_n hx hb dX10_isRest_48 rfl (lv_at hl 4 rfl) ?_
    refine lv_iload_n hx hb dX10_isRest_49 rfl (lv_at hl 3 rfl) ?_
    refine lv_iload hx hb dX10_isRest_50 (lv_at hl 0 rfl) ?_
    refine lv_iload hx hb dX10_isRest_52 (lv_at hl 1 rfl) ?_
    obtain ⟨z7, hz7, hf⟩ := x_ob hf
    obtain ⟨hqz7, hz7⟩ := xon_of hz7
    refine xr_callV (ci := 10) (As := [.int x2, .int x1, .int v3, .int v2]) (rest := [.int z6.1]) (st1 := [.int z7.1, .int z6.1]) S G hl.1 (fun _ => rfl) (mt_X10_hasOf l D cid b ex sa sv B0 sh q0 x2 x1 v3 v2 z6.2 _ _ hz7) hqz7 (by decide) kw_1717 kw_1719 ks_95 kw_17 kw_1720 hd_X10_hasOf ⟨Nat.le_of_ble_eq_true rfl, Nat.le_of_ble_eq_true rfl⟩ rfl rfl rfl (Nat.le_of_ble_eq_true rfl) ⟨Nat.le_of_ble_eq_true rfl, Nat.le_of_ble_eq_true rfl⟩ dX10_isRest_54 (fun H locs G => ?_)
    refine lv_icmp_gt (tgt := 64) hx hb dX10_isRest_57 (by decide) (fun c => ?_) (fun c => ?_)
    · have hf := x_pos c hf
      exact K64 z7.2 hf _ _ ls (lv_sub hl [] rfl) G
    · have hf := x_neg c hf
      refine lv_iconst (v := (1 : Int32)) hx hb dX10_isRest_60 (by decide) ?_
      refine lv_goto (tgt := 65) hx hb dX10_isRest_61 (by decide) ?_
      exact K65 (1 : Int32) z7.2 hf _ _ ls (lv_sub hl [] rfl) G
-- HalfLandingsModel.restIn(III)I
theorem dX10_restIn_0 : decode cX10_restIn 0 = .ok (.iconst 0, 1) := by decide +kernel
theorem dX10_restIn_1 : decode cX10_restIn 1 = .ok (.istore 4, 2) := by decide +kernel
theorem dX10_restIn_3 : decode cX10_restIn 3 = .ok (.iconst 0, 1) := by decide +kernel
theorem dX10_restIn_4 : decode cX10_restIn 4 = .ok (.istore 5, 2) := by decide +kernel
theorem dX10_restIn_6 : decode cX10_restIn 6 = .ok (.iload 5, 2) := by decide +kernel
theorem dX10_restIn_8 : decode cX10_restIn 8 = .ok (.iconst 4, 1) := by decide +kernel
theorem dX10_restIn_9 : decode cX10_restIn 9 = .ok (.if_icmp .ge 45, 3) := by decide +kernel
theorem dX10_restIn_12 : decode cX10_restIn 12 = .ok (.aload_n 0, 1) := by decide +kernel
theorem dX10_restIn_13 : decode cX10_restIn 13 = .ok (.iload_n 1, 1) := by decide +kernel
theorem dX10_restIn_14 : decode cX10_restIn 14 = .ok (.iload_n 2, 1) := by decide +kernel
theorem dX10_restIn_15 : decode cX10_restIn 15 = .ok (.iload 5, 2) := by decide +kernel
theorem dX10_restIn_17 : decode cX10_restIn 17 = .ok (.invokevirtual 461, 3) := by decide +kernel
theorem dX10_restIn_20 : decode cX10_restIn 20 = .ok (.ifCond .ne 6, 3) := by decide +kernel
theorem dX10_restIn_23 : decode cX10_restIn 23 = .ok (.goto 25, 3) := by decide +kernel
theorem dX10_restIn_26 : decode cX10_restIn 26 = .ok (.iload 4, 2) := by decide +kernel
theorem dX10_restIn_28 : decode cX10_restIn 28 = .ok (.iload_n 3, 1) := by decide +kernel
theorem dX10_restIn_29 : decode cX10_restIn 29 = .ok (.if_icmp .ne 16, 3) := by decide +kernel
theorem dX10_restIn_32 : decode cX10_restIn 32 = .ok (.bipush 10, 2) := by decide +kernel
theorem dX10_restIn_34 : decode cX10_restIn 34 = .ok (.iload 5, 2) := by decide +kernel
theorem dX10_restIn_36 : decode cX10_restIn 36 = .ok (.iconst 2, 1) := by decide +kernel
theorem dX10_restIn_37 : decode cX10_restIn 37 = .ok (.idiv, 1) := by decide +kernel
theorem dX10_restIn_38 : decode cX10_restIn 38 = .ok (.imul, 1) := by decide +kernel
theorem dX10_restIn_39 : decode cX10_restIn 39 = .ok (.iload 5, 2) := by decide +kernel
theorem dX10_restIn_41 : decode cX10_restIn 41 = .ok (.iconst 2, 1) := by decide +kernel
theorem dX10_restIn_42 : decode cX10_restIn 42 = .ok (.irem, 1) := by decide +kernel
theorem dX10_restIn_43 : decode cX10_restIn 43 = .ok (.iadd, 1) := by decide +kernel
theorem dX10_restIn_44 : decode cX10_restIn 44 = .ok (.ireturn, 1) := by decide +kernel
theorem dX10_restIn_45 : decode cX10_restIn 45 = .ok (.iinc 4 1, 3) := by decide +kernel
theorem dX10_restIn_48 : decode cX10_restIn 48 = .ok (.iinc 5 1, 3) := by decide +kernel
theorem dX10_restIn_51 : decode cX10_restIn 51 = .ok (.goto (-45), 3) := by decide +kernel
theorem dX10_restIn_54 : decode cX10_restIn 54 = .ok (.iload_n 3, 1) := by decide +kernel
theorem dX10_restIn_55 : decode cX10_restIn 55 = .ok (.iconst (-1), 1) := by decide +kernel
theorem dX10_restIn_56 : decode cX10_restIn 56 = .ok (.if_icmp .ne 8, 3) := by decide +kernel
theorem dX10_restIn_59 : decode cX10_restIn 59 = .ok (.iload 4, 2) := by decide +kernel
theorem dX10_restIn_61 : decode cX10_restIn 61 = .ok (.goto 5, 3) := by decide +kernel
theorem dX10_restIn_64 : decode cX10_restIn 64 = .ok (.bipush (-2), 2) := by decide +kernel
theorem dX10_restIn_66 : decode cX10_restIn 66 = .ok (.ireturn, 1) := by decide +kernel
theorem hd_X10_restIn : yX10_restIn.cls = xCn 10 ∧ yX10_restIn.cls ≠ "java/lang/invoke/MethodHandle" ∧ yX10_restIn.cls ≠ "java/lang/invoke/VarHandle" ∧ (parseMethodDescriptor yX10_restIn.desc).map (fun d => d.parameters.length) = some 3 := by decide +kernel
def k_X10_restIn_66 (sh : List xSh) (y0 : Int32) (d : xD) : Option (Int32 × xD) :=
  some (y0, d)
def k_X10_restIn_54 (sh : List xSh) (x3 : Int32) (x4 : Int32) (d : xD) : Option (Int32 × xD) :=
  if x3 = (-1 : Int32) then (k_X10_restIn_66 sh x4 d) else (k_X10_restIn_66 sh (-2 : Int32) d)
def k_X10_restIn_48 (sh : List xSh) (rec6 : Nat → Int32 → Int32 → Int32 → Int32 → Int32 → xD → Option (Int32 × xD)) (q0 : Nat) (x1 : Int32) (x2 : Int32) (x3 : Int32) (x4 : Int32) (x5 : Int32) (d : xD) : Option (Int32 × xD) :=
  rec6 q0 x1 x2 x3 x4 (x5 + 1) d
def k_X10_restIn_32 (sh : List xSh) (x5 : Int32) (d : xD) : Option (Int32 × xD) :=
  (xdI x5 (2 : Int32)).bind fun v1 => (xmI x5 (2 : Int32)).bind fun v2 => some ((((10 : Int32) * v1) + v2), d)
def b_X10_restIn_6 (sh : List xSh) (rec6 : Nat → Int32 → Int32 → Int32 → Int32 → Int32 → xD → Option (Int32 × xD)) (q0 : Nat) (x1 : Int32) (x2 : Int32) (x3 : Int32) (x4 : Int32) (x5 : Int32) (d : xD) : Option (Int32 × xD) :=
  if (4 : Int32) ≤ x5 then (k_X10_restIn_54 sh x3 x4 d) else ((xon 10 sh q0 (f_X10_isRest sh q0 x1 x2 x5 d)).bind fun z3 => if z3.1 = 0 then (k_X10_restIn_48 sh rec6 q0 x1 x2 x3 x4 x5 z3.2) else (if x4 = x3 then (k_X10_restIn_32 sh x5 z3.2) else (k_X10_restIn_48 sh rec6 q0 x1 x2 x3 (x4 + 1) x5 z3.2)))
def f_X10_restIn (sh : List xSh) (q0 : Nat) (x1 : Int32) (x2 : Int32) (x3 : Int32) (d : xD) : Option (Int32 × xD) :=
  xloop (fun _ _ _ _ _ _ _ => none) (b_X10_restIn_6 sh) xF q0 x1 x2 x3 (0 : Int32) (0 : Int32) d
set_option maxHeartbeats 4000000 in
set_option maxRecDepth 100000 in
theorem mt_X10_restIn (l : Launch) (D : va_G) (cid : FieldType → ClassId) (b : Nat) (ex : Bool) (sa sv B0 : Nat) (sh : List xSh) (q0 : Nat) (x1 : Int32) (x2 : Int32) (x3 : Int32) (d : xD) (r : Int32) (dz : xD) (hf : f_X10_restIn sh q0 x1 x2 x3 d = some (r, dz)) : xMet l yX10_restIn cX10_restIn 6 (some .int) 2 0 0 D cid b ex sa sv B0 [.ref (b + q0), .int x1, .int x2, .int x3] sh d (some (.int r)) sh dz := by
  refine xMet.of (by decide) (Nat.le_of_ble_eq_true rfl) ?_
  intro p e s m below meth c ls A S hr hin G hl
  have hl : lv_has ls 6 [(0, .ref (b + q0)), (1, .int x1), (2, .int x2), (3, .int x3)] := hl
  generalize ([.ref (b + q0), .int x1, .int x2, .int x3] : List Value).toArray = av at S ⊢
  have hx := S.1
  have hb := S.2.1
  have hml := S.2.2.1
  have hown := S.2.2.2.1
  have hts := S.2.2.2.2.1
  have K66 : ∀ (y0 : Int32) (d : xD), k_X10_restIn_66 sh y0 d = some (r, dz) → ∀ (H : Heap) (locs : List Loc) (ls : Array Slot), lv_has ls 6 [] → xG D cid b A sh d s H locs → W p l e (xRm 2 0 0) s m av below meth c H locs 0 0 (MQ below (xQ D cid b ex A (some (.int r)) sh dz) av s 0 0 A) (F0 m 66 ls [.int y0]) := by
    intro y0 d hf H locs ls hl G
    unfold k_X10_restIn_66 at hf
    cases hf
    exact xr_iret S G (fun _ => rfl) hr dX10_restIn_66
  have K54 : ∀ (x3 : Int32) (x4 : Int32) (d : xD), k_X10_restIn_54 sh x3 x4 d = some (r, dz) → ∀ (H : Heap) (locs : List Loc) (ls : Array Slot), lv_has ls 6 [(3, .int x3), (4, .int x4)] → xG D cid b A sh d s H locs → W p l e (xRm 2 0 0) s m av below meth c H locs 0 0 (MQ below (xQ D cid b ex A (some (.int r)) sh dz) av s 0 0 A) (F0 m 54 ls []) := by
    intro x3 x4 d hf H locs ls hl G
    unfold k_X10_restIn_54 at hf
    refine lv_iload_n hx hb dX10_restIn_54 rfl (lv_at hl 0 rfl) ?_
    refine lv_iconst (v := (-1 : Int32)) hx hb dX10_restIn_55 (by decide) ?_
    refine lv_icmp_ne (tgt := 64) hx hb dX10_restIn_56 (by decide) (fun c => ?_) (fun c => ?_)
    · have hf := x_neg c hf
      refine lv_bipush (v := (-2 : Int32)) hx hb dX10_restIn_64 (by decide) ?_
      exact K66 (-2 : Int32) d hf _ _ ls (lv_sub hl [] rfl) G
    · have hf := x_pos c hf
      refine lv_iload hx hb dX10_restIn_59 (lv_at hl 1 rfl) ?_
      refine lv_goto (tgt := 66) hx hb dX10_restIn_61 (by decide) ?_
      exact K66 x4 d hf _ _ ls (lv_sub hl [] rfl) G
  have K48 : ∀ (rec6 : Nat → Int32 → Int32 → Int32 → Int32 → Int32 → xD → Option (Int32 × xD)) (hrec6 : ∀ (q0 : Nat) (x1 : Int32) (x2 : Int32) (x3 : Int32) (x4 : Int32) (x5 : Int32) (d : xD), rec6 q0 x1 x2 x3 x4 x5 d = some (r, dz) → ∀ (H : Heap) (locs : List Loc) (ls : Array Slot), lv_has ls 6 [(0, .ref (b + q0)), (1, .int x1), (2, .int x2), (3, .int x3), (4, .int x4), (5, .int x5)] → xG D cid b A sh d s H locs → W p l e (xRm 2 0 0) s m av below meth c H locs 0 0 (MQ below (xQ D cid b ex A (some (.int r)) sh dz) av s 0 0 A) (F0 m 6 ls [])) (q0 : Nat) (x1 : Int32) (x2 : Int32) (x3 : Int32) (x4 : Int32) (x5 : Int32) (d : xD), k_X10_restIn_48 sh rec6 q0 x1 x2 x3 x4 x5 d = some (r, dz) → ∀ (H : Heap) (locs : List Loc) (ls : Array Slot), lv_has ls 6 [(0, .ref (b + q0)), (1, .int x1), (2, .int x2), (3, .int x3), (4, .int x4), (5, .int x5)] → xG D cid b A sh d s H locs → W p l e (xRm 2 0 0) s m av below meth c H locs 0 0 (MQ below (xQ D cid b ex A (some (.int r)) sh dz) av s 0 0 A) (F0 m 48 ls []) := by
    intro rec6 hrec6 q0 x1 x2 x3 x4 x5 d hf H locs ls hl G
    unfold k_X10_restIn_48 at hf
    refine lv_iinc (v := (x5 + 1)) (lv' := [(5, .int (x5 + 1)), (0, .ref (b + q0)), (1, .int x1), (2, .int x2), (3, .int x3), (4, .int x4)]) hx hb dX10_restIn_48 hl (k := 5) rfl rfl (by decide) rfl (fun ls hl => ?_)
    refine lv_goto (tgt := 6) hx hb dX10_restIn_51 (by decide) ?_
    exact hrec6 q0 x1 x2 x3 x4 (x5 + 1) d hf _ _ ls (lv_sub hl [1, 2, 3, 4, 5, 0] rfl) G
  have K32 : ∀ (x5 : Int32) (d : xD), k_X10_restIn_32 sh x5 d = some (r, dz) → ∀ (H : Heap) (locs : List Loc) (ls : Array Slot), lv_has ls 6 [(5, .int x5)] → xG D cid b A sh d s H locs → W p l e (xRm 2 0 0) s m av below meth c H locs 0 0 (MQ below (xQ D cid b ex A (some (.int r)) sh dz) av s 0 0 A) (F0 m 32 ls []) := by
    intro x5 d hf H locs ls hl G
    unfold k_X10_restIn_32 at hf
    refine lv_bipush (v := (10 : Int32)) hx hb dX10_restIn_32 (by decide) ?_
    refine lv_iload hx hb dX10_restIn_34 (lv_at hl 0 rfl) ?_
    refine lv_iconst (v := (2 : Int32)) hx hb dX10_restIn_36 (by decide) ?_
    obtain ⟨v1, hv1, hf⟩ := x_ob hf
    refine xr_idiv hx hb hv1 dX10_restIn_37 ?_
    refine lv_imul hx hb dX10_restIn_38 ?_
    refine lv_iload hx hb dX10_restIn_39 (lv_at hl 0 rfl) ?_
    refine lv_iconst (v := (2 : Int32)) hx hb dX10_restIn_41 (by decide) ?_
    obtain ⟨v2, hv2, hf⟩ := x_ob hf
    refine xr_irem hx hb hv2 dX10_restIn_42 ?_
    refine lv_iadd hx hb dX10_restIn_43 ?_
    cases hf
    exact xr_iret S G (fun _ => rfl) hr dX10_restIn_44
  have K6 : ∀ (n : Nat) (q0 : Nat) (x1 : Int32) (x2 : Int32) (x3 : Int32) (x4 : Int32) (x5 : Int32) (d : xD), xloop (fun _ _ _ _ _ _ _ => none) (b_X10_restIn_6 sh) n q0 x1 x2 x3 x4 x5 d = some (r, dz) → ∀ (H : Heap) (locs : List Loc) (ls : Array Slot), lv_has ls 6 [(0, .ref (b + q0)), (1, .int x1), (2, .int x2), (3, .int x3), (4, .int x4), (5, .int x5)] → xG D cid b A sh d s H locs → W p l e (xRm 2 0 0) s m av below meth c H locs 0 0 (MQ below (xQ D cid b ex A (some (.int r)) sh dz) av s 0 0 A) (F0 m 6 ls []) := by
    intro n
    induction n with
    | zero =>
      intro q0 x1 x2 x3 x4 x5 d hf
      have hf : (none : Option (Int32 × xD)) = some (r, dz) := hf
      cases hf
    | succ n hrec6 =>
      intro q0 x1 x2 x3 x4 x5 d hf H locs ls hl G
      have hf : b_X10_restIn_6 sh (xloop (fun _ _ _ _ _ _ _ => none) (b_X10_restIn_6 sh) n) q0 x1 x2 x3 x4 x5 d = some (r, dz) := hf
      unfold b_X10_restIn_6 at hf
      refine lv_iload hx hb dX10_restIn_6 (lv_at hl 5 rfl) ?_
      refine lv_iconst (v := (4 : Int32)) hx hb dX10_restIn_8 (by decide) ?_
      refine lv_icmp_ge (tgt := 54) hx hb dX10_restIn_9 (by decide) (fun c => ?_) (fun c => ?_)
      · have hf := x_pos c hf
        exact K54 x3 x4 d hf _ _ ls (lv_sub hl [3, 4] rfl) G
      · have hf := x_neg c hf
        refine lv_aload_n hx hb dX10_restIn_12 rfl (lv_at hl 0 rfl) ?_
        refine lv_iload_n hx hb dX10_restIn_13 rfl (lv_at hl 1 rfl) ?_
        refine lv_iload_n hx hb dX10_restIn_14 rfl (lv_at hl 2 rfl) ?_
        refine lv_iload hx hb dX10_restIn_15 (lv_at hl 5 rfl) ?_
        obtain ⟨z3, hz3, hf⟩ := x_ob hf
        obtain ⟨hqz3, hz3⟩ := xon_of hz3
        refine xr_callV (ci := 10) (As := [.int x1, .int x2, .int x5]) (rest := []) (st1 := [.int z3.1]) S G hl.1 (fun _ => rfl) (mt_X10_isRest l D cid b ex sa sv B0 sh q0 x1 x2 x5 d _ _ hz3) hqz3 (by decide) kw_1713 kw_1715 ks_94 kw_17 kw_1716 hd_X10_isRest ⟨Nat.le_of_ble_eq_true rfl, Nat.le_of_ble_eq_true rfl⟩ rfl rfl rfl (Nat.le_of_ble_eq_true rfl) ⟨Nat.le_of_ble_eq_true rfl, Nat.le_of_ble_eq_true rfl⟩ dX10_restIn_17 (fun H locs G => ?_)
        refine lv_if_ne (tgt := 26) hx hb dX10_restIn_20 (by decide) (fun c => ?_) (fun c => ?_)
        · have hf := x_neg c hf
          refine lv_iload hx hb dX10_restIn_26 (lv_at hl 4 rfl) ?_
          refine lv_iload_n hx hb dX10_restIn_28 rfl (lv_at hl 3 rfl) ?_
          refine lv_icmp_ne (tgt := 45) hx hb dX10_restIn_29 (by decide) (fun c => ?_) (fun c => ?_)
          · have hf := x_neg c hf
            refine lv_iinc (v := (x4 + 1)) (lv' := [(4, .int (x4 + 1)), (0, .ref (b + q0)), (1, .int x1), (2, .int x2), (3, .int x3), (5, .int x5)]) hx hb dX10_restIn_45 hl (k := 4) rfl rfl (by decide) rfl (fun ls hl => ?_)
            exact K48 _ hrec6 q0 x1 x2 x3 (x4 + 1) x5 z3.2 hf _ _ ls (lv_sub hl [1, 2, 3, 4, 0, 5] rfl) G
          · have hf := x_pos c hf
            exact K32 x5 z3.2 hf _ _ ls (lv_sub hl [5] rfl) G
        · have hf := x_pos c hf
          refine lv_goto (tgt := 48) hx hb dX10_restIn_23 (by decide) ?_
          exact K48 _ hrec6 q0 x1 x2 x3 x4 x5 z3.2 hf _ _ ls (lv_sub hl [0, 1, 2, 3, 4, 5] rfl) G
  unfold f_X10_restIn at hf
  refine lv_iconst (v := (0 : Int32)) hx hb dX10_restIn_0 (by decide) ?_
  refine lv_istore (lv' := [(4, .int (0 : Int32)), (0, .ref (b + q0)), (1, .int x1), (2, .int x2), (3, .int x3)]) hx hb dX10_restIn_1 hl (by decide) rfl (fun ls hl => ?_)
  refine lv_iconst (v := (0 : Int32)) hx hb dX10_restIn_3 (by decide) ?_
  refine lv_istore (lv' := [(5, .int (0 : Int32)), (4, .int (0 : Int32)), (0, .ref (b + q0)), (1, .int x1), (2, .int x2), (3, .int x3)]) hx hb dX10_restIn_4 hl (by decide) rfl (fun ls hl => ?_)
  exact K6 xF q0 x1 x2 x3 (0 : Int32) (0 : Int32) d hf _ _ ls (lv_sub hl [2, 3, 4, 5, 1, 0] rfl) G
-- HalfLandingsModel.rests(II)I
theorem dX10_rests_0 : decode cX10_rests 0 = .ok (.aload_n 0, 1) := by decide +kernel
theorem dX10_rests_1 : decode cX10_rests 1 = .ok (.iconst 0, 1) := by decide +kernel
theorem dX10_rests_2 : decode cX10_rests 2 = .ok (.putfield 145, 3) := by decide +kernel
theorem dX10_rests_5 : decode cX10_rests 5 = .ok (.aload_n 0, 1) := by decide +kernel
theorem dX10_rests_6 : decode cX10_rests 6 = .ok (.iload_n 1, 1) := by decide +kernel
theorem dX10_rests_7 : decode cX10_rests 7 = .ok (.iload_n 2, 1) := by decide +kernel
theorem dX10_rests_8 : decode cX10_rests 8 = .ok (.invokevirtual 448, 3) := by decide +kernel
theorem dX10_rests_11 : decode cX10_rests 11 = .ok (.ifCond .eq 13, 3) := by decide +kernel
theorem dX10_rests_14 : decode cX10_rests 14 = .ok (.aload_n 0, 1) := by decide +kernel
theorem dX10_rests_15 : decode cX10_rests 15 = .ok (.iload_n 1, 1) := by decide +kernel
theorem dX10_rests_16 : decode cX10_rests 16 = .ok (.iload_n 2, 1) := by decide +kernel
theorem dX10_rests_17 : decode cX10_rests 17 = .ok (.iconst (-1), 1) := by decide +kernel
theorem dX10_rests_18 : decode cX10_rests 18 = .ok (.invokevirtual 464, 3) := by decide +kernel
theorem dX10_rests_21 : decode cX10_rests 21 = .ok (.goto 4, 3) := by decide +kernel
theorem dX10_rests_24 : decode cX10_rests 24 = .ok (.iconst (-1), 1) := by decide +kernel
theorem dX10_rests_25 : decode cX10_rests 25 = .ok (.ireturn, 1) := by decide +kernel
theorem hd_X10_rests : yX10_rests.cls = xCn 10 ∧ yX10_rests.cls ≠ "java/lang/invoke/MethodHandle" ∧ yX10_rests.cls ≠ "java/lang/invoke/VarHandle" ∧ (parseMethodDescriptor yX10_rests.desc).map (fun d => d.parameters.length) = some 2 := by decide +kernel
def k_X10_rests_25 (sh : List xSh) (y0 : Int32) (d : xD) : Option (Int32 × xD) :=
  some (y0, d)
def f_X10_rests (sh : List xSh) (q0 : Nat) (x1 : Int32) (x2 : Int32) (d : xD) : Option (Int32 × xD) :=
  (xpI 10 sh d q0 0 (0 : Int32)).bind fun d1 => (xon 10 sh q0 (f_X10_areTwo sh q0 x1 x2 d1)).bind fun z2 => if z2.1 = 0 then (k_X10_rests_25 sh (-1 : Int32) z2.2) else ((xon 10 sh q0 (f_X10_restIn sh q0 x1 x2 (-1 : Int32) z2.2)).bind fun z3 => k_X10_rests_25 sh z3.1 z3.2)
set_option maxHeartbeats 4000000 in
set_option maxRecDepth 100000 in
theorem mt_X10_rests (l : Launch) (D : va_G) (cid : FieldType → ClassId) (b : Nat) (ex : Bool) (sa sv B0 : Nat) (sh : List xSh) (q0 : Nat) (x1 : Int32) (x2 : Int32) (d : xD) (r : Int32) (dz : xD) (hf : f_X10_rests sh q0 x1 x2 d = some (r, dz)) : xMet l yX10_rests cX10_rests 3 (some .int) 3 0 0 D cid b ex sa sv B0 [.ref (b + q0), .int x1, .int x2] sh d (some (.int r)) sh dz := by
  refine xMet.of (by decide) (Nat.le_of_ble_eq_true rfl) ?_
  intro p e s m below meth c ls A S hr hin G hl
  have hl : lv_has ls 3 [(0, .ref (b + q0)), (1, .int x1), (2, .int x2)] := hl
  generalize ([.ref (b + q0), .int x1, .int x2] : List Value).toArray = av at S ⊢
  have hx := S.1
  have hb := S.2.1
  have hml := S.2.2.1
  have hown := S.2.2.2.1
  have hts := S.2.2.2.2.1
  have K25 : ∀ (y0 : Int32) (d : xD), k_X10_rests_25 sh y0 d = some (r, dz) → ∀ (H : Heap) (locs : List Loc) (ls : Array Slot), lv_has ls 3 [] → xG D cid b A sh d s H locs → W p l e (xRm 3 0 0) s m av below meth c H locs 0 0 (MQ below (xQ D cid b ex A (some (.int r)) sh dz) av s 0 0 A) (F0 m 25 ls [.int y0]) := by
    intro y0 d hf H locs ls hl G
    unfold k_X10_rests_25 at hf
    cases hf
    exact xr_iret S G (fun _ => rfl) hr dX10_rests_25
  unfold f_X10_rests at hf
  refine lv_aload_n hx hb dX10_rests_0 rfl (lv_at hl 0 rfl) ?_
  refine lv_iconst (v := (0 : Int32)) hx hb dX10_rests_1 (by decide) ?_
  obtain ⟨d1, hd1, hf⟩ := x_ob hf
  refine xr_putI (ci := 10) (k := 0) S G hd1 rfl kw_1168 dX10_rests_2 (fun H locs G => ?_)
  refine lv_aload_n hx hb dX10_rests_5 rfl (lv_at hl 0 rfl) ?_
  refine lv_iload_n hx hb dX10_rests_6 rfl (lv_at hl 1 rfl) ?_
  refine lv_iload_n hx hb dX10_rests_7 rfl (lv_at hl 2 rfl) ?_
  obtain ⟨z2, hz2, hf⟩ := x_ob hf
  obtain ⟨hqz2, hz2⟩ := xon_of hz2
  refine xr_callV (ci := 10) (As := [.int x1, .int x2]) (rest := []) (st1 := [.int z2.1]) S G hl.1 (fun _ => rfl) (mt_X10_areTwo l D cid b ex sa sv B0 sh q0 x1 x2 d1 _ _ hz2) hqz2 (by decide) kw_1673 kw_1675 ks_90 kw_17 kw_1676 hd_X10_areTwo ⟨Nat.le_of_ble_eq_true rfl, Nat.le_of_ble_eq_true rfl⟩ rfl rfl rfl (Nat.le_of_ble_eq_true rfl) ⟨Nat.le_of_ble_eq_true rfl, Nat.le_of_ble_eq_true rfl⟩ dX10_rests_8 (fun H locs G => ?_)
  refine lv_if_eq (tgt := 24) hx hb dX10_rests_11 (by decide) (fun c => ?_) (fun c => ?_)
  · have hf := x_pos c hf
    refine lv_iconst (v := (-1 : Int32)) hx hb dX10_rests_24 (by decide) ?_
    exact K25 (-1 : Int32) z2.2 hf _ _ ls (lv_sub hl [] rfl) G
  · have hf := x_neg c hf
    refine lv_aload_n hx hb dX10_rests_14 rfl (lv_at hl 0 rfl) ?_
    refine lv_iload_n hx hb dX10_rests_15 rfl (lv_at hl 1 rfl) ?_
    refine lv_iload_n hx hb dX10_rests_16 rfl (lv_at hl 2 rfl) ?_
    refine lv_iconst (v := (-1 : Int32)) hx hb dX10_rests_17 (by decide) ?_
    obtain ⟨z3, hz3, hf⟩ := x_ob hf
    obtain ⟨hqz3, hz3⟩ := xon_of hz3
    refine xr_callV (ci := 10) (As := [.int x1, .int x2, .int (-1 : Int32)]) (rest := []) (st1 := [.int z3.1]) S G hl.1 (fun _ => rfl) (mt_X10_restIn l D cid b ex sa sv B0 sh q0 x1 x2 (-1 : Int32) z2.2 _ _ hz3) hqz3 (by decide) kw_1709 kw_1711 ks_93 kw_17 kw_1712 hd_X10_restIn ⟨Nat.le_of_ble_eq_true rfl, Nat.le_of_ble_eq_true rfl⟩ rfl rfl rfl (Nat.le_of_ble_eq_true rfl) ⟨Nat.le_of_ble_eq_true rfl, Nat.le_of_ble_eq_true rfl⟩ dX10_rests_18 (fun H locs G => ?_)
    refine lv_goto (tgt := 25) hx hb dX10_rests_21 (by decide) ?_
    exact K25 z3.1 z3.2 hf _ _ ls (lv_sub hl [] rfl) G
-- HalfLandingsModel.rest(III)I
theorem dX10_rest_0 : decode cX10_rest 0 = .ok (.aload_n 0, 1) := by decide +kernel
theorem dX10_rest_1 : decode cX10_rest 1 = .ok (.iconst 0, 1) := by decide +kernel
theorem dX10_rest_2 : decode cX10_rest 2 = .ok (.putfield 145, 3) := by decide +kernel
theorem dX10_rest_5 : decode cX10_rest 5 = .ok (.aload_n 0, 1) := by decide +kernel
theorem dX10_rest_6 : decode cX10_rest 6 = .ok (.iload_n 1, 1) := by decide +kernel
theorem dX10_rest_7 : decode cX10_rest 7 = .ok (.iload_n 2, 1) := by decide +kernel
theorem dX10_rest_8 : decode cX10_rest 8 = .ok (.invokevirtual 448, 3) := by decide +kernel
theorem dX10_rest_11 : decode cX10_rest 11 = .ok (.ifCond .eq 17, 3) := by decide +kernel
theorem dX10_rest_14 : decode cX10_rest 14 = .ok (.iload_n 3, 1) := by decide +kernel
theorem dX10_rest_15 : decode cX10_rest 15 = .ok (.ifCond .lt 13, 3) := by decide +kernel
theorem dX10_rest_18 : decode cX10_rest 18 = .ok (.aload_n 0, 1) := by decide +kernel
theorem dX10_rest_19 : decode cX10_rest 19 = .ok (.iload_n 1, 1) := by decide +kernel
theorem dX10_rest_20 : decode cX10_rest 20 = .ok (.iload_n 2, 1) := by decide +kernel
theorem dX10_rest_21 : decode cX10_rest 21 = .ok (.iload_n 3, 1) := by decide +kernel
theorem dX10_rest_22 : decode cX10_rest 22 = .ok (.invokevirtual 464, 3) := by decide +kernel
theorem dX10_rest_25 : decode cX10_rest 25 = .ok (.goto 4, 3) := by decide +kernel
theorem dX10_rest_28 : decode cX10_rest 28 = .ok (.iconst (-1), 1) := by decide +kernel
theorem dX10_rest_29 : decode cX10_rest 29 = .ok (.ireturn, 1) := by decide +kernel
theorem hd_X10_rest : yX10_rest.cls = xCn 10 ∧ yX10_rest.cls ≠ "java/lang/invoke/MethodHandle" ∧ yX10_rest.cls ≠ "java/lang/invoke/VarHandle" ∧ (parseMethodDescriptor yX10_rest.desc).map (fun d => d.parameters.length) = some 3 := by decide +kernel
def k_X10_rest_29 (sh : List xSh) (y0 : Int32) (d : xD) : Option (Int32 × xD) :=
  some (y0, d)
def k_X10_rest_28 (sh : List xSh) (d : xD) : Option (Int32 × xD) :=
  k_X10_rest_29 sh (-1 : Int32) d
def f_X10_rest (sh : List xSh) (q0 : Nat) (x1 : Int32) (x2 : Int32) (x3 : Int32) (d : xD) : Option (Int32 × xD) :=
  (xpI 10 sh d q0 0 (0 : Int32)).bind fun d1 => (xon 10 sh q0 (f_X10_areTwo sh q0 x1 x2 d1)).bind fun z2 => if z2.1 = 0 then (k_X10_rest_28 sh z2.2) else (if x3 < 0 then (k_X10_rest_28 sh z2.2) else ((xon 10 sh q0 (f_X10_restIn sh q0 x1 x2 x3 z2.2)).bind fun z3 => k_X10_rest_29 sh z3.1 z3.2))
set_option maxHeartbeats 4000000 in
set_option maxRecDepth 100000 in
theorem mt_X10_rest (l : Launch) (D : va_G) (cid : FieldType → ClassId) (b : Nat) (ex : Bool) (sa sv B0 : Nat) (sh : List xSh) (q0 : Nat) (x1 : Int32) (x2 : Int32) (x3 : Int32) (d : xD) (r : Int32) (dz : xD) (hf : f_X10_rest sh q0 x1 x2 x3 d = some (r, dz)) : xMet l yX10_rest cX10_rest 4 (some .int) 3 0 0 D cid b ex sa sv B0 [.ref (b + q0), .int x1, .int x2, .int x3] sh d (some (.int r)) sh dz := by
  refine xMet.of (by decide) (Nat.le_of_ble_eq_true rfl) ?_
  intro p e s m below meth c ls A S hr hin G hl
  have hl : lv_has ls 4 [(0, .ref (b + q0)), (1, .int x1), (2, .int x2), (3, .int x3)] := hl
  generalize ([.ref (b + q0), .int x1, .int x2, .int x3] : List Value).toArray = av at S ⊢
  have hx := S.1
  have hb := S.2.1
  have hml := S.2.2.1
  have hown := S.2.2.2.1
  have hts := S.2.2.2.2.1
  have K29 : ∀ (y0 : Int32) (d : xD), k_X10_rest_29 sh y0 d = some (r, dz) → ∀ (H : Heap) (locs : List Loc) (ls : Array Slot), lv_has ls 4 [] → xG D cid b A sh d s H locs → W p l e (xRm 3 0 0) s m av below meth c H locs 0 0 (MQ below (xQ D cid b ex A (some (.int r)) sh dz) av s 0 0 A) (F0 m 29 ls [.int y0]) := by
    intro y0 d hf H locs ls hl G
    unfold k_X10_rest_29 at hf
    cases hf
    exact xr_iret S G (fun _ => rfl) hr dX10_rest_29
  have K28 : ∀ (d : xD), k_X10_rest_28 sh d = some (r, dz) → ∀ (H : Heap) (locs : List Loc) (ls : Array Slot), lv_has ls 4 [] → xG D cid b A sh d s H locs → W p l e (xRm 3 0 0) s m av below meth c H locs 0 0 (MQ below (xQ D cid b ex A (some (.int r)) sh dz) av s 0 0 A) (F0 m 28 ls []) := by
    intro d hf H locs ls hl G
    unfold k_X10_rest_28 at hf
    refine lv_iconst (v := (-1 : Int32)) hx hb dX10_rest_28 (by decide) ?_
    exact K29 (-1 : Int32) d hf _ _ ls (lv_sub hl [] rfl) G
  unfold f_X10_rest at hf
  refine lv_aload_n hx hb dX10_rest_0 rfl (lv_at hl 0 rfl) ?_
  refine lv_iconst (v := (0 : Int32)) hx hb dX10_rest_1 (by decide) ?_
  obtain ⟨d1, hd1, hf⟩ := x_ob hf
  refine xr_putI (ci := 10) (k := 0) S G hd1 rfl kw_1168 dX10_rest_2 (fun H locs G => ?_)
  refine lv_aload_n hx hb dX10_rest_5 rfl (lv_at hl 0 rfl) ?_
  refine lv_iload_n hx hb dX10_rest_6 rfl (lv_at hl 1 rfl) ?_
  refine lv_iload_n hx hb dX10_rest_7 rfl (lv_at hl 2 rfl) ?_
  obtain ⟨z2, hz2, hf⟩ := x_ob hf
  obtain ⟨hqz2, hz2⟩ := xon_of hz2
  refine xr_callV (ci := 10) (As := [.int x1, .int x2]) (rest := []) (st1 := [.int z2.1]) S G hl.1 (fun _ => rfl) (mt_X10_areTwo l D cid b ex sa sv B0 sh q0 x1 x2 d1 _ _ hz2) hqz2 (by decide) kw_1673 kw_1675 ks_90 kw_17 kw_1676 hd_X10_areTwo ⟨Nat.le_of_ble_eq_true rfl, Nat.le_of_ble_eq_true rfl⟩ rfl rfl rfl (Nat.le_of_ble_eq_true rfl) ⟨Nat.le_of_ble_eq_true rfl, Nat.le_of_ble_eq_true rfl⟩ dX10_rest_8 (fun H locs G => ?_)
  refine lv_if_eq (tgt := 28) hx hb dX10_rest_11 (by decide) (fun c => ?_) (fun c => ?_)
  · have hf := x_pos c hf
    exact K28 z2.2 hf _ _ ls (lv_sub hl [] rfl) G
  · have hf := x_neg c hf
    refine lv_iload_n hx hb dX10_rest_14 rfl (lv_at hl 3 rfl) ?_
    refine lv_if_lt (tgt := 28) hx hb dX10_rest_15 (by decide) (fun c => ?_) (fun c => ?_)
    · have hf := x_pos c hf
      exact K28 z2.2 hf _ _ ls (lv_sub hl [] rfl) G
    · have hf := x_neg c hf
      refine lv_aload_n hx hb dX10_rest_18 rfl (lv_at hl 0 rfl) ?_
      refine lv_iload_n hx hb dX10_rest_19 rfl (lv_at hl 1 rfl) ?_
      refine lv_iload_n hx hb dX10_rest_20 rfl (lv_at hl 2 rfl) ?_
      refine lv_iload_n hx hb dX10_rest_21 rfl (lv_at hl 3 rfl) ?_
      obtain ⟨z3, hz3, hf⟩ := x_ob hf
      obtain ⟨hqz3, hz3⟩ := xon_of hz3
      refine xr_callV (ci := 10) (As := [.int x1, .int x2, .int x3]) (rest := []) (st1 := [.int z3.1]) S G hl.1 (fun _ => rfl) (mt_X10_restIn l D cid b ex sa sv B0 sh q0 x1 x2 x3 z2.2 _ _ hz3) hqz3 (by decide) kw_1709 kw_1711 ks_93 kw_17 kw_1712 hd_X10_restIn ⟨Nat.le_of_ble_eq_true rfl, Nat.le_of_ble_eq_true rfl⟩ rfl rfl rfl (Nat.le_of_ble_eq_true rfl) ⟨Nat.le_of_ble_eq_true rfl, Nat.le_of_ble_eq_true rfl⟩ dX10_rest_22 (fun H locs G => ?_)
      refine lv_goto (tgt := 29) hx hb dX10_rest_25 (by decide) ?_
      exact K29 z3.1 z3.2 hf _ _ ls (lv_sub hl [] rfl) G
-- HalfLandingsModel.common(JJ)J
theorem dX10_common_0 : decode cX10_common 0 = .ok (.lload_n 0, 1) := by decide +kernel
theorem dX10_common_1 : decode cX10_common 1 = .ok (.lstore 4, 2) := by decide +kernel
theorem dX10_common_3 : decode cX10_common 3 = .ok (.lload_n 2, 1) := by decide +kernel
theorem dX10_common_4 : decode cX10_common 4 = .ok (.lstore 6, 2) := by decide +kernel
theorem dX10_common_6 : decode cX10_common 6 = .ok (.lload 6, 2) := by decide +kernel
theorem dX10_common_8 : decode cX10_common 8 = .ok (.lconst 0, 1) := by decide +kernel
theorem dX10_common_9 : decode cX10_common 9 = .ok (.lcmp, 1) := by decide +kernel
theorem dX10_common_10 : decode cX10_common 10 = .ok (.ifCond .eq 21, 3) := by decide +kernel
theorem dX10_common_13 : decode cX10_common 13 = .ok (.lload 4, 2) := by decide +kernel
theorem dX10_common_15 : decode cX10_common 15 = .ok (.lload 6, 2) := by decide +kernel
theorem dX10_common_17 : decode cX10_common 17 = .ok (.lrem, 1) := by decide +kernel
theorem dX10_common_18 : decode cX10_common 18 = .ok (.lstore 8, 2) := by decide +kernel
theorem dX10_common_20 : decode cX10_common 20 = .ok (.lload 6, 2) := by decide +kernel
theorem dX10_common_22 : decode cX10_common 22 = .ok (.lstore 4, 2) := by decide +kernel
theorem dX10_common_24 : decode cX10_common 24 = .ok (.lload 8, 2) := by decide +kernel
theorem dX10_common_26 : decode cX10_common 26 = .ok (.lstore 6, 2) := by decide +kernel
theorem dX10_common_28 : decode cX10_common 28 = .ok (.goto (-22), 3) := by decide +kernel
theorem dX10_common_31 : decode cX10_common 31 = .ok (.lload 4, 2) := by decide +kernel
theorem dX10_common_33 : decode cX10_common 33 = .ok (.lreturn, 1) := by decide +kernel
theorem hd_X10_common : yX10_common.cls ≠ "java/lang/invoke/MethodHandle" ∧ yX10_common.cls ≠ "java/lang/invoke/VarHandle" ∧ (parseMethodDescriptor yX10_common.desc).map (fun d => d.parameters.length) = some 2 := by decide +kernel
def k_X10_common_31 (sh : List xSh) (x4 : Int64) (d : xD) : Option (Int64 × xD) :=
  some (x4, d)
def b_X10_common_6 (sh : List xSh) (rec6 : Int64 → Int64 → xD → Option (Int64 × xD)) (x4 : Int64) (x6 : Int64) (d : xD) : Option (Int64 × xD) :=
  if (lg_cmp x6 (0 : Int64)) = 0 then (k_X10_common_31 sh x4 d) else ((xmL x4 x6).bind fun v1 => rec6 x6 v1 d)
def f_X10_common (sh : List xSh) (x0 : Int64) (x2 : Int64) (d : xD) : Option (Int64 × xD) :=
  xloop (fun _ _ _ => none) (b_X10_common_6 sh) xF x0 x2 d
set_option maxHeartbeats 4000000 in
set_option maxRecDepth 100000 in
theorem mt_X10_common (l : Launch) (D : va_G) (cid : FieldType → ClassId) (b : Nat) (ex : Bool) (sa sv B0 : Nat) (sh : List xSh) (x0 : Int64) (x2 : Int64) (d : xD) (r : Int64) (dz : xD) (hf : f_X10_common sh x0 x2 d = some (r, dz)) : xMet l yX10_common cX10_common 10 (some .long) 0 0 0 D cid b ex sa sv B0 [.long x0, .long x2] sh d (some (.long r)) sh dz := by
  refine xMet.of (by decide) (Nat.le_of_ble_eq_true rfl) ?_
  intro p e s m below meth c ls A S hr hin G hl
  have hl : lv_has ls 10 [(0, .long x0), (2, .long x2)] := hl
  generalize ([.long x0, .long x2] : List Value).toArray = av at S ⊢
  have hx := S.1
  have hb := S.2.1
  have hml := S.2.2.1
  have hown := S.2.2.2.1
  have hts := S.2.2.2.2.1
  have K31 : ∀ (x4 : Int64) (d : xD), k_X10_common_31 sh x4 d = some (r, dz) → ∀ (H : Heap) (locs : List Loc) (ls : Array Slot), lv_has ls 10 [(4, .long x4)] → xG D cid b A sh d s H locs → W p l e (xRm 0 0 0) s m av below meth c H locs 0 0 (MQ below (xQ D cid b ex A (some (.long r)) sh dz) av s 0 0 A) (F0 m 31 ls []) := by
    intro x4 d hf H locs ls hl G
    unfold k_X10_common_31 at hf
    refine lv_lload hx hb dX10_common_31 (lv_at hl 0 rfl) ?_
    cases hf
    exact xr_lret S G (fun _ => rfl) hr dX10_common_33
  have K6 : ∀ (n : Nat) (x4 : Int64) (x6 : Int64) (d : xD), xloop (fun _ _ _ => none) (b_X10_common_6 sh) n x4 x6 d = some (r, dz) → ∀ (H : Heap) (locs : List Loc) (ls : Array Slot), lv_has ls 10 [(4, .long x4), (6, .long x6)] → xG D cid b A sh d s H locs → W p l e (xRm 0 0 0) s m av below meth c H locs 0 0 (MQ below (xQ D cid b ex A (some (.long r)) sh dz) av s 0 0 A) (F0 m 6 ls []) := by
    intro n
    induction n with
    | zero =>
      intro x4 x6 d hf
      have hf : (none : Option (Int64 × xD)) = some (r, dz) := hf
      cases hf
    | succ n hrec6 =>
      intro x4 x6 d hf H locs ls hl G
      have hf : b_X10_common_6 sh (xloop (fun _ _ _ => none) (b_X10_common_6 sh) n) x4 x6 d = some (r, dz) := hf
      unfold b_X10_common_6 at hf
      refine lv_lload hx hb dX10_common_6 (lv_at hl 1 rfl) ?_
      refine lv_lconst (v := (0 : Int64)) hx hb dX10_common_8 (by decide) ?_
      refine W.lcmp hx hb dX10_common_9 ?_
      refine lv_if_eq (tgt := 31) hx hb dX10_common_10 (by decide) (fun c => ?_) (fun c => ?_)
      · have hf := x_pos c hf
        exact K31 x4 d hf _ _ ls (lv_sub hl [0] rfl) G
      · have hf := x_neg c hf
        refine lv_lload hx hb dX10_common_13 (lv_at hl 0 rfl) ?_
        refine lv_lload hx hb dX10_common_15 (lv_at hl 1 rfl) ?_
        obtain ⟨v1, hv1, hf⟩ := x_ob hf
        refine xr_lrem hx hb hv1 dX10_common_17 ?_
        refine lv_lstore (lv' := [(8, .long v1), (4, .long x4), (6, .long x6)]) hx hb dX10_common_18 hl (by decide) rfl (fun ls hl => ?_)
        refine lv_lload hx hb dX10_common_20 (lv_at hl 2 rfl) ?_
        refine lv_lstore (lv' := [(4, .long x6), (8, .long v1), (6, .long x6)]) hx hb dX10_common_22 hl (by decide) rfl (fun ls hl => ?_)
        refine lv_lload hx hb dX10_common_24 (lv_at hl 1 rfl) ?_
        refine lv_lstore (lv' := [(6, .long v1), (4, .long x6), (8, .long v1)]) hx hb dX10_common_26 hl (by decide) rfl (fun ls hl => ?_)
        refine lv_goto (tgt := 6) hx hb dX10_common_28 (by decide) ?_
        exact hrec6 x6 v1 d hf _ _ ls (lv_sub hl [1, 0] rfl) G
  unfold f_X10_common at hf
  refine lv_lload_n hx hb dX10_common_0 rfl (lv_at hl 0 rfl) ?_
  refine lv_lstore (lv' := [(4, .long x0), (0, .long x0), (2, .long x2)]) hx hb dX10_common_1 hl (by decide) rfl (fun ls hl => ?_)
  refine lv_lload_n hx hb dX10_common_3 rfl (lv_at hl 2 rfl) ?_
  refine lv_lstore (lv' := [(6, .long x2), (4, .long x0), (0, .long x0), (2, .long x2)]) hx hb dX10_common_4 hl (by decide) rfl (fun ls hl => ?_)
  exact K6 xF x0 x2 d hf _ _ ls (lv_sub hl [1, 0] rfl) G
-- HalfLandingsModel.quiet(II)J
theorem dX10_quiet_0 : decode cX10_quiet 0 = .ok (.aload_n 0, 1) := by decide +kernel
theorem dX10_quiet_1 : decode cX10_quiet 1 = .ok (.iconst 0, 1) := by decide +kernel
theorem dX10_quiet_2 : decode cX10_quiet 2 = .ok (.putfield 145, 3) := by decide +kernel
theorem dX10_quiet_5 : decode cX10_quiet 5 = .ok (.iload_n 1, 1) := by decide +kernel
theorem dX10_quiet_6 : decode cX10_quiet 6 = .ok (.ifCond .lt 18, 3) := by decide +kernel
theorem dX10_quiet_9 : decode cX10_quiet 9 = .ok (.iload_n 1, 1) := by decide +kernel
theorem dX10_quiet_10 : decode cX10_quiet 10 = .ok (.bipush 6, 2) := by decide +kernel
theorem dX10_quiet_12 : decode cX10_quiet 12 = .ok (.if_icmp .gt 12, 3) := by decide +kernel
theorem dX10_quiet_15 : decode cX10_quiet 15 = .ok (.iload_n 2, 1) := by decide +kernel
theorem dX10_quiet_16 : decode cX10_quiet 16 = .ok (.ifCond .lt 8, 3) := by decide +kernel
theorem dX10_quiet_19 : decode cX10_quiet 19 = .ok (.iload_n 2, 1) := by decide +kernel
theorem dX10_quiet_20 : decode cX10_quiet 20 = .ok (.iconst 1, 1) := by decide +kernel
theorem dX10_quiet_21 : decode cX10_quiet 21 = .ok (.if_icmp .le 7, 3) := by decide +kernel
theorem dX10_quiet_24 : decode cX10_quiet 24 = .ok (.ldc2_w 467, 3) := by decide +kernel
theorem dX10_quiet_27 : decode cX10_quiet 27 = .ok (.lreturn, 1) := by decide +kernel
theorem dX10_quiet_28 : decode cX10_quiet 28 = .ok (.lconst 1, 1) := by decide +kernel
theorem dX10_quiet_29 : decode cX10_quiet 29 = .ok (.lstore_n 3, 1) := by decide +kernel
theorem dX10_quiet_30 : decode cX10_quiet 30 = .ok (.lconst 1, 1) := by decide +kernel
theorem dX10_quiet_31 : decode cX10_quiet 31 = .ok (.lstore 5, 2) := by decide +kernel
theorem dX10_quiet_33 : decode cX10_quiet 33 = .ok (.iconst 0, 1) := by decide +kernel
theorem dX10_quiet_34 : decode cX10_quiet 34 = .ok (.istore 7, 2) := by decide +kernel
theorem dX10_quiet_36 : decode cX10_quiet 36 = .ok (.iload 7, 2) := by decide +kernel
theorem dX10_quiet_38 : decode cX10_quiet 38 = .ok (.iload_n 1, 1) := by decide +kernel
theorem dX10_quiet_39 : decode cX10_quiet 39 = .ok (.if_icmp .ge 31, 3) := by decide +kernel
theorem dX10_quiet_42 : decode cX10_quiet 42 = .ok (.lload_n 3, 1) := by decide +kernel
theorem dX10_quiet_43 : decode cX10_quiet 43 = .ok (.ldc2_w 469, 3) := by decide +kernel
theorem dX10_quiet_46 : decode cX10_quiet 46 = .ok (.aload_n 0, 1) := by decide +kernel
theorem dX10_quiet_47 : decode cX10_quiet 47 = .ok (.getfield 13, 3) := by decide +kernel
theorem dX10_quiet_50 : decode cX10_quiet 50 = .ok (.iconst 5, 1) := by decide +kernel
theorem dX10_quiet_51 : decode cX10_quiet 51 = .ok (.iaload, 1) := by decide +kernel
theorem dX10_quiet_52 : decode cX10_quiet 52 = .ok (.i2l, 1) := by decide +kernel
theorem dX10_quiet_53 : decode cX10_quiet 53 = .ok (.lsub, 1) := by decide +kernel
theorem dX10_quiet_54 : decode cX10_quiet 54 = .ok (.lmul, 1) := by decide +kernel
theorem dX10_quiet_55 : decode cX10_quiet 55 = .ok (.lstore_n 3, 1) := by decide +kernel
theorem dX10_quiet_56 : decode cX10_quiet 56 = .ok (.lload 5, 2) := by decide +kernel
theorem dX10_quiet_58 : decode cX10_quiet 58 = .ok (.ldc2_w 469, 3) := by decide +kernel
theorem dX10_quiet_61 : decode cX10_quiet 61 = .ok (.lmul, 1) := by decide +kernel
theorem dX10_quiet_62 : decode cX10_quiet 62 = .ok (.lstore 5, 2) := by decide +kernel
theorem dX10_quiet_64 : decode cX10_quiet 64 = .ok (.iinc 7 1, 3) := by decide +kernel
theorem dX10_quiet_67 : decode cX10_quiet 67 = .ok (.goto (-31), 3) := by decide +kernel
theorem dX10_quiet_70 : decode cX10_quiet 70 = .ok (.lload_n 3, 1) := by decide +kernel
theorem dX10_quiet_71 : decode cX10_quiet 71 = .ok (.lload 5, 2) := by decide +kernel
theorem dX10_quiet_73 : decode cX10_quiet 73 = .ok (.invokestatic 471, 3) := by decide +kernel
theorem dX10_quiet_76 : decode cX10_quiet 76 = .ok (.lstore 7, 2) := by decide +kernel
theorem dX10_quiet_78 : decode cX10_quiet 78 = .ok (.iload_n 2, 1) := by decide +kernel
theorem dX10_quiet_79 : decode cX10_quiet 79 = .ok (.ifCond .ne 10, 3) := by decide +kernel
theorem dX10_quiet_82 : decode cX10_quiet 82 = .ok (.lload_n 3, 1) := by decide +kernel
theorem dX10_quiet_83 : decode cX10_quiet 83 = .ok (.lload 7, 2) := by decide +kernel
theorem dX10_quiet_85 : decode cX10_quiet 85 = .ok (.ldiv, 1) := by decide +kernel
theorem dX10_quiet_86 : decode cX10_quiet 86 = .ok (.goto 8, 3) := by decide +kernel
theorem dX10_quiet_89 : decode cX10_quiet 89 = .ok (.lload 5, 2) := by decide +kernel
theorem dX10_quiet_91 : decode cX10_quiet 91 = .ok (.lload 7, 2) := by decide +kernel
theorem dX10_quiet_93 : decode cX10_quiet 93 = .ok (.ldiv, 1) := by decide +kernel
theorem dX10_quiet_94 : decode cX10_quiet 94 = .ok (.lreturn, 1) := by decide +kernel
theorem hd_X10_quiet : yX10_quiet.cls = xCn 10 ∧ yX10_quiet.cls ≠ "java/lang/invoke/MethodHandle" ∧ yX10_quiet.cls ≠ "java/lang/invoke/VarHandle" ∧ (parseMethodDescriptor yX10_quiet.desc).map (fun d => d.parameters.length) = some 2 := by decide +kernel
def k_X10_quiet_24 (sh : List xSh) (d : xD) : Option (Int64 × xD) :=
  some ((-1 : Int64), d)
def k_X10_quiet_94 (sh : List xSh) (y0 : Int64) (d : xD) : Option (Int64 × xD) :=
  some (y0, d)
def k_X10_quiet_70 (sh : List xSh) (x2 : Int32) (x3 : Int64) (x5 : Int64) (d : xD) : Option (Int64 × xD) :=
  (f_X10_common sh x3 x5 d).bind fun z1 => if x2 = 0 then ((xdL x3 z1.1).bind fun v3 => k_X10_quiet_94 sh v3 z1.2) else ((xdL x5 z1.1).bind fun v2 => k_X10_quiet_94 sh v2 z1.2)
def b_X10_quiet_36 (sh : List xSh) (rec36 : Nat → Int32 → Int32 → Int64 → Int64 → Int32 → xD → Option (Int64 × xD)) (q0 : Nat) (x1 : Int32) (x2 : Int32) (x3 : Int64) (x5 : Int64) (x7 : Int32) (d : xD) : Option (Int64 × xD) :=
  if x1 ≤ x7 then (k_X10_quiet_70 sh x2 x3 x5 d) else ((xgR 10 sh d q0 3).bind fun v4 => (xaI .int sh d v4 (5 : Int32)).bind fun v5 => rec36 q0 x1 x2 (x3 * ((100 : Int64) - (v5).toInt64)) (x5 * (100 : Int64)) (x7 + 1) d)
def f_X10_quiet (sh : List xSh) (q0 : Nat) (x1 : Int32) (x2 : Int32) (d : xD) : Option (Int64 × xD) :=
  (xpI 10 sh d q0 0 (0 : Int32)).bind fun d6 => if x1 < 0 then (k_X10_quiet_24 sh d6) else (if (6 : Int32) < x1 then (k_X10_quiet_24 sh d6) else (if x2 < 0 then (k_X10_quiet_24 sh d6) else (if x2 ≤ (1 : Int32) then (xloop (fun _ _ _ _ _ _ _ => none) (b_X10_quiet_36 sh) xF q0 x1 x2 (1 : Int64) (1 : Int64) (0 : Int32) d6) else (k_X10_quiet_24 sh d6))))
set_option maxHeartbeats 4000000 in
set_option maxRecDepth 100000 in
theorem mt_X10_quiet (l : Launch) (D : va_G) (cid : FieldType → ClassId) (b : Nat) (ex : Bool) (sa sv B0 : Nat) (sh : List xSh) (q0 : Nat) (x1 : Int32) (x2 : Int32) (d : xD) (r : Int64) (dz : xD) (hf : f_X10_quiet sh q0 x1 x2 d = some (r, dz)) : xMet l yX10_quiet cX10_quiet 9 (some .long) 1 0 0 D cid b ex sa sv B0 [.ref (b + q0), .int x1, .int x2] sh d (some (.long r)) sh dz := by
  refine xMet.of (by decide) (Nat.le_of_ble_eq_true rfl) ?_
  intro p e s m below meth c ls A S hr hin G hl
  have hl : lv_has ls 9 [(0, .ref (b + q0)), (1, .int x1), (2, .int x2)] := hl
  generalize ([.ref (b + q0), .int x1, .int x2] : List Value).toArray = av at S ⊢
  have hx := S.1
  have hb := S.2.1
  have hml := S.2.2.1
  have hown := S.2.2.2.1
  have hts := S.2.2.2.2.1
  have K24 : ∀ (d : xD), k_X10_quiet_24 sh d = some (r, dz) → ∀ (H : Heap) (locs : List Loc) (ls : Array Slot), lv_has ls 9 [] → xG D cid b A sh d s H locs → W p l e (xRm 1 0 0) s m av below meth c H locs 0 0 (MQ below (xQ D cid b ex A (some (.long r)) sh dz) av s 0 0 A) (F0 m 24 ls []) := by
    intro d hf H locs ls hl G
    unfold k_X10_quiet_24 at hf
    refine lv_ldc2 (v := (-1 : Int64)) hx hb hown (hts _ kw_1729) dX10_quiet_24 ?_
    cases hf
    exact xr_lret S G (fun _ => rfl) hr dX10_quiet_27
  have K94 : ∀ (y0 : Int64) (d : xD), k_X10_quiet_94 sh y0 d = some (r, dz) → ∀ (H : Heap) (locs : List Loc) (ls : Array Slot), lv_has ls 9 [] → xG D cid b A sh d s H locs → W p l e (xRm 1 0 0) s m av below meth c H locs 0 0 (MQ below (xQ D cid b ex A (some (.long r)) sh dz) av s 0 0 A) (F0 m 94 ls [.long y0]) := by
    intro y0 d hf H locs ls hl G
    unfold k_X10_quiet_94 at hf
    cases hf
    exact xr_lret S G (fun _ => rfl) hr dX10_quiet_94
  have K70 : ∀ (x2 : Int32) (x3 : Int64) (x5 : Int64) (d : xD), k_X10_quiet_70 sh x2 x3 x5 d = some (r, dz) → ∀ (H : Heap) (locs : List Loc) (ls : Array Slot), lv_has ls 9 [(2, .int x2), (3, .long x3), (5, .long x5)] → xG D cid b A sh d s H locs → W p l e (xRm 1 0 0) s m av below meth c H locs 0 0 (MQ below (xQ D cid b ex A (some (.long r)) sh dz) av s 0 0 A) (F0 m 70 ls []) := by
    intro x2 x3 x5 d hf H locs ls hl G
    unfold k_X10_quiet_70 at hf
    refine lv_lload_n hx hb dX10_quiet_70 rfl (lv_at hl 1 rfl) ?_
    refine lv_lload hx hb dX10_quiet_71 (lv_at hl 2 rfl) ?_
    obtain ⟨z1, hz1, hf⟩ := x_ob hf
    refine xr_callS (As := [.long x3, .long x5]) (rest := []) (st1 := [.long z1.1]) S G hl.1 (fun _ => rfl) (mt_X10_common l D cid b ex sa sv B0 sh x3 x5 d _ _ hz1) kw_1731 kw_1732 kw_17 kw_1733 hd_X10_common ⟨Nat.le_of_ble_eq_true rfl, Nat.le_of_ble_eq_true rfl⟩ rfl rfl rfl (Nat.le_of_ble_eq_true rfl) ⟨Nat.le_of_ble_eq_true rfl, Nat.le_of_ble_eq_true rfl⟩ dX10_quiet_73 (fun H locs G => ?_)
    refine lv_lstore (lv' := [(7, .long z1.1), (2, .int x2), (3, .long x3), (5, .long x5)]) hx hb dX10_quiet_76 hl (by decide) rfl (fun ls hl => ?_)
    refine lv_iload_n hx hb dX10_quiet_78 rfl (lv_at hl 1 rfl) ?_
    refine lv_if_ne (tgt := 89) hx hb dX10_quiet_79 (by decide) (fun c => ?_) (fun c => ?_)
    · have hf := x_neg c hf
      refine lv_lload hx hb dX10_quiet_89 (lv_at hl 3 rfl) ?_
      refine lv_lload hx hb dX10_quiet_91 (lv_at hl 0 rfl) ?_
      obtain ⟨v2, hv2, hf⟩ := x_ob hf
      refine xr_ldiv hx hb hv2 dX10_quiet_93 ?_
      exact K94 v2 z1.2 hf _ _ ls (lv_sub hl [] rfl) G
    · have hf := x_pos c hf
      refine lv_lload_n hx hb dX10_quiet_82 rfl (lv_at hl 2 rfl) ?_
      refine lv_lload hx hb dX10_quiet_83 (lv_at hl 0 rfl) ?_
      obtain ⟨v3, hv3, hf⟩ := x_ob hf
      refine xr_ldiv hx hb hv3 dX10_quiet_85 ?_
      refine lv_goto (tgt := 94) hx hb dX10_quiet_86 (by decide) ?_
      exact K94 v3 z1.2 hf _ _ ls (lv_sub hl [] rfl) G
  have K36 : ∀ (n : Nat) (q0 : Nat) (x1 : Int32) (x2 : Int32) (x3 : Int64) (x5 : Int64) (x7 : Int32) (d : xD), xloop (fun _ _ _ _ _ _ _ => none) (b_X10_quiet_36 sh) n q0 x1 x2 x3 x5 x7 d = some (r, dz) → ∀ (H : Heap) (locs : List Loc) (ls : Array Slot), lv_has ls 9 [(0, .ref (b + q0)), (1, .int x1), (2, .int x2), (3, .long x3), (5, .long x5), (7, .int x7)] → xG D cid b A sh d s H locs → W p l e (xRm 1 0 0) s m av below meth c H locs 0 0 (MQ below (xQ D cid b ex A (some (.long r)) sh dz) av s 0 0 A) (F0 m 36 ls []) := by
    intro n
    induction n with
    | zero =>
      intro q0 x1 x2 x3 x5 x7 d hf
      have hf : (none : Option (Int64 × xD)) = some (r, dz) := hf
      cases hf
    | succ n hrec36 =>
      intro q0 x1 x2 x3 x5 x7 d hf H locs ls hl G
      have hf : b_X10_quiet_36 sh (xloop (fun _ _ _ _ _ _ _ => none) (b_X10_quiet_36 sh) n) q0 x1 x2 x3 x5 x7 d = some (r, dz) := hf
      unfold b_X10_quiet_36 at hf
      refine lv_iload hx hb dX10_quiet_36 (lv_at hl 5 rfl) ?_
      refine lv_iload_n hx hb dX10_quiet_38 rfl (lv_at hl 1 rfl) ?_
      refine lv_icmp_ge (tgt := 70) hx hb dX10_quiet_39 (by decide) (fun c => ?_) (fun c => ?_)
      · have hf := x_pos c hf
        exact K70 x2 x3 x5 d hf _ _ ls (lv_sub hl [2, 3, 4] rfl) G
      · have hf := x_neg c hf
        refine lv_lload_n hx hb dX10_quiet_42 rfl (lv_at hl 3 rfl) ?_
        refine lv_ldc2 (v := (100 : Int64)) hx hb hown (hts _ kw_1730) dX10_quiet_43 ?_
        refine lv_aload_n hx hb dX10_quiet_46 rfl (lv_at hl 0 rfl) ?_
        obtain ⟨v4, hv4, hf⟩ := x_ob hf
        refine xr_getR (ci := 10) (k := 3) S G hv4 rfl kw_1171 dX10_quiet_47 ?_
        refine lv_iconst (v := (5 : Int32)) hx hb dX10_quiet_50 (by decide) ?_
        obtain ⟨v5, hv5, hf⟩ := x_ob hf
        refine xr_iald S G hv5 dX10_quiet_51 ?_
        refine lv_i2l (v := (v5).toInt64) hx hb dX10_quiet_52 rfl ?_
        refine lv_lsub hx hb dX10_quiet_53 ?_
        refine lv_lmul hx hb dX10_quiet_54 ?_
        refine lv_lstore_n (lv' := [(3, .long (x3 * ((100 : Int64) - (v5).toInt64))), (0, .ref (b + q0)), (1, .int x1), (2, .int x2), (5, .long x5), (7, .int x7)]) hx hb dX10_quiet_55 rfl hl (by decide) rfl (fun ls hl => ?_)
        refine lv_lload hx hb dX10_quiet_56 (lv_at hl 4 rfl) ?_
        refine lv_ldc2 (v := (100 : Int64)) hx hb hown (hts _ kw_1730) dX10_quiet_58 ?_
        refine lv_lmul hx hb dX10_quiet_61 ?_
        refine lv_lstore (lv' := [(5, .long (x5 * (100 : Int64))), (3, .long (x3 * ((100 : Int64) - (v5).toInt64))), (0, .ref (b + q0)), (1, .int x1), (2, .int x2), (7, .int x7)]) hx hb dX10_quiet_62 hl (by decide) rfl (fun ls hl => ?_)
        refine lv_iinc (v := (x7 + 1)) (lv' := [(7, .int (x7 + 1)), (5, .long (x5 * (100 : Int64))), (3, .long (x3 * ((100 : Int64) - (v5).toInt64))), (0, .ref (b + q0)), (1, .int x1), (2, .int x2)]) hx hb dX10_quiet_64 hl (k := 5) rfl rfl (by decide) rfl (fun ls hl => ?_)
        refine lv_goto (tgt := 36) hx hb dX10_quiet_67 (by decide) ?_
        exact hrec36 q0 x1 x2 (x3 * ((100 : Int64) - (v5).toInt64)) (x5 * (100 : Int64)) (x7 + 1) d hf _ _ ls (lv_sub hl [3, 4, 5, 2, 1, 0] rfl) G
  unfold f_X10_quiet at hf
  refine lv_aload_n hx hb dX10_quiet_0 rfl (lv_at hl 0 rfl) ?_
  refine lv_iconst (v := (0 : Int32)) hx hb dX10_quiet_1 (by decide) ?_
  obtain ⟨d6, hd6, hf⟩ := x_ob hf
  refine xr_putI (ci := 10) (k := 0) S G hd6 rfl kw_1168 dX10_quiet_2 (fun H locs G => ?_)
  refine lv_iload_n hx hb dX10_quiet_5 rfl (lv_at hl 1 rfl) ?_
  refine lv_if_lt (tgt := 24) hx hb dX10_quiet_6 (by decide) (fun c => ?_) (fun c => ?_)
  · have hf := x_pos c hf
    exact K24 d6 hf _ _ ls (lv_sub hl [] rfl) G
  · have hf := x_neg c hf
    refine lv_iload_n hx hb dX10_quiet_9 rfl (lv_at hl 1 rfl) ?_
    refine lv_bipush (v := (6 : Int32)) hx hb dX10_quiet_10 (by decide) ?_
    refine lv_icmp_gt (tgt := 24) hx hb dX10_quiet_12 (by decide) (fun c => ?_) (fun c => ?_)
    · have hf := x_pos c hf
      exact K24 d6 hf _ _ ls (lv_sub hl [] rfl) G
    · have hf := x_neg c hf
      refine lv_iload_n hx hb dX10_quiet_15 rfl (lv_at hl 2 rfl) ?_
      refine lv_if_lt (tgt := 24) hx hb dX10_quiet_16 (by decide) (fun c => ?_) (fun c => ?_)
      · have hf := x_pos c hf
        exact K24 d6 hf _ _ ls (lv_sub hl [] rfl) G
      · have hf := x_neg c hf
        refine lv_iload_n hx hb dX10_quiet_19 rfl (lv_at hl 2 rfl) ?_
        refine lv_iconst (v := (1 : Int32)) hx hb dX10_quiet_20 (by decide) ?_
        refine lv_icmp_le (tgt := 28) hx hb dX10_quiet_21 (by decide) (fun c => ?_) (fun c => ?_)
        · have hf := x_pos c hf
          refine lv_lconst (v := (1 : Int64)) hx hb dX10_quiet_28 (by decide) ?_
          refine lv_lstore_n (lv' := [(3, .long (1 : Int64)), (0, .ref (b + q0)), (1, .int x1), (2, .int x2)]) hx hb dX10_quiet_29 rfl hl (by decide) rfl (fun ls hl => ?_)
          refine lv_lconst (v := (1 : Int64)) hx hb dX10_quiet_30 (by decide) ?_
          refine lv_lstore (lv' := [(5, .long (1 : Int64)), (3, .long (1 : Int64)), (0, .ref (b + q0)), (1, .int x1), (2, .int x2)]) hx hb dX10_quiet_31 hl (by decide) rfl (fun ls hl => ?_)
          refine lv_iconst (v := (0 : Int32)) hx hb dX10_quiet_33 (by decide) ?_
          refine lv_istore (lv' := [(7, .int (0 : Int32)), (5, .long (1 : Int64)), (3, .long (1 : Int64)), (0, .ref (b + q0)), (1, .int x1), (2, .int x2)]) hx hb dX10_quiet_34 hl (by decide) rfl (fun ls hl => ?_)
          exact K36 xF q0 x1 x2 (1 : Int64) (1 : Int64) (0 : Int32) d6 hf _ _ ls (lv_sub hl [3, 4, 5, 2, 1, 0] rfl) G
        · have hf := x_neg c hf
          exact K24 d6 hf _ _ ls (lv_sub hl [] rfl) G
-- HalfLandingsModel.see(IIIZ)I
theorem dX10_see_0 : decode cX10_see 0 = .ok (.aload_n 0, 1) := by decide +kernel
theorem dX10_see_1 : decode cX10_see 1 = .ok (.iconst 0, 1) := by decide +kernel
theorem dX10_see_2 : decode cX10_see 2 = .ok (.putfield 145, 3) := by decide +kernel
theorem dX10_see_5 : decode cX10_see 5 = .ok (.iload_n 1, 1) := by decide +kernel
theorem dX10_see_6 : decode cX10_see 6 = .ok (.iconst 1, 1) := by decide +kernel
theorem dX10_see_7 : decode cX10_see 7 = .ok (.if_icmp .lt 37, 3) := by decide +kernel
theorem dX10_see_10 : decode cX10_see 10 = .ok (.iload_n 1, 1) := by decide +kernel
theorem dX10_see_11 : decode cX10_see 11 = .ok (.bipush 60, 2) := by decide +kernel
theorem dX10_see_13 : decode cX10_see 13 = .ok (.if_icmp .gt 31, 3) := by decide +kernel
theorem dX10_see_16 : decode cX10_see 16 = .ok (.aload_n 0, 1) := by decide +kernel
theorem dX10_see_17 : decode cX10_see 17 = .ok (.iload_n 2, 1) := by decide +kernel
theorem dX10_see_18 : decode cX10_see 18 = .ok (.invokevirtual 422, 3) := by decide +kernel
theorem dX10_see_21 : decode cX10_see 21 = .ok (.ifCond .eq 23, 3) := by decide +kernel
theorem dX10_see_24 : decode cX10_see 24 = .ok (.iload_n 3, 1) := by decide +kernel
theorem dX10_see_25 : decode cX10_see 25 = .ok (.ifCond .lt 19, 3) := by decide +kernel
theorem dX10_see_28 : decode cX10_see 28 = .ok (.iload_n 3, 1) := by decide +kernel
theorem dX10_see_29 : decode cX10_see 29 = .ok (.sipush 9999, 3) := by decide +kernel
theorem dX10_see_32 : decode cX10_see 32 = .ok (.if_icmp .gt 12, 3) := by decide +kernel
theorem dX10_see_35 : decode cX10_see 35 = .ok (.aload_n 0, 1) := by decide +kernel
theorem dX10_see_36 : decode cX10_see 36 = .ok (.getfield 295, 3) := by decide +kernel
theorem dX10_see_39 : decode cX10_see 39 = .ok (.bipush 24, 2) := by decide +kernel
theorem dX10_see_41 : decode cX10_see 41 = .ok (.if_icmp .ne 5, 3) := by decide +kernel
theorem dX10_see_44 : decode cX10_see 44 = .ok (.iconst (-1), 1) := by decide +kernel
theorem dX10_see_45 : decode cX10_see 45 = .ok (.ireturn, 1) := by decide +kernel
theorem dX10_see_46 : decode cX10_see 46 = .ok (.aload_n 0, 1) := by decide +kernel
theorem dX10_see_47 : decode cX10_see 47 = .ok (.getfield 123, 3) := by decide +kernel
theorem dX10_see_50 : decode cX10_see 50 = .ok (.aload_n 0, 1) := by decide +kernel
theorem dX10_see_51 : decode cX10_see 51 = .ok (.getfield 295, 3) := by decide +kernel
theorem dX10_see_54 : decode cX10_see 54 = .ok (.iload_n 1, 1) := by decide +kernel
theorem dX10_see_55 : decode cX10_see 55 = .ok (.iastore, 1) := by decide +kernel
theorem dX10_see_56 : decode cX10_see 56 = .ok (.aload_n 0, 1) := by decide +kernel
theorem dX10_see_57 : decode cX10_see 57 = .ok (.getfield 126, 3) := by decide +kernel
theorem dX10_see_60 : decode cX10_see 60 = .ok (.aload_n 0, 1) := by decide +kernel
theorem dX10_see_61 : decode cX10_see 61 = .ok (.getfield 295, 3) := by decide +kernel
theorem dX10_see_64 : decode cX10_see 64 = .ok (.iload_n 2, 1) := by decide +kernel
theorem dX10_see_65 : decode cX10_see 65 = .ok (.iastore, 1) := by decide +kernel
theorem dX10_see_66 : decode cX10_see 66 = .ok (.aload_n 0, 1) := by decide +kernel
theorem dX10_see_67 : decode cX10_see 67 = .ok (.getfield 129, 3) := by decide +kernel
theorem dX10_see_70 : decode cX10_see 70 = .ok (.aload_n 0, 1) := by decide +kernel
theorem dX10_see_71 : decode cX10_see 71 = .ok (.getfield 295, 3) := by decide +kernel
theorem dX10_see_74 : decode cX10_see 74 = .ok (.iload_n 3, 1) := by decide +kernel
theorem dX10_see_75 : decode cX10_see 75 = .ok (.iastore, 1) := by decide +kernel
theorem dX10_see_76 : decode cX10_see 76 = .ok (.aload_n 0, 1) := by decide +kernel
theorem dX10_see_77 : decode cX10_see 77 = .ok (.getfield 132, 3) := by decide +kernel
theorem dX10_see_80 : decode cX10_see 80 = .ok (.aload_n 0, 1) := by decide +kernel
theorem dX10_see_81 : decode cX10_see 81 = .ok (.getfield 295, 3) := by decide +kernel
theorem dX10_see_84 : decode cX10_see 84 = .ok (.iload 4, 2) := by decide +kernel
theorem dX10_see_86 : decode cX10_see 86 = .ok (.bastore, 1) := by decide +kernel
theorem dX10_see_87 : decode cX10_see 87 = .ok (.aload_n 0, 1) := by decide +kernel
theorem dX10_see_88 : decode cX10_see 88 = .ok (.getfield 136, 3) := by decide +kernel
theorem dX10_see_91 : decode cX10_see 91 = .ok (.aload_n 0, 1) := by decide +kernel
theorem dX10_see_92 : decode cX10_see 92 = .ok (.getfield 295, 3) := by decide +kernel
theorem dX10_see_95 : decode cX10_see 95 = .ok (.iconst (-1), 1) := by decide +kernel
theorem dX10_see_96 : decode cX10_see 96 = .ok (.iastore, 1) := by decide +kernel
theorem dX10_see_97 : decode cX10_see 97 = .ok (.aload_n 0, 1) := by decide +kernel
theorem dX10_see_98 : decode cX10_see 98 = .ok (.dup, 1) := by decide +kernel
theorem dX10_see_99 : decode cX10_see 99 = .ok (.getfield 295, 3) := by decide +kernel
theorem dX10_see_102 : decode cX10_see 102 = .ok (.iconst 1, 1) := by decide +kernel
theorem dX10_see_103 : decode cX10_see 103 = .ok (.iadd, 1) := by decide +kernel
theorem dX10_see_104 : decode cX10_see 104 = .ok (.putfield 295, 3) := by decide +kernel
theorem dX10_see_107 : decode cX10_see 107 = .ok (.aload_n 0, 1) := by decide +kernel
theorem dX10_see_108 : decode cX10_see 108 = .ok (.getfield 295, 3) := by decide +kernel
theorem dX10_see_111 : decode cX10_see 111 = .ok (.iconst 1, 1) := by decide +kernel
theorem dX10_see_112 : decode cX10_see 112 = .ok (.isub, 1) := by decide +kernel
theorem dX10_see_113 : decode cX10_see 113 = .ok (.ireturn, 1) := by decide +kernel
theorem hd_X10_see : yX10_see.cls = xCn 10 ∧ yX10_see.cls ≠ "java/lang/invoke/MethodHandle" ∧ yX10_see.cls ≠ "java/lang/invoke/VarHandle" ∧ (parseMethodDescriptor yX10_see.desc).map (fun d => d.parameters.length) = some 4 := by decide +kernel
def k_X10_see_44 (sh : List xSh) (d : xD) : Option (Int32 × xD) :=
  some ((-1 : Int32), d)
def f_X10_see (sh : List xSh) (q0 : Nat) (x1 : Int32) (x2 : Int32) (x3 : Int32) (x4 : Int32) (d : xD) : Option (Int32 × xD) :=
  (xpI 10 sh d q0 0 (0 : Int32)).bind fun d1 => if x1 < (1 : Int32) then (k_X10_see_44 sh d1) else (if (60 : Int32) < x1 then (k_X10_see_44 sh d1) else ((xon 10 sh q0 (f_X10_isBench sh q0 x2 d1)).bind fun z2 => if z2.1 = 0 then (k_X10_see_44 sh z2.2) else (if x3 < 0 then (k_X10_see_44 sh z2.2) else (if (9999 : Int32) < x3 then (k_X10_see_44 sh z2.2) else ((xgI 10 sh z2.2 q0 57).bind fun v3 => if v3 = (24 : Int32) then (k_X10_see_44 sh z2.2) else ((xgR 10 sh z2.2 q0 59).bind fun v4 => (xgI 10 sh z2.2 q0 57).bind fun v5 => (xsI .int sh z2.2 v4 v5 x1).bind fun d6 => (xgR 10 sh d6 q0 60).bind fun v7 => (xgI 10 sh d6 q0 57).bind fun v8 => (xsI .int sh d6 v7 v8 x2).bind fun d9 => (xgR 10 sh d9 q0 61).bind fun v10 => (xgI 10 sh d9 q0 57).bind fun v11 => (xsI .int sh d9 v10 v11 x3).bind fun d12 => (xgR 10 sh d12 q0 62).bind fun v13 => (xgI 10 sh d12 q0 57).bind fun v14 => (xsI .boolean sh d12 v13 v14 x4).bind fun d15 => (xgR 10 sh d15 q0 63).bind fun v16 => (xgI 10 sh d15 q0 57).bind fun v17 => (xsI .int sh d15 v16 v17 (-1 : Int32)).bind fun d18 => (xgI 10 sh d18 q0 57).bind fun v19 => (xpI 10 sh d18 q0 57 (v19 + (1 : Int32))).bind fun d20 => (xgI 10 sh d20 q0 57).bind fun v21 => some ((v21 - (1 : Int32)), d20)))))))
set_option maxHeartbeats 4000000 in
set_option maxRecDepth 100000 in
theorem mt_X10_see (l : Launch) (D : va_G) (cid : FieldType → ClassId) (b : Nat) (ex : Bool) (sa sv B0 : Nat) (sh : List xSh) (q0 : Nat) (x1 : Int32) (x2 : Int32) (x3 : Int32) (x4 : Int32) (d : xD) (r : Int32) (dz : xD) (hf : f_X10_see sh q0 x1 x2 x3 x4 d = some (r, dz)) : xMet l yX10_see cX10_see 5 (some .int) 1 0 0 D cid b ex sa sv B0 [.ref (b + q0), .int x1, .int x2, .int x3, .int x4] sh d (some (.int r)) sh dz := by
  refine xMet.of (by decide) (Nat.le_of_ble_eq_true rfl) ?_
  intro p e s m below meth c ls A S hr hin G hl
  have hl : lv_has ls 5 [(0, .ref (b + q0)), (1, .int x1), (2, .int x2), (3, .int x3), (4, .int x4)] := hl
  generalize ([.ref (b + q0), .int x1, .int x2, .int x3, .int x4] : List Value).toArray = av at S ⊢
  have hx := S.1
  have hb := S.2.1
  have hml := S.2.2.1
  have hown := S.2.2.2.1
  have hts := S.2.2.2.2.1
  have K44 : ∀ (d : xD), k_X10_see_44 sh d = some (r, dz) → ∀ (H : Heap) (locs : List Loc) (ls : Array Slot), lv_has ls 5 [] → xG D cid b A sh d s H locs → W p l e (xRm 1 0 0) s m av below meth c H locs 0 0 (MQ below (xQ D cid b ex A (some (.int r)) sh dz) av s 0 0 A) (F0 m 44 ls []) := by
    intro d hf H locs ls hl G
    unfold k_X10_see_44 at hf
    refine lv_iconst (v := (-1 : Int32)) hx hb dX10_see_44 (by decide) ?_
    cases hf
    exact xr_iret S G (fun _ => rfl) hr dX10_see_45
  unfold f_X10_see at hf
  refine lv_aload_n hx hb dX10_see_0 rfl (lv_at hl 0 rfl) ?_
  refine lv_iconst (v := (0 : Int32)) hx hb dX10_see_1 (by decide) ?_
  obtain ⟨d1, hd1, hf⟩ := x_ob hf
  refine xr_putI (ci := 10) (k := 0) S G hd1 rfl kw_1168 dX10_see_2 (fun H locs G => ?_)
  refine lv_iload_n hx hb dX10_see_5 rfl (lv_at hl 1 rfl) ?_
  refine lv_iconst (v := (1 : Int32)) hx hb dX10_see_6 (by decide) ?_
  refine lv_icmp_lt (tgt := 44) hx hb dX10_see_7 (by decide) (fun c => ?_) (fun c => ?_)
  · have hf := x_pos c hf
    exact K44 d1 hf _ _ ls (lv_sub hl [] rfl) G
  · have hf := x_neg c hf
    refine lv_iload_n hx hb dX10_see_10 rfl (lv_at hl 1 rfl) ?_
    refine lv_bipush (v := (60 : Int32)) hx hb dX10_see_11 (by decide) ?_
    refine lv_icmp_gt (tgt := 44) hx hb dX10_see_13 (by decide) (fun c => ?_) (fun c => ?_)
    · have hf := x_pos c hf
      exact K44 d1 hf _ _ ls (lv_sub hl [] rfl) G
    · have hf := x_neg c hf
      refine lv_aload_n hx hb dX10_see_16 rfl (lv_at hl 0 rfl) ?_
      refine lv_iload_n hx hb dX10_see_17 rfl (lv_at hl 2 rfl) ?_
      obtain ⟨z2, hz2, hf⟩ := x_ob hf
      obtain ⟨hqz2, hz2⟩ := xon_of hz2
      refine xr_callV (ci := 10) (As := [.int x2]) (rest := []) (st1 := [.int z2.1]) S G hl.1 (fun _ => rfl) (mt_X10_isBench l D cid b ex sa sv B0 sh q0 x2 d1 _ _ hz2) hqz2 (by decide) kw_1512 kw_1514 ks_63 kw_17 kw_1515 hd_X10_isBench ⟨Nat.le_of_ble_eq_true rfl, Nat.le_of_ble_eq_true rfl⟩ rfl rfl rfl (Nat.le_of_ble_eq_true rfl) ⟨Nat.le_of_ble_eq_true rfl, Nat.le_of_ble_eq_true rfl⟩ dX10_see_18 (fun H locs G => ?_)
      refine lv_if_eq (tgt := 44) hx hb dX10_see_21 (by decide) (fun c => ?_) (fun c => ?_)
      · have hf := x_pos c hf
        exact K44 z2.2 hf _ _ ls (lv_sub hl [] rfl) G
      · have hf := x_neg c hf
        refine lv_iload_n hx hb dX10_see_24 rfl (lv_at hl 3 rfl) ?_
        refine lv_if_lt (tgt := 44) hx hb dX10_see_25 (by decide) (fun c => ?_) (fun c => ?_)
        · have hf := x_pos c hf
          exact K44 z2.2 hf _ _ ls (lv_sub hl [] rfl) G
        · have hf := x_neg c hf
          refine lv_iload_n hx hb dX10_see_28 rfl (lv_at hl 3 rfl) ?_
          refine lv_sipush (v := (9999 : Int32)) hx hb dX10_see_29 (by decide) ?_
          refine lv_icmp_gt (tgt := 44) hx hb dX10_see_32 (by decide) (fun c => ?_) (fun c => ?_)
          · have hf := x_pos c hf
            exact K44 z2.2 hf _ _ ls (lv_sub hl [] rfl) G
          · have hf := x_neg c hf
            refine lv_aload_n hx hb dX10_see_35 rfl (lv_at hl 0 rfl) ?_
            obtain ⟨v3, hv3, hf⟩ := x_ob hf
            refine xr_getI (ci := 10) (k := 57) S G hv3 rfl kw_1225 dX10_see_36 ?_
            refine lv_bipush (v := (24 : Int32)) hx hb dX10_see_39 (by decide) ?_
            refine lv_icmp_ne (tgt := 46) hx hb dX10_see_41 (by decide) (fun c => ?_) (fun c => ?_)
            · have hf := x_neg c hf
              refine lv_aload_n hx hb dX10_see_46 rfl (lv_at hl 0 rfl) ?_
              obtain ⟨v4, hv4, hf⟩ := x_ob hf
              refine xr_getR (ci := 10) (k := 59) S G hv4 rfl kw_1227 dX10_see_47 ?_
              refine lv_aload_n hx hb dX10_see_50 rfl (lv_at hl 0 rfl) ?_
              obtain ⟨v5, hv5, hf⟩ := x_ob hf
              refine xr_getI (ci := 10) (k := 57) S G hv5 rfl kw_1225 dX10_see_51 ?_
              refine lv_iload_n hx hb dX10_see_54 rfl (lv_at hl 1 rfl) ?_
              obtain ⟨d6, hd6, hf⟩ := x_ob hf
              refine xr_iast S G hd6 dX10_see_55 (fun H locs G => ?_)
              refine lv_aload_n hx hb dX10_see_56 rfl (lv_at hl 0 rfl) ?_
              obtain ⟨v7, hv7, hf⟩ := x_ob hf
              refine xr_getR (ci := 10) (k := 60) S G hv7 rfl kw_1228 dX10_see_57 ?_
              refine lv_aload_n hx hb dX10_see_60 rfl (lv_at hl 0 rfl) ?_
              obtain ⟨v8, hv8, hf⟩ := x_ob hf
              refine xr_getI (ci := 10) (k := 57) S G hv8 rfl kw_1225 dX10_see_61 ?_
              refine lv_iload_n hx hb dX10_see_64 rfl (lv_at hl 2 rfl) ?_
              obtain ⟨d9, hd9, hf⟩ := x_ob hf
              refine xr_iast S G hd9 dX10_see_65 (fun H locs G => ?_)
              refine lv_aload_n hx hb dX10_see_66 rfl (lv_at hl 0 rfl) ?_
              obtain ⟨v10, hv10, hf⟩ := x_ob hf
              refine xr_getR (ci := 10) (k := 61) S G hv10 rfl kw_1229 dX10_see_67 ?_
              refine lv_aload_n hx hb dX10_see_70 rfl (lv_at hl 0 rfl) ?_
              obtain ⟨v11, hv11, hf⟩ := x_ob hf
              refine xr_getI (ci := 10) (k := 57) S G hv11 rfl kw_1225 dX10_see_71 ?_
              refine lv_iload_n hx hb dX10_see_74 rfl (lv_at hl 3 rfl) ?_
              obtain ⟨d12, hd12, hf⟩ := x_ob hf
              refine xr_iast S G hd12 dX10_see_75 (fun H locs G => ?_)
              refine lv_aload_n hx hb dX10_see_76 rfl (lv_at hl 0 rfl) ?_
              obtain ⟨v13, hv13, hf⟩ := x_ob hf
              refine xr_getR (ci := 10) (k := 62) S G hv13 rfl kw_1230 dX10_see_77 ?_
              refine lv_aload_n hx hb dX10_see_80 rfl (lv_at hl 0 rfl) ?_
              obtain ⟨v14, hv14, hf⟩ := x_ob hf
              refine xr_getI (ci := 10) (k := 57) S G hv14 rfl kw_1225 dX10_see_81 ?_
              refine lv_iload hx hb dX10_see_84 (lv_at hl 4 rfl) ?_
              obtain ⟨d15, hd15, hf⟩ := x_ob hf
              refine xr_zast S G hd15 dX10_see_86 (fun H locs G => ?_)
              refine lv_aload_n hx hb dX10_see_87 rfl (lv_at hl 0 rfl) ?_
              obtain ⟨v16, hv16, hf⟩ := x_ob hf
              refine xr_getR (ci := 10) (k := 63) S G hv16 rfl kw_1231 dX10_see_88 ?_
              refine lv_aload_n hx hb dX10_see_91 rfl (lv_at hl 0 rfl) ?_
              obtain ⟨v17, hv17, hf⟩ := x_ob hf
              refine xr_getI (ci := 10) (k := 57) S G hv17 rfl kw_1225 dX10_see_92 ?_
              refine lv_iconst (v := (-1 : Int32)) hx hb dX10_see_95 (by decide) ?_
              obtain ⟨d18, hd18, hf⟩ := x_ob hf
              refine xr_iast S G hd18 dX10_see_96 (fun H locs G => ?_)
              refine lv_aload_n hx hb dX10_see_97 rfl (lv_at hl 0 rfl) ?_
              refine lv_dup hx hb dX10_see_98 rfl ?_
              obtain ⟨v19, hv19, hf⟩ := x_ob hf
              refine xr_getI (ci := 10) (k := 57) S G hv19 rfl kw_1225 dX10_see_99 ?_
              refine lv_iconst (v := (1 : Int32)) hx hb dX10_see_102 (by decide) ?_
              refine lv_iadd hx hb dX10_see_103 ?_
              obtain ⟨d20, hd20, hf⟩ := x_ob hf
              refine xr_putI (ci := 10) (k := 57) S G hd20 rfl kw_1225 dX10_see_104 (fun H locs G => ?_)
              refine lv_aload_n hx hb dX10_see_107 rfl (lv_at hl 0 rfl) ?_
              obtain ⟨v21, hv21, hf⟩ := x_ob hf
              refine xr_getI (ci := 10) (k := 57) S G hv21 rfl kw_1225 dX10_see_108 ?_
              refine lv_iconst (v := (1 : Int32)) hx hb dX10_see_111 (by decide) ?_
              refine lv_isub hx hb dX10_see_112 ?_
              cases hf
              exact xr_iret S G (fun _ => rfl) hr dX10_see_113
            · have hf := x_pos c hf
              exact K44 z2.2 hf _ _ ls (lv_sub hl [] rfl) G

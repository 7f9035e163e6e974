-- HalfLandings$Scene.isThere(I)Z
theorem dX4_isThere_0 : decode cX4_isThere 0 = .ok (.aload_n 0, 1) := by decide +kernel
theorem dX4_isThere_1 : decode cX4_isThere 1 = .ok (.getfield 28, 3) := by decide +kernel
theorem dX4_isThere_4 : decode cX4_isThere 4 = .ok (.iload_n 1, 1) := by decide +kernel
theorem dX4_isThere_5 : decode cX4_isThere 5 = .ok (.iaload, 1) := by decide +kernel
theorem dX4_isThere_6 : decode cX4_isThere 6 = .ok (.iconst 1, 1) := by decide +kernel
theorem dX4_isThere_7 : decode cX4_isThere 7 = .ok (.if_icmp .eq 13, 3) := by decide +kernel
theorem dX4_isThere_10 : decode cX4_isThere 10 = .ok (.aload_n 0, 1) := by decide +kernel
theorem dX4_isThere_11 : decode cX4_isThere 11 = .ok (.getfield 28, 3) := by decide +kernel
theorem dX4_isThere_14 : decode cX4_isThere 14 = .ok (.iload_n 1, 1) := by decide +kernel
theorem dX4_isThere_15 : decode cX4_isThere 15 = .ok (.iaload, 1) := by decide +kernel
theorem dX4_isThere_16 : decode cX4_isThere 16 = .ok (.iconst 2, 1) := by decide +kernel
theorem dX4_isThere_17 : decode cX4_isThere 17 = .ok (.if_icmp .ne 7, 3) := by decide +kernel
theorem dX4_isThere_20 : decode cX4_isThere 20 = .ok (.iconst 1, 1) := by decide +kernel
theorem dX4_isThere_21 : decode cX4_isThere 21 = .ok (.goto 4, 3) := by decide +kernel
theorem dX4_isThere_24 : decode cX4_isThere 24 = .ok (.iconst 0, 1) := by decide +kernel
theorem dX4_isThere_25 : decode cX4_isThere 25 = .ok (.ireturn, 1) := by decide +kernel
theorem hd_X4_isThere : yX4_isThere.cls = xCn 4 ∧ yX4_isThere.cls ≠ "java/lang/invoke/MethodHandle" ∧ yX4_isThere.cls ≠ "java/lang/invoke/VarHandle" ∧ (parseMethodDescriptor yX4_isThere.desc).map (fun d => d.parameters.length) = some 1 := by decide +kernel
def k_X4_isThere_25 (sh : List xSh) (y0 : Int32) (d : xD) : Option (Int32 × xD) :=
  (xz y0).bind fun v1 => some (v1, d)
def k_X4_isThere_20 (sh : List xSh) (d : xD) : Option (Int32 × xD) :=
  k_X4_isThere_25 sh (1 : Int32) d
def f_X4_isThere (sh : List xSh) (q0 : Nat) (x1 : Int32) (d : xD) : Option (Int32 × xD) :=
  (xgR 4 sh d q0 5).bind fun v2 => (xaI .int sh d v2 x1).bind fun v3 => if v3 = (1 : Int32) then (k_X4_isThere_20 sh d) else ((xgR 4 sh d q0 5).bind fun v4 => (xaI .int sh d v4 x1).bind fun v5 => if v5 = (2 : Int32) then (k_X4_isThere_20 sh d) else (k_X4_isThere_25 sh (0 : Int32) d))
set_option maxHeartbeats 4000000 in
set_option maxRecDepth 100000 in
theorem mt_X4_isThere (l : Launch) (D : va_G) (cid : FieldType → ClassId) (b : Nat) (ex : Bool) (sa sv B0 : Nat) (sh : List xSh) (q0 : Nat) (x1 : Int32) (d : xD) (r : Int32) (dz : xD) (hf : f_X4_isThere sh q0 x1 d = some (r, dz)) : xMet l yX4_isThere cX4_isThere 2 (some .boolean) 0 0 0 D cid b ex sa sv B0 [.ref (b + q0), .int x1] sh d (some (.int r)) sh dz := by
  refine xMet.of (by decide) (Nat.le_of_ble_eq_true rfl) ?_
  intro p e s m below meth c ls A S hr hin G hl
  have hl : lv_has ls 2 [(0, .ref (b + q0)), (1, .int x1)] := hl
  generalize ([.ref (b + q0), .int x1] : List Value).toArray = av at S ⊢
  have hx := S.1
  have hb := S.2.1
  have hml := S.2.2.1
  have hown := S.2.2.2.1
  have hts := S.2.2.2.2.1
  have K25 : ∀ (y0 : Int32) (d : xD), k_X4_isThere_25 sh y0 d = some (r, dz) → ∀ (H : Heap) (locs : List Loc) (ls : Array Slot), lv_has ls 2 [] → xG D cid b A sh d s H locs → W p l e (xRm 0 0 0) s m av below meth c H locs 0 0 (MQ below (xQ D cid b ex A (some (.int r)) sh dz) av s 0 0 A) (F0 m 25 ls [.int y0]) := by
    intro y0 d hf H locs ls hl G
    unfold k_X4_isThere_25 at hf
    obtain ⟨v1, hv1, hf⟩ := x_ob hf
    cases hf
    exact xr_zret S G (fun _ => rfl) hr hv1 dX4_isThere_25
  have K20 : ∀ (d : xD), k_X4_isThere_20 sh d = some (r, dz) → ∀ (H : Heap) (locs : List Loc) (ls : Array Slot), lv_has ls 2 [] → xG D cid b A sh d s H locs → W p l e (xRm 0 0 0) s m av below meth c H locs 0 0 (MQ below (xQ D cid b ex A (some (.int r)) sh dz) av s 0 0 A) (F0 m 20 ls []) := by
    intro d hf H locs ls hl G
    unfold k_X4_isThere_20 at hf
    refine lv_iconst (v := (1 : Int32)) hx hb dX4_isThere_20 (by decide) ?_
    refine lv_goto (tgt := 25) hx hb dX4_isThere_21 (by decide) ?_
    exact K25 (1 : Int32) d hf _ _ ls (lv_sub hl [] rfl) G
  unfold f_X4_isThere at hf
  refine lv_aload_n hx hb dX4_isThere_0 rfl (lv_at hl 0 rfl) ?_
  obtain ⟨v2, hv2, hf⟩ := x_ob hf
  refine xr_getR (ci := 4) (k := 5) S G hv2 rfl kw_327 dX4_isThere_1 ?_
  refine lv_iload_n hx hb dX4_isThere_4 rfl (lv_at hl 1 rfl) ?_
  obtain ⟨v3, hv3, hf⟩ := x_ob hf
  refine xr_iald S G hv3 dX4_isThere_5 ?_
  refine lv_iconst (v := (1 : Int32)) hx hb dX4_isThere_6 (by decide) ?_
  refine lv_icmp_eq (tgt := 20) hx hb dX4_isThere_7 (by decide) (fun c => ?_) (fun c => ?_)
  · have hf := x_pos c hf
    exact K20 d hf _ _ ls (lv_sub hl [] rfl) G
  · have hf := x_neg c hf
    refine lv_aload_n hx hb dX4_isThere_10 rfl (lv_at hl 0 rfl) ?_
    obtain ⟨v4, hv4, hf⟩ := x_ob hf
    refine xr_getR (ci := 4) (k := 5) S G hv4 rfl kw_327 dX4_isThere_11 ?_
    refine lv_iload_n hx hb dX4_isThere_14 rfl (lv_at hl 1 rfl) ?_
    obtain ⟨v5, hv5, hf⟩ := x_ob hf
    refine xr_iald S G hv5 dX4_isThere_15 ?_
    refine lv_iconst (v := (2 : Int32)) hx hb dX4_isThere_16 (by decide) ?_
    refine lv_icmp_ne (tgt := 24) hx hb dX4_isThere_17 (by decide) (fun c => ?_) (fun c => ?_)
    · have hf := x_neg c hf
      refine lv_iconst (v := (0 : Int32)) hx hb dX4_isThere_24 (by decide) ?_
      exact K25 (0 : Int32) d hf _ _ ls (lv_sub hl [] rfl) G
    · have hf := x_pos c hf
      exact K20 d hf _ _ ls (lv_sub hl [] rfl) G
-- HalfLandings$Scene.someoneOn(I)Z
theorem dX4_someoneOn_0 : decode cX4_someoneOn 0 = .ok (.iconst 0, 1) := by decide +kernel
theorem dX4_someoneOn_1 : decode cX4_someoneOn 1 = .ok (.istore_n 2, 1) := by decide +kernel
theorem dX4_someoneOn_2 : decode cX4_someoneOn 2 = .ok (.iload_n 2, 1) := by decide +kernel
theorem dX4_someoneOn_3 : decode cX4_someoneOn 3 = .ok (.aload_n 0, 1) := by decide +kernel
theorem dX4_someoneOn_4 : decode cX4_someoneOn 4 = .ok (.getfield 25, 3) := by decide +kernel
theorem dX4_someoneOn_7 : decode cX4_someoneOn 7 = .ok (.if_icmp .ge 29, 3) := by decide +kernel
theorem dX4_someoneOn_10 : decode cX4_someoneOn 10 = .ok (.aload_n 0, 1) := by decide +kernel
theorem dX4_someoneOn_11 : decode cX4_someoneOn 11 = .ok (.getfield 32, 3) := by decide +kernel
theorem dX4_someoneOn_14 : decode cX4_someoneOn 14 = .ok (.iload_n 2, 1) := by decide +kernel
theorem dX4_someoneOn_15 : decode cX4_someoneOn 15 = .ok (.iaload, 1) := by decide +kernel
theorem dX4_someoneOn_16 : decode cX4_someoneOn 16 = .ok (.iload_n 1, 1) := by decide +kernel
theorem dX4_someoneOn_17 : decode cX4_someoneOn 17 = .ok (.if_icmp .ne 13, 3) := by decide +kernel
theorem dX4_someoneOn_20 : decode cX4_someoneOn 20 = .ok (.aload_n 0, 1) := by decide +kernel
theorem dX4_someoneOn_21 : decode cX4_someoneOn 21 = .ok (.iload_n 2, 1) := by decide +kernel
theorem dX4_someoneOn_22 : decode cX4_someoneOn 22 = .ok (.invokevirtual 121, 3) := by decide +kernel
theorem dX4_someoneOn_25 : decode cX4_someoneOn 25 = .ok (.ifCond .eq 5, 3) := by decide +kernel
theorem dX4_someoneOn_28 : decode cX4_someoneOn 28 = .ok (.iconst 1, 1) := by decide +kernel
theorem dX4_someoneOn_29 : decode cX4_someoneOn 29 = .ok (.ireturn, 1) := by decide +kernel
theorem dX4_someoneOn_30 : decode cX4_someoneOn 30 = .ok (.iinc 2 1, 3) := by decide +kernel
theorem dX4_someoneOn_33 : decode cX4_someoneOn 33 = .ok (.goto (-31), 3) := by decide +kernel
theorem dX4_someoneOn_36 : decode cX4_someoneOn 36 = .ok (.iconst 0, 1) := by decide +kernel
theorem dX4_someoneOn_37 : decode cX4_someoneOn 37 = .ok (.ireturn, 1) := by decide +kernel
theorem hd_X4_someoneOn : yX4_someoneOn.cls = xCn 4 ∧ yX4_someoneOn.cls ≠ "java/lang/invoke/MethodHandle" ∧ yX4_someoneOn.cls ≠ "java/lang/invoke/VarHandle" ∧ (parseMethodDescriptor yX4_someoneOn.desc).map (fun d => d.parameters.length) = some 1 := by decide +kernel
def k_X4_someoneOn_36 (sh : List xSh) (d : xD) : Option (Int32 × xD) :=
  some ((0 : Int32), d)
def k_X4_someoneOn_30 (sh : List xSh) (rec2 : Nat → Int32 → Int32 → xD → Option (Int32 × xD)) (q0 : Nat) (x1 : Int32) (x2 : Int32) (d : xD) : Option (Int32 × xD) :=
  rec2 q0 x1 (x2 + 1) d
def k_X4_someoneOn_28 (sh : List xSh) (d : xD) : Option (Int32 × xD) :=
  some ((1 : Int32), d)
def b_X4_someoneOn_2 (sh : List xSh) (rec2 : Nat → Int32 → Int32 → xD → Option (Int32 × xD)) (q0 : Nat) (x1 : Int32) (x2 : Int32) (d : xD) : Option (Int32 × xD) :=
  (xgI 4 sh d q0 4).bind fun v1 => if v1 ≤ x2 then (k_X4_someoneOn_36 sh d) else ((xgR 4 sh d q0 6).bind fun v2 => (xaI .int sh d v2 x2).bind fun v3 => if v3 = x1 then ((xon 4 sh q0 (f_X4_isThere sh q0 x2 d)).bind fun z4 => if z4.1 = 0 then (k_X4_someoneOn_30 sh rec2 q0 x1 x2 z4.2) else (k_X4_someoneOn_28 sh z4.2)) else (k_X4_someoneOn_30 sh rec2 q0 x1 x2 d))
def f_X4_someoneOn (sh : List xSh) (q0 : Nat) (x1 : Int32) (d : xD) : Option (Int32 × xD) :=
  xloop (fun _ _ _ _ => none) (b_X4_someoneOn_2 sh) xF q0 x1 (0 : Int32) d
set_option maxHeartbeats 4000000 in
set_option maxRecDepth 100000 in
theorem mt_X4_someoneOn (l : Launch) (D : va_G) (cid : FieldType → ClassId) (b : Nat) (ex : Bool) (sa sv B0 : Nat) (sh : List xSh) (q0 : Nat) (x1 : Int32) (d : xD) (r : Int32) (dz : xD) (hf : f_X4_someoneOn sh q0 x1 d = some (r, dz)) : xMet l yX4_someoneOn cX4_someoneOn 3 (some .boolean) 1 0 0 D cid b ex sa sv B0 [.ref (b + q0), .int x1] sh d (some (.int r)) sh dz := by
  refine xMet.of (by decide) (Nat.le_of_ble_eq_true rfl) ?_
  intro p e s m below meth c ls A S hr hin G hl
  have hl : lv_has ls 3 [(0, .ref (b + q0)), (1, .int x1)] := hl
  generalize ([.ref (b + q0), .int x1] : List Value).toArray = av at S ⊢
  have hx := S.1
  have hb := S.2.1
  have hml := S.2.2.1
  have hown := S.2.2.2.1
  have hts := S.2.2.2.2.1
  have K36 : ∀ (d : xD), k_X4_someoneOn_36 sh d = some (r, dz) → ∀ (H : Heap) (locs : List Loc) (ls : Array Slot), lv_has ls 3 [] → xG D cid b A sh d s H locs → W p l e (xRm 1 0 0) s m av below meth c H locs 0 0 (MQ below (xQ D cid b ex A (some (.int r)) sh dz) av s 0 0 A) (F0 m 36 ls []) := by
    intro d hf H locs ls hl G
    unfold k_X4_someoneOn_36 at hf
    refine lv_iconst (v := (0 : Int32)) hx hb dX4_someoneOn_36 (by decide) ?_
    cases hf
    exact xr_zret S G (fun _ => rfl) hr (by decide) dX4_someoneOn_37
  have K30 : ∀ (rec2 : Nat → Int32 → Int32 → xD → Option (Int32 × xD)) (hrec2 : ∀ (q0 : Nat) (x1 : Int32) (x2 : Int32) (d : xD), rec2 q0 x1 x2 d = some (r, dz) → ∀ (H : Heap) (locs : List Loc) (ls : Array Slot), lv_has ls 3 [(0, .ref (b + q0)), (1, .int x1), (2, .int x2)] → xG D cid b A sh d s H locs → W p l e (xRm 1 0 0) s m av below meth c H locs 0 0 (MQ below (xQ D cid b ex A (some (.int r)) sh dz) av s 0 0 A) (F0 m 2 ls [])) (q0 : Nat) (x1 : Int32) (x2 : Int32) (d : xD), k_X4_someoneOn_30 sh rec2 q0 x1 x2 d = some (r, dz) → ∀ (H : Heap) (locs : List Loc) (ls : Array Slot), lv_has ls 3 [(0, .ref (b + q0)), (1, .int x1), (2, .int x2)] → xG D cid b A sh d s H locs → W p l e (xRm 1 0 0) s m av below meth c H locs 0 0 (MQ below (xQ D cid b ex A (some (.int r)) sh dz) av s 0 0 A) (F0 m 30 ls []) := by
    intro rec2 hrec2 q0 x1 x2 d hf H locs ls hl G
    unfold k_X4_someoneOn_30 at hf
    refine lv_iinc (v := (x2 + 1)) (lv' := [(2, .int (x2 + 1)), (0, .ref (b + q0)), (1, .int x1)]) hx hb dX4_someoneOn_30 hl (k := 2) rfl rfl (by decide) rfl (fun ls hl => ?_)
    refine lv_goto (tgt := 2) hx hb dX4_someoneOn_33 (by decide) ?_
    exact hrec2 q0 x1 (x2 + 1) d hf _ _ ls (lv_sub hl [1, 2, 0] rfl) G
  have K28 : ∀ (d : xD), k_X4_someoneOn_28 sh d = some (r, dz) → ∀ (H : Heap) (locs : List Loc) (ls : Array Slot), lv_has ls 3 [] → xG D cid b A sh d s H locs → W p l e (xRm 1 0 0) s m av below meth c H locs 0 0 (MQ below (xQ D cid b ex A (some (.int r)) sh dz) av s 0 0 A) (F0 m 28 ls []) := by
    intro d hf H locs ls hl G
    unfold k_X4_someoneOn_28 at hf
    refine lv_iconst (v := (1 : Int32)) hx hb dX4_someoneOn_28 (by decide) ?_
    cases hf
    exact xr_zret S G (fun _ => rfl) hr (by decide) dX4_someoneOn_29
  have K2 : ∀ (n : Nat) (q0 : Nat) (x1 : Int32) (x2 : Int32) (d : xD), xloop (fun _ _ _ _ => none) (b_X4_someoneOn_2 sh) n q0 x1 x2 d = some (r, dz) → ∀ (H : Heap) (locs : List Loc) (ls : Array Slot), lv_has ls 3 [(0, .ref (b + q0)), (1, .int x1), (2, .int x2)] → xG D cid b A sh d s H locs → W p l e (xRm 1 0 0) s m av below meth c H locs 0 0 (MQ below (xQ D cid b ex A (some (.int r)) sh dz) av s 0 0 A) (F0 m 2 ls []) := by
    intro n
    induction n with
    | zero =>
      intro q0 x1 x2 d hf
      have hf : (none : Option (Int32 × xD)) = some (r, dz) := hf
      cases hf
    | succ n hrec2 =>
      intro q0 x1 x2 d hf H locs ls hl G
      have hf : b_X4_someoneOn_2 sh (xloop (fun _ _ _ _ => none) (b_X4_someoneOn_2 sh) n) q0 x1 x2 d = some (r, dz) := hf
      unfold b_X4_someoneOn_2 at hf
      refine lv_iload_n hx hb dX4_someoneOn_2 rfl (lv_at hl 2 rfl) ?_
      refine lv_aload_n hx hb dX4_someoneOn_3 rfl (lv_at hl 0 rfl) ?_
      obtain ⟨v1, hv1, hf⟩ := x_ob hf
      refine xr_getI (ci := 4) (k := 4) S G hv1 rfl kw_326 dX4_someoneOn_4 ?_
      refine lv_icmp_ge (tgt := 36) hx hb dX4_someoneOn_7 (by decide) (fun c => ?_) (fun c => ?_)
      · have hf := x_pos c hf
        exact K36 d hf _ _ ls (lv_sub hl [] rfl) G
      · have hf := x_neg c hf
        refine lv_aload_n hx hb dX4_someoneOn_10 rfl (lv_at hl 0 rfl) ?_
        obtain ⟨v2, hv2, hf⟩ := x_ob hf
        refine xr_getR (ci := 4) (k := 6) S G hv2 rfl kw_330 dX4_someoneOn_11 ?_
        refine lv_iload_n hx hb dX4_someoneOn_14 rfl (lv_at hl 2 rfl) ?_
        obtain ⟨v3, hv3, hf⟩ := x_ob hf
        refine xr_iald S G hv3 dX4_someoneOn_15 ?_
        refine lv_iload_n hx hb dX4_someoneOn_16 rfl (lv_at hl 1 rfl) ?_
        refine lv_icmp_ne (tgt := 30) hx hb dX4_someoneOn_17 (by decide) (fun c => ?_) (fun c => ?_)
        · have hf := x_neg c hf
          exact K30 _ hrec2 q0 x1 x2 d hf _ _ ls (lv_sub hl [0, 1, 2] rfl) G
        · have hf := x_pos c hf
          refine lv_aload_n hx hb dX4_someoneOn_20 rfl (lv_at hl 0 rfl) ?_
          refine lv_iload_n hx hb dX4_someoneOn_21 rfl (lv_at hl 2 rfl) ?_
          obtain ⟨z4, hz4, hf⟩ := x_ob hf
          obtain ⟨hqz4, hz4⟩ := xon_of hz4
          refine xr_callV (ci := 4) (As := [.int x2]) (rest := []) (st1 := [.int z4.1]) S G hl.1 (fun _ => rfl) (mt_X4_isThere l D cid b ex sa sv B0 sh q0 x2 d _ _ hz4) hqz4 (by decide) kw_823 kw_824 kw_825 kw_12 kw_826 hd_X4_isThere ⟨Nat.le_of_ble_eq_true rfl, Nat.le_of_ble_eq_true rfl⟩ rfl rfl rfl (Nat.le_of_ble_eq_true rfl) ⟨Nat.le_of_ble_eq_true rfl, Nat.le_of_ble_eq_true rfl⟩ dX4_someoneOn_22 (fun H locs G => ?_)
          refine lv_if_eq (tgt := 30) hx hb dX4_someoneOn_25 (by decide) (fun c => ?_) (fun c => ?_)
          · have hf := x_pos c hf
            exact K30 _ hrec2 q0 x1 x2 z4.2 hf _ _ ls (lv_sub hl [0, 1, 2] rfl) G
          · have hf := x_neg c hf
            exact K28 z4.2 hf _ _ ls (lv_sub hl [] rfl) G
  unfold f_X4_someoneOn at hf
  refine lv_iconst (v := (0 : Int32)) hx hb dX4_someoneOn_0 (by decide) ?_
  refine lv_istore_n (lv' := [(2, .int (0 : Int32)), (0, .ref (b + q0)), (1, .int x1)]) hx hb dX4_someoneOn_1 rfl hl (by decide) rfl (fun ls hl => ?_)
  exact K2 xF q0 x1 (0 : Int32) d hf _ _ ls (lv_sub hl [1, 2, 0] rfl) G
-- java/lang/Integer.compare(II)I
theorem dJ6_compare_7cf53_0 : decode cJ6_compare_7cf53 0 = .ok (.iload_n 0, 1) := by decide +kernel
theorem dJ6_compare_7cf53_1 : decode cJ6_compare_7cf53 1 = .ok (.iload_n 1, 1) := by decide +kernel
theorem dJ6_compare_7cf53_2 : decode cJ6_compare_7cf53 2 = .ok (.if_icmp .ge 7, 3) := by decide +kernel
theorem dJ6_compare_7cf53_5 : decode cJ6_compare_7cf53 5 = .ok (.iconst (-1), 1) := by decide +kernel
theorem dJ6_compare_7cf53_6 : decode cJ6_compare_7cf53 6 = .ok (.goto 13, 3) := by decide +kernel
theorem dJ6_compare_7cf53_9 : decode cJ6_compare_7cf53 9 = .ok (.iload_n 0, 1) := by decide +kernel
theorem dJ6_compare_7cf53_10 : decode cJ6_compare_7cf53 10 = .ok (.iload_n 1, 1) := by decide +kernel
theorem dJ6_compare_7cf53_11 : decode cJ6_compare_7cf53 11 = .ok (.if_icmp .ne 7, 3) := by decide +kernel
theorem dJ6_compare_7cf53_14 : decode cJ6_compare_7cf53 14 = .ok (.iconst 0, 1) := by decide +kernel
theorem dJ6_compare_7cf53_15 : decode cJ6_compare_7cf53 15 = .ok (.goto 4, 3) := by decide +kernel
theorem dJ6_compare_7cf53_18 : decode cJ6_compare_7cf53 18 = .ok (.iconst 1, 1) := by decide +kernel
theorem dJ6_compare_7cf53_19 : decode cJ6_compare_7cf53 19 = .ok (.ireturn, 1) := by decide +kernel
theorem hd_J6_compare_7cf53 : yJ6_compare_7cf53.cls ≠ "java/lang/invoke/MethodHandle" ∧ yJ6_compare_7cf53.cls ≠ "java/lang/invoke/VarHandle" ∧ (parseMethodDescriptor yJ6_compare_7cf53.desc).map (fun d => d.parameters.length) = some 2 := by decide +kernel
def k_J6_compare_7cf53_19 (sh : List xSh) (y0 : Int32) (d : xD) : Option (Int32 × xD) :=
  some (y0, d)
def f_J6_compare_7cf53 (sh : List xSh) (x0 : Int32) (x1 : Int32) (d : xD) : Option (Int32 × xD) :=
  if x1 ≤ x0 then (if x0 = x1 then (k_J6_compare_7cf53_19 sh (0 : Int32) d) else (k_J6_compare_7cf53_19 sh (1 : Int32) d)) else (k_J6_compare_7cf53_19 sh (-1 : Int32) d)
set_option maxHeartbeats 4000000 in
set_option maxRecDepth 100000 in
theorem mt_J6_compare_7cf53 (l : Launch) (D : va_G) (cid : FieldType → ClassId) (b : Nat) (ex : Bool) (sa sv B0 : Nat) (sh : List xSh) (x0 : Int32) (x1 : Int32) (d : xD) (r : Int32) (dz : xD) (hf : f_J6_compare_7cf53 sh x0 x1 d = some (r, dz)) : xMet l yJ6_compare_7cf53 cJ6_compare_7cf53 2 (some .int) 0 0 0 D cid b ex sa sv B0 [.int x0, .int x1] sh d (some (.int r)) sh dz := by
  refine xMet.of (by decide) (Nat.le_of_ble_eq_true rfl) ?_
  intro p e s m below meth c ls A S hr hin G hl
  have hl : lv_has ls 2 [(0, .int x0), (1, .int x1)] := hl
  generalize ([.int x0, .int x1] : List Value).toArray = av at S ⊢
  have hx := S.1
  have hb := S.2.1
  have hml := S.2.2.1
  have hown := S.2.2.2.1
  have hts := S.2.2.2.2.1
  have K19 : ∀ (y0 : Int32) (d : xD), k_J6_compare_7cf53_19 sh y0 d = some (r, dz) → ∀ (H : Heap) (locs : List Loc) (ls : Array Slot), lv_has ls 2 [] → xG D cid b A sh d s H locs → W p l e (xRm 0 0 0) s m av below meth c H locs 0 0 (MQ below (xQ D cid b ex A (some (.int r)) sh dz) av s 0 0 A) (F0 m 19 ls [.int y0]) := by
    intro y0 d hf H locs ls hl G
    unfold k_J6_compare_7cf53_19 at hf
    cases hf
    exact xr_iret S G (fun _ => rfl) hr dJ6_compare_7cf53_19
  unfold f_J6_compare_7cf53 at hf
  refine lv_iload_n hx hb dJ6_compare_7cf53_0 rfl (lv_at hl 0 rfl) ?_
  refine lv_iload_n hx hb dJ6_compare_7cf53_1 rfl (lv_at hl 1 rfl) ?_
  refine lv_icmp_ge (tgt := 9) hx hb dJ6_compare_7cf53_2 (by decide) (fun c => ?_) (fun c => ?_)
  · have hf := x_pos c hf
    refine lv_iload_n hx hb dJ6_compare_7cf53_9 rfl (lv_at hl 0 rfl) ?_
    refine lv_iload_n hx hb dJ6_compare_7cf53_10 rfl (lv_at hl 1 rfl) ?_
    refine lv_icmp_ne (tgt := 18) hx hb dJ6_compare_7cf53_11 (by decide) (fun c => ?_) (fun c => ?_)
    · have hf := x_neg c hf
      refine lv_iconst (v := (1 : Int32)) hx hb dJ6_compare_7cf53_18 (by decide) ?_
      exact K19 (1 : Int32) d hf _ _ ls (lv_sub hl [] rfl) G
    · have hf := x_pos c hf
      refine lv_iconst (v := (0 : Int32)) hx hb dJ6_compare_7cf53_14 (by decide) ?_
      refine lv_goto (tgt := 19) hx hb dJ6_compare_7cf53_15 (by decide) ?_
      exact K19 (0 : Int32) d hf _ _ ls (lv_sub hl [] rfl) G
  · have hf := x_neg c hf
    refine lv_iconst (v := (-1 : Int32)) hx hb dJ6_compare_7cf53_5 (by decide) ?_
    refine lv_goto (tgt := 19) hx hb dJ6_compare_7cf53_6 (by decide) ?_
    exact K19 (-1 : Int32) d hf _ _ ls (lv_sub hl [] rfl) G
-- HalfLandings$Scene.order(II)I
theorem dX4_order_0 : decode cX4_order 0 = .ok (.aload_n 0, 1) := by decide +kernel
theorem dX4_order_1 : decode cX4_order 1 = .ok (.iload_n 1, 1) := by decide +kernel
theorem dX4_order_2 : decode cX4_order 2 = .ok (.invokevirtual 121, 3) := by decide +kernel
theorem dX4_order_5 : decode cX4_order 5 = .ok (.ifCond .eq 29, 3) := by decide +kernel
theorem dX4_order_8 : decode cX4_order 8 = .ok (.aload_n 0, 1) := by decide +kernel
theorem dX4_order_9 : decode cX4_order 9 = .ok (.iload_n 2, 1) := by decide +kernel
theorem dX4_order_10 : decode cX4_order 10 = .ok (.invokevirtual 121, 3) := by decide +kernel
theorem dX4_order_13 : decode cX4_order 13 = .ok (.ifCond .eq 21, 3) := by decide +kernel
theorem dX4_order_16 : decode cX4_order 16 = .ok (.aload_n 0, 1) := by decide +kernel
theorem dX4_order_17 : decode cX4_order 17 = .ok (.getfield 32, 3) := by decide +kernel
theorem dX4_order_20 : decode cX4_order 20 = .ok (.iload_n 1, 1) := by decide +kernel
theorem dX4_order_21 : decode cX4_order 21 = .ok (.iaload, 1) := by decide +kernel
theorem dX4_order_22 : decode cX4_order 22 = .ok (.aload_n 0, 1) := by decide +kernel
theorem dX4_order_23 : decode cX4_order 23 = .ok (.getfield 32, 3) := by decide +kernel
theorem dX4_order_26 : decode cX4_order 26 = .ok (.iload_n 2, 1) := by decide +kernel
theorem dX4_order_27 : decode cX4_order 27 = .ok (.iaload, 1) := by decide +kernel
theorem dX4_order_28 : decode cX4_order 28 = .ok (.invokestatic 125, 3) := by decide +kernel
theorem dX4_order_31 : decode cX4_order 31 = .ok (.goto 4, 3) := by decide +kernel
theorem dX4_order_34 : decode cX4_order 34 = .ok (.iconst 0, 1) := by decide +kernel
theorem dX4_order_35 : decode cX4_order 35 = .ok (.ireturn, 1) := by decide +kernel
theorem hd_X4_order : yX4_order.cls = xCn 4 ∧ yX4_order.cls ≠ "java/lang/invoke/MethodHandle" ∧ yX4_order.cls ≠ "java/lang/invoke/VarHandle" ∧ (parseMethodDescriptor yX4_order.desc).map (fun d => d.parameters.length) = some 2 := by decide +kernel
def k_X4_order_35 (sh : List xSh) (y0 : Int32) (d : xD) : Option (Int32 × xD) :=
  some (y0, d)
def k_X4_order_34 (sh : List xSh) (d : xD) : Option (Int32 × xD) :=
  k_X4_order_35 sh (0 : Int32) d
def f_X4_order (sh : List xSh) (q0 : Nat) (x1 : Int32) (x2 : Int32) (d : xD) : Option (Int32 × xD) :=
  (xon 4 sh q0 (f_X4_isThere sh q0 x1 d)).bind fun z1 => if z1.1 = 0 then (k_X4_order_34 sh z1.2) else ((xon 4 sh q0 (f_X4_isThere sh q0 x2 z1.2)).bind fun z2 => if z2.1 = 0 then (k_X4_order_34 sh z2.2) else ((xgR 4 sh z2.2 q0 6).bind fun v3 => (xaI .int sh z2.2 v3 x1).bind fun v4 => (xgR 4 sh z2.2 q0 6).bind fun v5 => (xaI .int sh z2.2 v5 x2).bind fun v6 => (f_J6_compare_7cf53 sh v4 v6 z2.2).bind fun z7 => k_X4_order_35 sh z7.1 z7.2))
set_option maxHeartbeats 4000000 in
set_option maxRecDepth 100000 in
theorem mt_X4_order (l : Launch) (D : va_G) (cid : FieldType → ClassId) (b : Nat) (ex : Bool) (sa sv B0 : Nat) (sh : List xSh) (q0 : Nat) (x1 : Int32) (x2 : Int32) (d : xD) (r : Int32) (dz : xD) (hf : f_X4_order sh q0 x1 x2 d = some (r, dz)) : xMet l yX4_order cX4_order 3 (some .int) 1 0 0 D cid b ex sa sv B0 [.ref (b + q0), .int x1, .int x2] sh d (some (.int r)) sh dz := by
  refine xMet.of (by decide) (Nat.le_of_ble_eq_true rfl) ?_
  intro p e s m below meth c ls A S hr hin G hl
  have hl : lv_has ls 3 [(0, .ref (b + q0)), (1, .int x1), (2, .int x2)] := hl
  generalize ([.ref (b + q0), .int x1, .int x2] : List Value).toArray = av at S ⊢
  have hx := S.1
  have hb := S.2.1
  have hml := S.2.2.1
  have hown := S.2.2.2.1
  have hts := S.2.2.2.2.1
  have K35 : ∀ (y0 : Int32) (d : xD), k_X4_order_35 sh y0 d = some (r, dz) → ∀ (H : Heap) (locs : List Loc) (ls : Array Slot), lv_has ls 3 [] → xG D cid b A sh d s H locs → W p l e (xRm 1 0 0) s m av below meth c H locs 0 0 (MQ below (xQ D cid b ex A (some (.int r)) sh dz) av s 0 0 A) (F0 m 35 ls [.int y0]) := by
    intro y0 d hf H locs ls hl G
    unfold k_X4_order_35 at hf
    cases hf
    exact xr_iret S G (fun _ => rfl) hr dX4_order_35
  have K34 : ∀ (d : xD), k_X4_order_34 sh d = some (r, dz) → ∀ (H : Heap) (locs : List Loc) (ls : Array Slot), lv_has ls 3 [] → xG D cid b A sh d s H locs → W p l e (xRm 1 0 0) s m av below meth c H locs 0 0 (MQ below (xQ D cid b ex A (some (.int r)) sh dz) av s 0 0 A) (F0 m 34 ls []) := by
    intro d hf H locs ls hl G
    unfold k_X4_order_34 at hf
    refine lv_iconst (v := (0 : Int32)) hx hb dX4_order_34 (by decide) ?_
    exact K35 (0 : Int32) d hf _ _ ls (lv_sub hl [] rfl) G
  unfold f_X4_order at hf
  refine lv_aload_n hx hb dX4_order_0 rfl (lv_at hl 0 rfl) ?_
  refine lv_iload_n hx hb dX4_order_1 rfl (lv_at hl 1 rfl) ?_
  obtain ⟨z1, hz1, hf⟩ := x_ob hf
  obtain ⟨hqz1, hz1⟩ := xon_of hz1
  refine xr_callV (ci := 4) (As := [.int x1]) (rest := []) (st1 := [.int z1.1]) S G hl.1 (fun _ => rfl) (mt_X4_isThere l D cid b ex sa sv B0 sh q0 x1 d _ _ hz1) hqz1 (by decide) kw_823 kw_824 kw_825 kw_12 kw_826 hd_X4_isThere ⟨Nat.le_of_ble_eq_true rfl, Nat.le_of_ble_eq_true rfl⟩ rfl rfl rfl (Nat.le_of_ble_eq_true rfl) ⟨Nat.le_of_ble_eq_true rfl, Nat.le_of_ble_eq_true rfl⟩ dX4_order_2 (fun H locs G => ?_)
  refine lv_if_eq (tgt := 34) hx hb dX4_order_5 (by decide) (fun c => ?_) (fun c => ?_)
  · have hf := x_pos c hf
    exact K34 z1.2 hf _ _ ls (lv_sub hl [] rfl) G
  · have hf := x_neg c hf
    refine lv_aload_n hx hb dX4_order_8 rfl (lv_at hl 0 rfl) ?_
    refine lv_iload_n hx hb dX4_order_9 rfl (lv_at hl 2 rfl) ?_
    obtain ⟨z2, hz2, hf⟩ := x_ob hf
    obtain ⟨hqz2, hz2⟩ := xon_of hz2
    refine xr_callV (ci := 4) (As := [.int x2]) (rest := []) (st1 := [.int z2.1]) S G hl.1 (fun _ => rfl) (mt_X4_isThere l D cid b ex sa sv B0 sh q0 x2 z1.2 _ _ hz2) hqz2 (by decide) kw_823 kw_824 kw_825 kw_12 kw_826 hd_X4_isThere ⟨Nat.le_of_ble_eq_true rfl, Nat.le_of_ble_eq_true rfl⟩ rfl rfl rfl (Nat.le_of_ble_eq_true rfl) ⟨Nat.le_of_ble_eq_true rfl, Nat.le_of_ble_eq_true rfl⟩ dX4_order_10 (fun H locs G => ?_)
    refine lv_if_eq (tgt := 34) hx hb dX4_order_13 (by decide) (fun c => ?_) (fun c => ?_)
    · have hf := x_pos c hf
      exact K34 z2.2 hf _ _ ls (lv_sub hl [] rfl) G
    · have hf := x_neg c hf
      refine lv_aload_n hx hb dX4_order_16 rfl (lv_at hl 0 rfl) ?_
      obtain ⟨v3, hv3, hf⟩ := x_ob hf
      refine xr_getR (ci := 4) (k := 6) S G hv3 rfl kw_330 dX4_order_17 ?_
      refine lv_iload_n hx hb dX4_order_20 rfl (lv_at hl 1 rfl) ?_
      obtain ⟨v4, hv4, hf⟩ := x_ob hf
      refine xr_iald S G hv4 dX4_order_21 ?_
      refine lv_aload_n hx hb dX4_order_22 rfl (lv_at hl 0 rfl) ?_
      obtain ⟨v5, hv5, hf⟩ := x_ob hf
      refine xr_getR (ci := 4) (k := 6) S G hv5 rfl kw_330 dX4_order_23 ?_
      refine lv_iload_n hx hb dX4_order_26 rfl (lv_at hl 2 rfl) ?_
      obtain ⟨v6, hv6, hf⟩ := x_ob hf
      refine xr_iald S G hv6 dX4_order_27 ?_
      obtain ⟨z7, hz7, hf⟩ := x_ob hf
      refine xr_callS (As := [.int v4, .int v6]) (rest := []) (st1 := [.int z7.1]) S G hl.1 (fun _ => rfl) (mt_J6_compare_7cf53 l D cid b ex sa sv B0 sh v4 v6 z2.2 _ _ hz7) kw_923 kw_924 kw_24 kw_925 hd_J6_compare_7cf53 ⟨Nat.le_of_ble_eq_true rfl, Nat.le_of_ble_eq_true rfl⟩ rfl rfl rfl (Nat.le_of_ble_eq_true rfl) ⟨Nat.le_of_ble_eq_true rfl, Nat.le_of_ble_eq_true rfl⟩ dX4_order_28 (fun H locs G => ?_)
      refine lv_goto (tgt := 35) hx hb dX4_order_31 (by decide) ?_
      exact K35 z7.1 z7.2 hf _ _ ls (lv_sub hl [] rfl) G
-- HalfLandings$Seen.clear()V
theorem dX5_clear_0 : decode cX5_clear 0 = .ok (.aload_n 0, 1) := by decide +kernel
theorem dX5_clear_1 : decode cX5_clear 1 = .ok (.iconst 0, 1) := by decide +kernel
theorem dX5_clear_2 : decode cX5_clear 2 = .ok (.putfield 9, 3) := by decide +kernel
theorem dX5_clear_5 : decode cX5_clear 5 = .ok (.aload_n 0, 1) := by decide +kernel
theorem dX5_clear_6 : decode cX5_clear 6 = .ok (.iconst (-1), 1) := by decide +kernel
theorem dX5_clear_7 : decode cX5_clear 7 = .ok (.putfield 15, 3) := by decide +kernel
theorem dX5_clear_10 : decode cX5_clear 10 = .ok (.return_, 1) := by decide +kernel
theorem hd_X5_clear : yX5_clear.cls = xCn 5 ∧ yX5_clear.cls ≠ "java/lang/invoke/MethodHandle" ∧ yX5_clear.cls ≠ "java/lang/invoke/VarHandle" ∧ (parseMethodDescriptor yX5_clear.desc).map (fun d => d.parameters.length) = some 0 := by decide +kernel
def f_X5_clear (sh : List xSh) (q0 : Nat) (d : xD) : Option xD :=
  (xpI 5 sh d q0 0 (0 : Int32)).bind fun d1 => (xpI 5 sh d1 q0 1 (-1 : Int32)).bind fun d2 => some d2
set_option maxHeartbeats 4000000 in
set_option maxRecDepth 100000 in
theorem mt_X5_clear (l : Launch) (D : va_G) (cid : FieldType → ClassId) (b : Nat) (ex : Bool) (sa sv B0 : Nat) (sh : List xSh) (q0 : Nat) (d : xD) (dz : xD) (hf : f_X5_clear sh q0 d = some dz) : xMet l yX5_clear cX5_clear 1 none 0 0 0 D cid b ex sa sv B0 [.ref (b + q0)] sh d none sh dz := by
  refine xMet.of (by decide) (Nat.le_of_ble_eq_true rfl) ?_
  intro p e s m below meth c ls A S hr hin G hl
  have hl : lv_has ls 1 [(0, .ref (b + q0))] := hl
  generalize ([.ref (b + q0)] : List Value).toArray = av at S ⊢
  have hx := S.1
  have hb := S.2.1
  have hml := S.2.2.1
  have hown := S.2.2.2.1
  have hts := S.2.2.2.2.1
  unfold f_X5_clear at hf
  refine lv_aload_n hx hb dX5_clear_0 rfl (lv_at hl 0 rfl) ?_
  refine lv_iconst (v := (0 : Int32)) hx hb dX5_clear_1 (by decide) ?_
  obtain ⟨d1, hd1, hf⟩ := x_ob hf
  refine xr_putI (ci := 5) (k := 0) S G hd1 rfl kw_441 dX5_clear_2 (fun H locs G => ?_)
  refine lv_aload_n hx hb dX5_clear_5 rfl (lv_at hl 0 rfl) ?_
  refine lv_iconst (v := (-1 : Int32)) hx hb dX5_clear_6 (by decide) ?_
  obtain ⟨d2, hd2, hf⟩ := x_ob hf
  refine xr_putI (ci := 5) (k := 1) S G hd2 rfl kw_443 dX5_clear_7 (fun H locs G => ?_)
  cases hf
  exact xr_vret S G (fun _ => rfl) hr dX5_clear_10
-- HalfLandings$Seen.isFull()Z
theorem dX5_isFull_0 : decode cX5_isFull 0 = .ok (.aload_n 0, 1) := by decide +kernel
theorem dX5_isFull_1 : decode cX5_isFull 1 = .ok (.getfield 9, 3) := by decide +kernel
theorem dX5_isFull_4 : decode cX5_isFull 4 = .ok (.bipush 24, 2) := by decide +kernel
theorem dX5_isFull_6 : decode cX5_isFull 6 = .ok (.if_icmp .lt 7, 3) := by decide +kernel
theorem dX5_isFull_9 : decode cX5_isFull 9 = .ok (.iconst 1, 1) := by decide +kernel
theorem dX5_isFull_10 : decode cX5_isFull 10 = .ok (.goto 4, 3) := by decide +kernel
theorem dX5_isFull_13 : decode cX5_isFull 13 = .ok (.iconst 0, 1) := by decide +kernel
theorem dX5_isFull_14 : decode cX5_isFull 14 = .ok (.ireturn, 1) := by decide +kernel
theorem hd_X5_isFull : yX5_isFull.cls = xCn 5 ∧ yX5_isFull.cls ≠ "java/lang/invoke/MethodHandle" ∧ yX5_isFull.cls ≠ "java/lang/invoke/VarHandle" ∧ (parseMethodDescriptor yX5_isFull.desc).map (fun d => d.parameters.length) = some 0 := by decide +kernel
def k_X5_isFull_14 (sh : List xSh) (y0 : Int32) (d : xD) : Option (Int32 × xD) :=
  (xz y0).bind fun v1 => some (v1, d)
def f_X5_isFull (sh : List xSh) (q0 : Nat) (d : xD) : Option (Int32 × xD) :=
  (xgI 5 sh d q0 0).bind fun v2 => if v2 < (24 : Int32) then (k_X5_isFull_14 sh (0 : Int32) d) else (k_X5_isFull_14 sh (1 : Int32) d)
set_option maxHeartbeats 4000000 in
set_option maxRecDepth 100000 in
theorem mt_X5_isFull (l : Launch) (D : va_G) (cid : FieldType → ClassId) (b : Nat) (ex : Bool) (sa sv B0 : Nat) (sh : List xSh) (q0 : Nat) (d : xD) (r : Int32) (dz : xD) (hf : f_X5_isFull sh q0 d = some (r, dz)) : xMet l yX5_isFull cX5_isFull 1 (some .boolean) 0 0 0 D cid b ex sa sv B0 [.ref (b + q0)] sh d (some (.int r)) sh dz := by
  refine xMet.of (by decide) (Nat.le_of_ble_eq_true rfl) ?_
  intro p e s m below meth c ls A S hr hin G hl
  have hl : lv_has ls 1 [(0, .ref (b + q0))] := hl
  generalize ([.ref (b + q0)] : List Value).toArray = av at S ⊢
  have hx := S.1
  have hb := S.2.1
  have hml := S.2.2.1
  have hown := S.2.2.2.1
  have hts := S.2.2.2.2.1
  have K14 : ∀ (y0 : Int32) (d : xD), k_X5_isFull_14 sh y0 d = some (r, dz) → ∀ (H : Heap) (locs : List Loc) (ls : Array Slot), lv_has ls 1 [] → xG D cid b A sh d s H locs → W p l e (xRm 0 0 0) s m av below meth c H locs 0 0 (MQ below (xQ D cid b ex A (some (.int r)) sh dz) av s 0 0 A) (F0 m 14 ls [.int y0]) := by
    intro y0 d hf H locs ls hl G
    unfold k_X5_isFull_14 at hf
    obtain ⟨v1, hv1, hf⟩ := x_ob hf
    cases hf
    exact xr_zret S G (fun _ => rfl) hr hv1 dX5_isFull_14
  unfold f_X5_isFull at hf
  refine lv_aload_n hx hb dX5_isFull_0 rfl (lv_at hl 0 rfl) ?_
  obtain ⟨v2, hv2, hf⟩ := x_ob hf
  refine xr_getI (ci := 5) (k := 0) S G hv2 rfl kw_441 dX5_isFull_1 ?_
  refine lv_bipush (v := (24 : Int32)) hx hb dX5_isFull_4 (by decide) ?_
  refine lv_icmp_lt (tgt := 13) hx hb dX5_isFull_6 (by decide) (fun c => ?_) (fun c => ?_)
  · have hf := x_pos c hf
    refine lv_iconst (v := (0 : Int32)) hx hb dX5_isFull_13 (by decide) ?_
    exact K14 (0 : Int32) d hf _ _ ls (lv_sub hl [] rfl) G
  · have hf := x_neg c hf
    refine lv_iconst (v := (1 : Int32)) hx hb dX5_isFull_9 (by decide) ?_
    refine lv_goto (tgt := 14) hx hb dX5_isFull_10 (by decide) ?_
    exact K14 (1 : Int32) d hf _ _ ls (lv_sub hl [] rfl) G
-- HalfLandings$Seen.howManyKnown()I
theorem dX5_howManyKnown_0 : decode cX5_howManyKnown 0 = .ok (.aload_n 0, 1) := by decide +kernel
theorem dX5_howManyKnown_1 : decode cX5_howManyKnown 1 = .ok (.getfield 15, 3) := by decide +kernel
theorem dX5_howManyKnown_4 : decode cX5_howManyKnown 4 = .ok (.iconst (-1), 1) := by decide +kernel
theorem dX5_howManyKnown_5 : decode cX5_howManyKnown 5 = .ok (.if_icmp .ne 10, 3) := by decide +kernel
theorem dX5_howManyKnown_8 : decode cX5_howManyKnown 8 = .ok (.aload_n 0, 1) := by decide +kernel
theorem dX5_howManyKnown_9 : decode cX5_howManyKnown 9 = .ok (.getfield 9, 3) := by decide +kernel
theorem dX5_howManyKnown_12 : decode cX5_howManyKnown 12 = .ok (.goto 7, 3) := by decide +kernel
theorem dX5_howManyKnown_15 : decode cX5_howManyKnown 15 = .ok (.aload_n 0, 1) := by decide +kernel
theorem dX5_howManyKnown_16 : decode cX5_howManyKnown 16 = .ok (.getfield 15, 3) := by decide +kernel
theorem dX5_howManyKnown_19 : decode cX5_howManyKnown 19 = .ok (.ireturn, 1) := by decide +kernel
theorem hd_X5_howManyKnown : yX5_howManyKnown.cls = xCn 5 ∧ yX5_howManyKnown.cls ≠ "java/lang/invoke/MethodHandle" ∧ yX5_howManyKnown.cls ≠ "java/lang/invoke/VarHandle" ∧ (parseMethodDescriptor yX5_howManyKnown.desc).map (fun d => d.parameters.length) = some 0 := by decide +kernel
def k_X5_howManyKnown_19 (sh : List xSh) (y0 : Int32) (d : xD) : Option (Int32 × xD) :=
  some (y0, d)
def f_X5_howManyKnown (sh : List xSh) (q0 : Nat) (d : xD) : Option (Int32 × xD) :=
  (xgI 5 sh d q0 1).bind fun v1 => if v1 = (-1 : Int32) then ((xgI 5 sh d q0 0).bind fun v3 => k_X5_howManyKnown_19 sh v3 d) else ((xgI 5 sh d q0 1).bind fun v2 => k_X5_howManyKnown_19 sh v2 d)
set_option maxHeartbeats 4000000 in
set_option maxRecDepth 100000 in
theorem mt_X5_howManyKnown (l : Launch) (D : va_G) (cid : FieldType → ClassId) (b : Nat) (ex : Bool) (sa sv B0 : Nat) (sh : List xSh) (q0 : Nat) (d : xD) (r : Int32) (dz : xD) (hf : f_X5_howManyKnown sh q0 d = some (r, dz)) : xMet l yX5_howManyKnown cX5_howManyKnown 1 (some .int) 0 0 0 D cid b ex sa sv B0 [.ref (b + q0)] sh d (some (.int r)) sh dz := by
  refine xMet.of (by decide) (Nat.le_of_ble_eq_true rfl) ?_
  intro p e s m below meth c ls A S hr hin G hl
  have hl : lv_has ls 1 [(0, .ref (b + q0))] := hl
  generalize ([.ref (b + q0)] : List Value).toArray = av at S ⊢
  have hx := S.1
  have hb := S.2.1
  have hml := S.2.2.1
  have hown := S.2.2.2.1
  have hts := S.2.2.2.2.1
  have K19 : ∀ (y0 : Int32) (d : xD), k_X5_howManyKnown_19 sh y0 d = some (r, dz) → ∀ (H : Heap) (locs : List Loc) (ls : Array Slot), lv_has ls 1 [] → xG D cid b A sh d s H locs → W p l e (xRm 0 0 0) s m av below meth c H locs 0 0 (MQ below (xQ D cid b ex A (some (.int r)) sh dz) av s 0 0 A) (F0 m 19 ls [.int y0]) := by
    intro y0 d hf H locs ls hl G
    unfold k_X5_howManyKnown_19 at hf
    cases hf
    exact xr_iret S G (fun _ => rfl) hr dX5_howManyKnown_19
  unfold f_X5_howManyKnown at hf
  refine lv_aload_n hx hb dX5_howManyKnown_0 rfl (lv_at hl 0 rfl) ?_
  obtain ⟨v1, hv1, hf⟩ := x_ob hf
  refine xr_getI (ci := 5) (k := 1) S G hv1 rfl kw_443 dX5_howManyKnown_1 ?_
  refine lv_iconst (v := (-1 : Int32)) hx hb dX5_howManyKnown_4 (by decide) ?_
  refine lv_icmp_ne (tgt := 15) hx hb dX5_howManyKnown_5 (by decide) (fun c => ?_) (fun c => ?_)
  · have hf := x_neg c hf
    refine lv_aload_n hx hb dX5_howManyKnown_15 rfl (lv_at hl 0 rfl) ?_
    obtain ⟨v2, hv2, hf⟩ := x_ob hf
    refine xr_getI (ci := 5) (k := 1) S G hv2 rfl kw_443 dX5_howManyKnown_16 ?_
    exact K19 v2 d hf _ _ ls (lv_sub hl [] rfl) G
  · have hf := x_pos c hf
    refine lv_aload_n hx hb dX5_howManyKnown_8 rfl (lv_at hl 0 rfl) ?_
    obtain ⟨v3, hv3, hf⟩ := x_ob hf
    refine xr_getI (ci := 5) (k := 0) S G hv3 rfl kw_441 dX5_howManyKnown_9 ?_
    refine lv_goto (tgt := 19) hx hb dX5_howManyKnown_12 (by decide) ?_
    exact K19 v3 d hf _ _ ls (lv_sub hl [] rfl) G
-- HalfLandings$Seen.addSight(IIIZ)I
theorem dX5_addSight_0 : decode cX5_addSight 0 = .ok (.aload_n 0, 1) := by decide +kernel
theorem dX5_addSight_1 : decode cX5_addSight 1 = .ok (.getfield 18, 3) := by decide +kernel
theorem dX5_addSight_4 : decode cX5_addSight 4 = .ok (.aload_n 0, 1) := by decide +kernel
theorem dX5_addSight_5 : decode cX5_addSight 5 = .ok (.getfield 9, 3) := by decide +kernel
theorem dX5_addSight_8 : decode cX5_addSight 8 = .ok (.iconst (-1), 1) := by decide +kernel
theorem dX5_addSight_9 : decode cX5_addSight 9 = .ok (.iastore, 1) := by decide +kernel
theorem dX5_addSight_10 : decode cX5_addSight 10 = .ok (.aload_n 0, 1) := by decide +kernel
theorem dX5_addSight_11 : decode cX5_addSight 11 = .ok (.getfield 22, 3) := by decide +kernel
theorem dX5_addSight_14 : decode cX5_addSight 14 = .ok (.aload_n 0, 1) := by decide +kernel
theorem dX5_addSight_15 : decode cX5_addSight 15 = .ok (.getfield 9, 3) := by decide +kernel
theorem dX5_addSight_18 : decode cX5_addSight 18 = .ok (.iload_n 1, 1) := by decide +kernel
theorem dX5_addSight_19 : decode cX5_addSight 19 = .ok (.iastore, 1) := by decide +kernel
theorem dX5_addSight_20 : decode cX5_addSight 20 = .ok (.aload_n 0, 1) := by decide +kernel
theorem dX5_addSight_21 : decode cX5_addSight 21 = .ok (.getfield 25, 3) := by decide +kernel
theorem dX5_addSight_24 : decode cX5_addSight 24 = .ok (.aload_n 0, 1) := by decide +kernel
theorem dX5_addSight_25 : decode cX5_addSight 25 = .ok (.getfield 9, 3) := by decide +kernel
theorem dX5_addSight_28 : decode cX5_addSight 28 = .ok (.iload_n 2, 1) := by decide +kernel
theorem dX5_addSight_29 : decode cX5_addSight 29 = .ok (.iastore, 1) := by decide +kernel
theorem dX5_addSight_30 : decode cX5_addSight 30 = .ok (.aload_n 0, 1) := by decide +kernel
theorem dX5_addSight_31 : decode cX5_addSight 31 = .ok (.getfield 28, 3) := by decide +kernel
theorem dX5_addSight_34 : decode cX5_addSight 34 = .ok (.aload_n 0, 1) := by decide +kernel
theorem dX5_addSight_35 : decode cX5_addSight 35 = .ok (.getfield 9, 3) := by decide +kernel
theorem dX5_addSight_38 : decode cX5_addSight 38 = .ok (.iload_n 3, 1) := by decide +kernel
theorem dX5_addSight_39 : decode cX5_addSight 39 = .ok (.iastore, 1) := by decide +kernel
theorem dX5_addSight_40 : decode cX5_addSight 40 = .ok (.aload_n 0, 1) := by decide +kernel
theorem dX5_addSight_41 : decode cX5_addSight 41 = .ok (.getfield 31, 3) := by decide +kernel
theorem dX5_addSight_44 : decode cX5_addSight 44 = .ok (.aload_n 0, 1) := by decide +kernel
theorem dX5_addSight_45 : decode cX5_addSight 45 = .ok (.getfield 9, 3) := by decide +kernel
theorem dX5_addSight_48 : decode cX5_addSight 48 = .ok (.iload 4, 2) := by decide +kernel
theorem dX5_addSight_50 : decode cX5_addSight 50 = .ok (.bastore, 1) := by decide +kernel
theorem dX5_addSight_51 : decode cX5_addSight 51 = .ok (.aload_n 0, 1) := by decide +kernel
theorem dX5_addSight_52 : decode cX5_addSight 52 = .ok (.dup, 1) := by decide +kernel
theorem dX5_addSight_53 : decode cX5_addSight 53 = .ok (.getfield 9, 3) := by decide +kernel
theorem dX5_addSight_56 : decode cX5_addSight 56 = .ok (.iconst 1, 1) := by decide +kernel
theorem dX5_addSight_57 : decode cX5_addSight 57 = .ok (.iadd, 1) := by decide +kernel
theorem dX5_addSight_58 : decode cX5_addSight 58 = .ok (.putfield 9, 3) := by decide +kernel
theorem dX5_addSight_61 : decode cX5_addSight 61 = .ok (.aload_n 0, 1) := by decide +kernel
theorem dX5_addSight_62 : decode cX5_addSight 62 = .ok (.getfield 9, 3) := by decide +kernel
theorem dX5_addSight_65 : decode cX5_addSight 65 = .ok (.iconst 1, 1) := by decide +kernel
theorem dX5_addSight_66 : decode cX5_addSight 66 = .ok (.isub, 1) := by decide +kernel
theorem dX5_addSight_67 : decode cX5_addSight 67 = .ok (.ireturn, 1) := by decide +kernel
theorem hd_X5_addSight : yX5_addSight.cls = xCn 5 ∧ yX5_addSight.cls ≠ "java/lang/invoke/MethodHandle" ∧ yX5_addSight.cls ≠ "java/lang/invoke/VarHandle" ∧ (parseMethodDescriptor yX5_addSight.desc).map (fun d => d.parameters.length) = some 4 := by decide +kernel
def f_X5_addSight (sh : List xSh) (q0 : Nat) (x1 : Int32) (x2 : Int32) (x3 : Int32) (x4 : Int32) (d : xD) : Option (Int32 × xD) :=
  (xgR 5 sh d q0 2).bind fun v1 => (xgI 5 sh d q0 0).bind fun v2 => (xsI .int sh d v1 v2 (-1 : Int32)).bind fun d3 => (xgR 5 sh d3 q0 3).bind fun v4 => (xgI 5 sh d3 q0 0).bind fun v5 => (xsI .int sh d3 v4 v5 x1).bind fun d6 => (xgR 5 sh d6 q0 4).bind fun v7 => (xgI 5 sh d6 q0 0).bind fun v8 => (xsI .int sh d6 v7 v8 x2).bind fun d9 => (xgR 5 sh d9 q0 5).bind fun v10 => (xgI 5 sh d9 q0 0).bind fun v11 => (xsI .int sh d9 v10 v11 x3).bind fun d12 => (xgR 5 sh d12 q0 6).bind fun v13 => (xgI 5 sh d12 q0 0).bind fun v14 => (xsI .boolean sh d12 v13 v14 x4).bind fun d15 => (xgI 5 sh d15 q0 0).bind fun v16 => (xpI 5 sh d15 q0 0 (v16 + (1 : Int32))).bind fun d17 => (xgI 5 sh d17 q0 0).bind fun v18 => some ((v18 - (1 : Int32)), d17)
set_option maxHeartbeats 4000000 in
set_option maxRecDepth 100000 in
theorem mt_X5_addSight (l : Launch) (D : va_G) (cid : FieldType → ClassId) (b : Nat) (ex : Bool) (sa sv B0 : Nat) (sh : List xSh) (q0 : Nat) (x1 : Int32) (x2 : Int32) (x3 : Int32) (x4 : Int32) (d : xD) (r : Int32) (dz : xD) (hf : f_X5_addSight sh q0 x1 x2 x3 x4 d = some (r, dz)) : xMet l yX5_addSight cX5_addSight 5 (some .int) 0 0 0 D cid b ex sa sv B0 [.ref (b + q0), .int x1, .int x2, .int x3, .int x4] sh d (some (.int r)) sh dz := by
  refine xMet.of (by decide) (Nat.le_of_ble_eq_true rfl) ?_
  intro p e s m below meth c ls A S hr hin G hl
  have hl : lv_has ls 5 [(0, .ref (b + q0)), (1, .int x1), (2, .int x2), (3, .int x3), (4, .int x4)] := hl
  generalize ([.ref (b + q0), .int x1, .int x2, .int x3, .int x4] : List Value).toArray = av at S ⊢
  have hx := S.1
  have hb := S.2.1
  have hml := S.2.2.1
  have hown := S.2.2.2.1
  have hts := S.2.2.2.2.1
  unfold f_X5_addSight at hf
  refine lv_aload_n hx hb dX5_addSight_0 rfl (lv_at hl 0 rfl) ?_
  obtain ⟨v1, hv1, hf⟩ := x_ob hf
  refine xr_getR (ci := 5) (k := 2) S G hv1 rfl kw_445 dX5_addSight_1 ?_
  refine lv_aload_n hx hb dX5_addSight_4 rfl (lv_at hl 0 rfl) ?_
  obtain ⟨v2, hv2, hf⟩ := x_ob hf
  refine xr_getI (ci := 5) (k := 0) S G hv2 rfl kw_441 dX5_addSight_5 ?_
  refine lv_iconst (v := (-1 : Int32)) hx hb dX5_addSight_8 (by decide) ?_
  obtain ⟨d3, hd3, hf⟩ := x_ob hf
  refine xr_iast S G hd3 dX5_addSight_9 (fun H locs G => ?_)
  refine lv_aload_n hx hb dX5_addSight_10 rfl (lv_at hl 0 rfl) ?_
  obtain ⟨v4, hv4, hf⟩ := x_ob hf
  refine xr_getR (ci := 5) (k := 3) S G hv4 rfl kw_446 dX5_addSight_11 ?_
  refine lv_aload_n hx hb dX5_addSight_14 rfl (lv_at hl 0 rfl) ?_
  obtain ⟨v5, hv5, hf⟩ := x_ob hf
  refine xr_getI (ci := 5) (k := 0) S G hv5 rfl kw_441 dX5_addSight_15 ?_
  refine lv_iload_n hx hb dX5_addSight_18 rfl (lv_at hl 1 rfl) ?_
  obtain ⟨d6, hd6, hf⟩ := x_ob hf
  refine xr_iast S G hd6 dX5_addSight_19 (fun H locs G => ?_)
  refine lv_aload_n hx hb dX5_addSight_20 rfl (lv_at hl 0 rfl) ?_
  obtain ⟨v7, hv7, hf⟩ := x_ob hf
  refine xr_getR (ci := 5) (k := 4) S G hv7 rfl kw_447 dX5_addSight_21 ?_
  refine lv_aload_n hx hb dX5_addSight_24 rfl (lv_at hl 0 rfl) ?_
  obtain ⟨v8, hv8, hf⟩ := x_ob hf
  refine xr_getI (ci := 5) (k := 0) S G hv8 rfl kw_441 dX5_addSight_25 ?_
  refine lv_iload_n hx hb dX5_addSight_28 rfl (lv_at hl 2 rfl) ?_
  obtain ⟨d9, hd9, hf⟩ := x_ob hf
  refine xr_iast S G hd9 dX5_addSight_29 (fun H locs G => ?_)
  refine lv_aload_n hx hb dX5_addSight_30 rfl (lv_at hl 0 rfl) ?_
  obtain ⟨v10, hv10, hf⟩ := x_ob hf
  refine xr_getR (ci := 5) (k := 5) S G hv10 rfl kw_448 dX5_addSight_31 ?_
  refine lv_aload_n hx hb dX5_addSight_34 rfl (lv_at hl 0 rfl) ?_
  obtain ⟨v11, hv11, hf⟩ := x_ob hf
  refine xr_getI (ci := 5) (k := 0) S G hv11 rfl kw_441 dX5_addSight_35 ?_
  refine lv_iload_n hx hb dX5_addSight_38 rfl (lv_at hl 3 rfl) ?_
  obtain ⟨d12, hd12, hf⟩ := x_ob hf
  refine xr_iast S G hd12 dX5_addSight_39 (fun H locs G => ?_)
  refine lv_aload_n hx hb dX5_addSight_40 rfl (lv_at hl 0 rfl) ?_
  obtain ⟨v13, hv13, hf⟩ := x_ob hf
  refine xr_getR (ci := 5) (k := 6) S G hv13 rfl kw_449 dX5_addSight_41 ?_
  refine lv_aload_n hx hb dX5_addSight_44 rfl (lv_at hl 0 rfl) ?_
  obtain ⟨v14, hv14, hf⟩ := x_ob hf
  refine xr_getI (ci := 5) (k := 0) S G hv14 rfl kw_441 dX5_addSight_45 ?_
  refine lv_iload hx hb dX5_addSight_48 (lv_at hl 4 rfl) ?_
  obtain ⟨d15, hd15, hf⟩ := x_ob hf
  refine xr_zast S G hd15 dX5_addSight_50 (fun H locs G => ?_)
  refine lv_aload_n hx hb dX5_addSight_51 rfl (lv_at hl 0 rfl) ?_
  refine lv_dup hx hb dX5_addSight_52 rfl ?_
  obtain ⟨v16, hv16, hf⟩ := x_ob hf
  refine xr_getI (ci := 5) (k := 0) S G hv16 rfl kw_441 dX5_addSight_53 ?_
  refine lv_iconst (v := (1 : Int32)) hx hb dX5_addSight_56 (by decide) ?_
  refine lv_iadd hx hb dX5_addSight_57 ?_
  obtain ⟨d17, hd17, hf⟩ := x_ob hf
  refine xr_putI (ci := 5) (k := 0) S G hd17 rfl kw_441 dX5_addSight_58 (fun H locs G => ?_)
  refine lv_aload_n hx hb dX5_addSight_61 rfl (lv_at hl 0 rfl) ?_
  obtain ⟨v18, hv18, hf⟩ := x_ob hf
  refine xr_getI (ci := 5) (k := 0) S G hv18 rfl kw_441 dX5_addSight_62 ?_
  refine lv_iconst (v := (1 : Int32)) hx hb dX5_addSight_65 (by decide) ?_
  refine lv_isub hx hb dX5_addSight_66 ?_
  cases hf
  exact xr_iret S G (fun _ => rfl) hr dX5_addSight_67
-- HalfLandings$Seen.addStrike(I)I
theorem dX5_addStrike_0 : decode cX5_addStrike 0 = .ok (.aload_n 0, 1) := by decide +kernel
theorem dX5_addStrike_1 : decode cX5_addStrike 1 = .ok (.getfield 18, 3) := by decide +kernel
theorem dX5_addStrike_4 : decode cX5_addStrike 4 = .ok (.aload_n 0, 1) := by decide +kernel
theorem dX5_addStrike_5 : decode cX5_addStrike 5 = .ok (.getfield 9, 3) := by decide +kernel
theorem dX5_addStrike_8 : decode cX5_addStrike 8 = .ok (.iload_n 1, 1) := by decide +kernel
theorem dX5_addStrike_9 : decode cX5_addStrike 9 = .ok (.iastore, 1) := by decide +kernel
theorem dX5_addStrike_10 : decode cX5_addStrike 10 = .ok (.aload_n 0, 1) := by decide +kernel
theorem dX5_addStrike_11 : decode cX5_addStrike 11 = .ok (.dup, 1) := by decide +kernel
theorem dX5_addStrike_12 : decode cX5_addStrike 12 = .ok (.getfield 9, 3) := by decide +kernel
theorem dX5_addStrike_15 : decode cX5_addStrike 15 = .ok (.iconst 1, 1) := by decide +kernel
theorem dX5_addStrike_16 : decode cX5_addStrike 16 = .ok (.iadd, 1) := by decide +kernel
theorem dX5_addStrike_17 : decode cX5_addStrike 17 = .ok (.putfield 9, 3) := by decide +kernel
theorem dX5_addStrike_20 : decode cX5_addStrike 20 = .ok (.aload_n 0, 1) := by decide +kernel
theorem dX5_addStrike_21 : decode cX5_addStrike 21 = .ok (.getfield 9, 3) := by decide +kernel
theorem dX5_addStrike_24 : decode cX5_addStrike 24 = .ok (.iconst 1, 1) := by decide +kernel
theorem dX5_addStrike_25 : decode cX5_addStrike 25 = .ok (.isub, 1) := by decide +kernel
theorem dX5_addStrike_26 : decode cX5_addStrike 26 = .ok (.ireturn, 1) := by decide +kernel
theorem hd_X5_addStrike : yX5_addStrike.cls = xCn 5 ∧ yX5_addStrike.cls ≠ "java/lang/invoke/MethodHandle" ∧ yX5_addStrike.cls ≠ "java/lang/invoke/VarHandle" ∧ (parseMethodDescriptor yX5_addStrike.desc).map (fun d => d.parameters.length) = some 1 := by decide +kernel
def f_X5_addStrike (sh : List xSh) (q0 : Nat) (x1 : Int32) (d : xD) : Option (Int32 × xD) :=
  (xgR 5 sh d q0 2).bind fun v1 => (xgI 5 sh d q0 0).bind fun v2 => (xsI .int sh d v1 v2 x1).bind fun d3 => (xgI 5 sh d3 q0 0).bind fun v4 => (xpI 5 sh d3 q0 0 (v4 + (1 : Int32))).bind fun d5 => (xgI 5 sh d5 q0 0).bind fun v6 => some ((v6 - (1 : Int32)), d5)
set_option maxHeartbeats 4000000 in
set_option maxRecDepth 100000 in
theorem mt_X5_addStrike (l : Launch) (D : va_G) (cid : FieldType → ClassId) (b : Nat) (ex : Bool) (sa sv B0 : Nat) (sh : List xSh) (q0 : Nat) (x1 : Int32) (d : xD) (r : Int32) (dz : xD) (hf : f_X5_addStrike sh q0 x1 d = some (r, dz)) : xMet l yX5_addStrike cX5_addStrike 2 (some .int) 0 0 0 D cid b ex sa sv B0 [.ref (b + q0), .int x1] sh d (some (.int r)) sh dz := by
  refine xMet.of (by decide) (Nat.le_of_ble_eq_true rfl) ?_
  intro p e s m below meth c ls A S hr hin G hl
  have hl : lv_has ls 2 [(0, .ref (b + q0)), (1, .int x1)] := hl
  generalize ([.ref (b + q0), .int x1] : List Value).toArray = av at S ⊢
  have hx := S.1
  have hb := S.2.1
  have hml := S.2.2.1
  have hown := S.2.2.2.1
  have hts := S.2.2.2.2.1
  unfold f_X5_addStrike at hf
  refine lv_aload_n hx hb dX5_addStrike_0 rfl (lv_at hl 0 rfl) ?_
  obtain ⟨v1, hv1, hf⟩ := x_ob hf
  refine xr_getR (ci := 5) (k := 2) S G hv1 rfl kw_445 dX5_addStrike_1 ?_
  refine lv_aload_n hx hb dX5_addStrike_4 rfl (lv_at hl 0 rfl) ?_
  obtain ⟨v2, hv2, hf⟩ := x_ob hf
  refine xr_getI (ci := 5) (k := 0) S G hv2 rfl kw_441 dX5_addStrike_5 ?_
  refine lv_iload_n hx hb dX5_addStrike_8 rfl (lv_at hl 1 rfl) ?_
  obtain ⟨d3, hd3, hf⟩ := x_ob hf
  refine xr_iast S G hd3 dX5_addStrike_9 (fun H locs G => ?_)
  refine lv_aload_n hx hb dX5_addStrike_10 rfl (lv_at hl 0 rfl) ?_
  refine lv_dup hx hb dX5_addStrike_11 rfl ?_
  obtain ⟨v4, hv4, hf⟩ := x_ob hf
  refine xr_getI (ci := 5) (k := 0) S G hv4 rfl kw_441 dX5_addStrike_12 ?_
  refine lv_iconst (v := (1 : Int32)) hx hb dX5_addStrike_15 (by decide) ?_
  refine lv_iadd hx hb dX5_addStrike_16 ?_
  obtain ⟨d5, hd5, hf⟩ := x_ob hf
  refine xr_putI (ci := 5) (k := 0) S G hd5 rfl kw_441 dX5_addStrike_17 (fun H locs G => ?_)
  refine lv_aload_n hx hb dX5_addStrike_20 rfl (lv_at hl 0 rfl) ?_
  obtain ⟨v6, hv6, hf⟩ := x_ob hf
  refine xr_getI (ci := 5) (k := 0) S G hv6 rfl kw_441 dX5_addStrike_21 ?_
  refine lv_iconst (v := (1 : Int32)) hx hb dX5_addStrike_24 (by decide) ?_
  refine lv_isub hx hb dX5_addStrike_25 ?_
  cases hf
  exact xr_iret S G (fun _ => rfl) hr dX5_addStrike_26
-- HalfLandings$Seen.sift()V
theorem dX5_sift_0 : decode cX5_sift 0 = .ok (.aload_n 0, 1) := by decide +kernel
theorem dX5_sift_1 : decode cX5_sift 1 = .ok (.invokevirtual 38, 3) := by decide +kernel
theorem dX5_sift_4 : decode cX5_sift 4 = .ok (.istore_n 1, 1) := by decide +kernel
theorem dX5_sift_5 : decode cX5_sift 5 = .ok (.iconst 0, 1) := by decide +kernel
theorem dX5_sift_6 : decode cX5_sift 6 = .ok (.istore_n 2, 1) := by decide +kernel
theorem dX5_sift_7 : decode cX5_sift 7 = .ok (.iload_n 2, 1) := by decide +kernel
theorem dX5_sift_8 : decode cX5_sift 8 = .ok (.bipush 24, 2) := by decide +kernel
theorem dX5_sift_10 : decode cX5_sift 10 = .ok (.if_icmp .ge 25, 3) := by decide +kernel
theorem dX5_sift_13 : decode cX5_sift 13 = .ok (.aload_n 0, 1) := by decide +kernel
theorem dX5_sift_14 : decode cX5_sift 14 = .ok (.getfield 35, 3) := by decide +kernel
theorem dX5_sift_17 : decode cX5_sift 17 = .ok (.iload_n 2, 1) := by decide +kernel
theorem dX5_sift_18 : decode cX5_sift 18 = .ok (.iload_n 2, 1) := by decide +kernel
theorem dX5_sift_19 : decode cX5_sift 19 = .ok (.iload_n 1, 1) := by decide +kernel
theorem dX5_sift_20 : decode cX5_sift 20 = .ok (.if_icmp .ge 7, 3) := by decide +kernel
theorem dX5_sift_23 : decode cX5_sift 23 = .ok (.iconst 1, 1) := by decide +kernel
theorem dX5_sift_24 : decode cX5_sift 24 = .ok (.goto 4, 3) := by decide +kernel
theorem dX5_sift_27 : decode cX5_sift 27 = .ok (.iconst 0, 1) := by decide +kernel
theorem dX5_sift_28 : decode cX5_sift 28 = .ok (.bastore, 1) := by decide +kernel
theorem dX5_sift_29 : decode cX5_sift 29 = .ok (.iinc 2 1, 3) := by decide +kernel
theorem dX5_sift_32 : decode cX5_sift 32 = .ok (.goto (-25), 3) := by decide +kernel
theorem dX5_sift_35 : decode cX5_sift 35 = .ok (.iload_n 1, 1) := by decide +kernel
theorem dX5_sift_36 : decode cX5_sift 36 = .ok (.iconst 1, 1) := by decide +kernel
theorem dX5_sift_37 : decode cX5_sift 37 = .ok (.isub, 1) := by decide +kernel
theorem dX5_sift_38 : decode cX5_sift 38 = .ok (.istore_n 2, 1) := by decide +kernel
theorem dX5_sift_39 : decode cX5_sift 39 = .ok (.iload_n 2, 1) := by decide +kernel
theorem dX5_sift_40 : decode cX5_sift 40 = .ok (.ifCond .lt 40, 3) := by decide +kernel
theorem dX5_sift_43 : decode cX5_sift 43 = .ok (.aload_n 0, 1) := by decide +kernel
theorem dX5_sift_44 : decode cX5_sift 44 = .ok (.getfield 35, 3) := by decide +kernel
theorem dX5_sift_47 : decode cX5_sift 47 = .ok (.iload_n 2, 1) := by decide +kernel
theorem dX5_sift_48 : decode cX5_sift 48 = .ok (.baload, 1) := by decide +kernel
theorem dX5_sift_49 : decode cX5_sift 49 = .ok (.ifCond .eq 25, 3) := by decide +kernel
theorem dX5_sift_52 : decode cX5_sift 52 = .ok (.aload_n 0, 1) := by decide +kernel
theorem dX5_sift_53 : decode cX5_sift 53 = .ok (.getfield 18, 3) := by decide +kernel
theorem dX5_sift_56 : decode cX5_sift 56 = .ok (.iload_n 2, 1) := by decide +kernel
theorem dX5_sift_57 : decode cX5_sift 57 = .ok (.iaload, 1) := by decide +kernel
theorem dX5_sift_58 : decode cX5_sift 58 = .ok (.iconst (-1), 1) := by decide +kernel
theorem dX5_sift_59 : decode cX5_sift 59 = .ok (.if_icmp .eq 15, 3) := by decide +kernel
theorem dX5_sift_62 : decode cX5_sift 62 = .ok (.aload_n 0, 1) := by decide +kernel
theorem dX5_sift_63 : decode cX5_sift 63 = .ok (.getfield 35, 3) := by decide +kernel
theorem dX5_sift_66 : decode cX5_sift 66 = .ok (.aload_n 0, 1) := by decide +kernel
theorem dX5_sift_67 : decode cX5_sift 67 = .ok (.getfield 18, 3) := by decide +kernel
theorem dX5_sift_70 : decode cX5_sift 70 = .ok (.iload_n 2, 1) := by decide +kernel
theorem dX5_sift_71 : decode cX5_sift 71 = .ok (.iaload, 1) := by decide +kernel
theorem dX5_sift_72 : decode cX5_sift 72 = .ok (.iconst 0, 1) := by decide +kernel
theorem dX5_sift_73 : decode cX5_sift 73 = .ok (.bastore, 1) := by decide +kernel
theorem dX5_sift_74 : decode cX5_sift 74 = .ok (.iinc 2 (-1), 3) := by decide +kernel
theorem dX5_sift_77 : decode cX5_sift 77 = .ok (.goto (-38), 3) := by decide +kernel
theorem dX5_sift_80 : decode cX5_sift 80 = .ok (.return_, 1) := by decide +kernel
theorem hd_X5_sift : yX5_sift.cls = xCn 5 ∧ yX5_sift.cls ≠ "java/lang/invoke/MethodHandle" ∧ yX5_sift.cls ≠ "java/lang/invoke/VarHandle" ∧ (parseMethodDescriptor yX5_sift.desc).map (fun d => d.parameters.length) = some 0 := by decide +kernel
def k_X5_sift_80 (sh : List xSh) (d : xD) : Option xD :=
  some d
def k_X5_sift_74 (sh : List xSh) (rec39 : Nat → Int32 → xD → Option xD) (q0 : Nat) (x2 : Int32) (d : xD) : Option xD :=
  rec39 q0 (x2 + (-1)) d
def b_X5_sift_39 (sh : List xSh) (rec39 : Nat → Int32 → xD → Option xD) (q0 : Nat) (x2 : Int32) (d : xD) : Option xD :=
  if x2 < 0 then (k_X5_sift_80 sh d) else ((xgR 5 sh d q0 7).bind fun v1 => (xaI .boolean sh d v1 x2).bind fun v2 => if v2 = 0 then (k_X5_sift_74 sh rec39 q0 x2 d) else ((xgR 5 sh d q0 2).bind fun v3 => (xaI .int sh d v3 x2).bind fun v4 => if v4 = (-1 : Int32) then (k_X5_sift_74 sh rec39 q0 x2 d) else ((xgR 5 sh d q0 7).bind fun v5 => (xgR 5 sh d q0 2).bind fun v6 => (xaI .int sh d v6 x2).bind fun v7 => (xsI .boolean sh d v5 v7 (0 : Int32)).bind fun d8 => k_X5_sift_74 sh rec39 q0 x2 d8)))
def k_X5_sift_35 (sh : List xSh) (q0 : Nat) (x1 : Int32) (d : xD) : Option xD :=
  xloop (fun _ _ _ => none) (b_X5_sift_39 sh) xF q0 (x1 - (1 : Int32)) d
def k_X5_sift_28 (sh : List xSh) (rec7 : Nat → Int32 → Int32 → xD → Option xD) (q0 : Nat) (x1 : Int32) (x2 : Int32) (p0 : Nat) (y1 : Int32) (y2 : Int32) (d : xD) : Option xD :=
  (xsI .boolean sh d p0 y1 y2).bind fun d9 => rec7 q0 x1 (x2 + 1) d9
def b_X5_sift_7 (sh : List xSh) (rec7 : Nat → Int32 → Int32 → xD → Option xD) (q0 : Nat) (x1 : Int32) (x2 : Int32) (d : xD) : Option xD :=
  if (24 : Int32) ≤ x2 then (k_X5_sift_35 sh q0 x1 d) else ((xgR 5 sh d q0 7).bind fun v10 => if x1 ≤ x2 then (k_X5_sift_28 sh rec7 q0 x1 x2 v10 x2 (0 : Int32) d) else (k_X5_sift_28 sh rec7 q0 x1 x2 v10 x2 (1 : Int32) d))
def f_X5_sift (sh : List xSh) (q0 : Nat) (d : xD) : Option xD :=
  (xon 5 sh q0 (f_X5_howManyKnown sh q0 d)).bind fun z11 => xloop (fun _ _ _ _ => none) (b_X5_sift_7 sh) xF q0 z11.1 (0 : Int32) z11.2
set_option maxHeartbeats 4000000 in
set_option maxRecDepth 100000 in
theorem mt_X5_sift (l : Launch) (D : va_G) (cid : FieldType → ClassId) (b : Nat) (ex : Bool) (sa sv B0 : Nat) (sh : List xSh) (q0 : Nat) (d : xD) (dz : xD) (hf : f_X5_sift sh q0 d = some dz) : xMet l yX5_sift cX5_sift 3 none 1 0 0 D cid b ex sa sv B0 [.ref (b + q0)] sh d none sh dz := by
  refine xMet.of (by decide) (Nat.le_of_ble_eq_true rfl) ?_
  intro p e s m below meth c ls A S hr hin G hl
  have hl : lv_has ls 3 [(0, .ref (b + q0))] := hl
  generalize ([.ref (b + q0)] : List Value).toArray = av at S ⊢
  have hx := S.1
  have hb := S.2.1
  have hml := S.2.2.1
  have hown := S.2.2.2.1
  have hts := S.2.2.2.2.1
  have K80 : ∀ (d : xD), k_X5_sift_80 sh d = some dz → ∀ (H : Heap) (locs : List Loc) (ls : Array Slot), lv_has ls 3 [] → xG D cid b A sh d s H locs → W p l e (xRm 1 0 0) s m av below meth c H locs 0 0 (MQ below (xQ D cid b ex A none sh dz) av s 0 0 A) (F0 m 80 ls []) := by
    intro d hf H locs ls hl G
    unfold k_X5_sift_80 at hf
    cases hf
    exact xr_vret S G (fun _ => rfl) hr dX5_sift_80
  have K74 : ∀ (rec39 : Nat → Int32 → xD → Option xD) (hrec39 : ∀ (q0 : Nat) (x2 : Int32) (d : xD), rec39 q0 x2 d = some dz → ∀ (H : Heap) (locs : List Loc) (ls : Array Slot), lv_has ls 3 [(0, .ref (b + q0)), (2, .int x2)] → xG D cid b A sh d s H locs → W p l e (xRm 1 0 0) s m av below meth c H locs 0 0 (MQ below (xQ D cid b ex A none sh dz) av s 0 0 A) (F0 m 39 ls [])) (q0 : Nat) (x2 : Int32) (d : xD), k_X5_sift_74 sh rec39 q0 x2 d = some dz → ∀ (H : Heap) (locs : List Loc) (ls : Array Slot), lv_has ls 3 [(0, .ref (b + q0)), (2, .int x2)] → xG D cid b A sh d s H locs → W p l e (xRm 1 0 0) s m av below meth c H locs 0 0 (MQ below (xQ D cid b ex A none sh dz) av s 0 0 A) (F0 m 74 ls []) := by
    intro rec39 hrec39 q0 x2 d hf H locs ls hl G
    unfold k_X5_sift_74 at hf
    refine lv_iinc (v := (x2 + (-1))) (lv' := [(2, .int (x2 + (-1))), (0, .ref (b + q0))]) hx hb dX5_sift_74 hl (k := 1) rfl rfl (by decide) rfl (fun ls hl => ?_)
    refine lv_goto (tgt := 39) hx hb dX5_sift_77 (by decide) ?_
    exact hrec39 q0 (x2 + (-1)) d hf _ _ ls (lv_sub hl [1, 0] rfl) G
  have K39 : ∀ (n : Nat) (q0 : Nat) (x2 : Int32) (d : xD), xloop (fun _ _ _ => none) (b_X5_sift_39 sh) n q0 x2 d = some dz → ∀ (H : Heap) (locs : List Loc) (ls : Array Slot), lv_has ls 3 [(0, .ref (b + q0)), (2, .int x2)] → xG D cid b A sh d s H locs → W p l e (xRm 1 0 0) s m av below meth c H locs 0 0 (MQ below (xQ D cid b ex A none sh dz) av s 0 0 A) (F0 m 39 ls []) := by
    intro n
    induction n with
    | zero =>
      intro q0 x2 d hf
      have hf : (none : Option xD) = some dz := hf
      cases hf
    | succ n hrec39 =>
      intro q0 x2 d hf H locs ls hl G
      have hf : b_X5_sift_39 sh (xloop (fun _ _ _ => none) (b_X5_sift_39 sh) n) q0 x2 d = some dz := hf
      unfold b_X5_sift_39 at hf
      refine lv_iload_n hx hb dX5_sift_39 rfl (lv_at hl 1 rfl) ?_
      refine lv_if_lt (tgt := 80) hx hb dX5_sift_40 (by decide) (fun c => ?_) (fun c => ?_)
      · have hf := x_pos c hf
        exact K80 d hf _ _ ls (lv_sub hl [] rfl) G
      · have hf := x_neg c hf
        refine lv_aload_n hx hb dX5_sift_43 rfl (lv_at hl 0 rfl) ?_
        obtain ⟨v1, hv1, hf⟩ := x_ob hf
        refine xr_getR (ci := 5) (k := 7) S G hv1 rfl kw_450 dX5_sift_44 ?_
        refine lv_iload_n hx hb dX5_sift_47 rfl (lv_at hl 1 rfl) ?_
        obtain ⟨v2, hv2, hf⟩ := x_ob hf
        refine xr_zald S G hv2 dX5_sift_48 ?_
        refine lv_if_eq (tgt := 74) hx hb dX5_sift_49 (by decide) (fun c => ?_) (fun c => ?_)
        · have hf := x_pos c hf
          exact K74 _ hrec39 q0 x2 d hf _ _ ls (lv_sub hl [0, 1] rfl) G
        · have hf := x_neg c hf
          refine lv_aload_n hx hb dX5_sift_52 rfl (lv_at hl 0 rfl) ?_
          obtain ⟨v3, hv3, hf⟩ := x_ob hf
          refine xr_getR (ci := 5) (k := 2) S G hv3 rfl kw_445 dX5_sift_53 ?_
          refine lv_iload_n hx hb dX5_sift_56 rfl (lv_at hl 1 rfl) ?_
          obtain ⟨v4, hv4, hf⟩ := x_ob hf
          refine xr_iald S G hv4 dX5_sift_57 ?_
          refine lv_iconst (v := (-1 : Int32)) hx hb dX5_sift_58 (by decide) ?_
          refine lv_icmp_eq (tgt := 74) hx hb dX5_sift_59 (by decide) (fun c => ?_) (fun c => ?_)
          · have hf := x_pos c hf
            exact K74 _ hrec39 q0 x2 d hf _ _ ls (lv_sub hl [0, 1] rfl) G
          · have hf := x_neg c hf
            refine lv_aload_n hx hb dX5_sift_62 rfl (lv_at hl 0 rfl) ?_
            obtain ⟨v5, hv5, hf⟩ := x_ob hf
            refine xr_getR (ci := 5) (k := 7) S G hv5 rfl kw_450 dX5_sift_63 ?_
            refine lv_aload_n hx hb dX5_sift_66 rfl (lv_at hl 0 rfl) ?_
            obtain ⟨v6, hv6, hf⟩ := x_ob hf
            refine xr_getR (ci := 5) (k := 2) S G hv6 rfl kw_445 dX5_sift_67 ?_
            refine lv_iload_n hx hb dX5_sift_70 rfl (lv_at hl 1 rfl) ?_
            obtain ⟨v7, hv7, hf⟩ := x_ob hf
            refine xr_iald S G hv7 dX5_sift_71 ?_
            refine lv_iconst (v := (0 : Int32)) hx hb dX5_sift_72 (by decide) ?_
            obtain ⟨d8, hd8, hf⟩ := x_ob hf
            refine xr_zast S G hd8 dX5_sift_73 (fun H locs G => ?_)
            exact K74 _ hrec39 q0 x2 d8 hf _ _ ls (lv_sub hl [0, 1] rfl) G
  have K35 : ∀ (q0 : Nat) (x1 : Int32) (d : xD), k_X5_sift_35 sh q0 x1 d = some dz → ∀ (H : Heap) (locs : List Loc) (ls : Array Slot), lv_has ls 3 [(0, .ref (b + q0)), (1, .int x1)] → xG D cid b A sh d s H locs → W p l e (xRm 1 0 0) s m av below meth c H locs 0 0 (MQ below (xQ D cid b ex A none sh dz) av s 0 0 A) (F0 m 35 ls []) := by
    intro q0 x1 d hf H locs ls hl G
    unfold k_X5_sift_35 at hf
    refine lv_iload_n hx hb dX5_sift_35 rfl (lv_at hl 1 rfl) ?_
    refine lv_iconst (v := (1 : Int32)) hx hb dX5_sift_36 (by decide) ?_
    refine lv_isub hx hb dX5_sift_37 ?_
    refine lv_istore_n (lv' := [(2, .int (x1 - (1 : Int32))), (0, .ref (b + q0)), (1, .int x1)]) hx hb dX5_sift_38 rfl hl (by decide) rfl (fun ls hl => ?_)
    exact K39 xF q0 (x1 - (1 : Int32)) d hf _ _ ls (lv_sub hl [1, 0] rfl) G
  have K28 : ∀ (rec7 : Nat → Int32 → Int32 → xD → Option xD) (hrec7 : ∀ (q0 : Nat) (x1 : Int32) (x2 : Int32) (d : xD), rec7 q0 x1 x2 d = some dz → ∀ (H : Heap) (locs : List Loc) (ls : Array Slot), lv_has ls 3 [(0, .ref (b + q0)), (1, .int x1), (2, .int x2)] → xG D cid b A sh d s H locs → W p l e (xRm 1 0 0) s m av below meth c H locs 0 0 (MQ below (xQ D cid b ex A none sh dz) av s 0 0 A) (F0 m 7 ls [])) (q0 : Nat) (x1 : Int32) (x2 : Int32) (p0 : Nat) (y1 : Int32) (y2 : Int32) (d : xD), k_X5_sift_28 sh rec7 q0 x1 x2 p0 y1 y2 d = some dz → ∀ (H : Heap) (locs : List Loc) (ls : Array Slot), lv_has ls 3 [(0, .ref (b + q0)), (1, .int x1), (2, .int x2)] → xG D cid b A sh d s H locs → W p l e (xRm 1 0 0) s m av below meth c H locs 0 0 (MQ below (xQ D cid b ex A none sh dz) av s 0 0 A) (F0 m 28 ls [.int y2, .int y1, .ref (b + p0)]) := by
    intro rec7 hrec7 q0 x1 x2 p0 y1 y2 d hf H locs ls hl G
    unfold k_X5_sift_28 at hf
    obtain ⟨d9, hd9, hf⟩ := x_ob hf
    refine xr_zast S G hd9 dX5_sift_28 (fun H locs G => ?_)
    refine lv_iinc (v := (x2 + 1)) (lv' := [(2, .int (x2 + 1)), (0, .ref (b + q0)), (1, .int x1)]) hx hb dX5_sift_29 hl (k := 2) rfl rfl (by decide) rfl (fun ls hl => ?_)
    refine lv_goto (tgt := 7) hx hb dX5_sift_32 (by decide) ?_
    exact hrec7 q0 x1 (x2 + 1) d9 hf _ _ ls (lv_sub hl [1, 2, 0] rfl) G
  have K7 : ∀ (n : Nat) (q0 : Nat) (x1 : Int32) (x2 : Int32) (d : xD), xloop (fun _ _ _ _ => none) (b_X5_sift_7 sh) n q0 x1 x2 d = some dz → ∀ (H : Heap) (locs : List Loc) (ls : Array Slot), lv_has ls 3 [(0, .ref (b + q0)), (1, .int x1), (2, .int x2)] → xG D cid b A sh d s H locs → W p l e (xRm 1 0 0) s m av below meth c H locs 0 0 (MQ below (xQ D cid b ex A none sh dz) av s 0 0 A) (F0 m 7 ls []) := by
    intro n
    induction n with
    | zero =>
      intro q0 x1 x2 d hf
      have hf : (none : Option xD) = some dz := hf
      cases hf
    | succ n hrec7 =>
      intro q0 x1 x2 d hf H locs ls hl G
      have hf : b_X5_sift_7 sh (xloop (fun _ _ _ _ => none) (b_X5_sift_7 sh) n) q0 x1 x2 d = some dz := hf
      unfold b_X5_sift_7 at hf
      refine lv_iload_n hx hb dX5_sift_7 rfl (lv_at hl 2 rfl) ?_
      refine lv_bipush (v := (24 : Int32)) hx hb dX5_sift_8 (by decide) ?_
      refine lv_icmp_ge (tgt := 35) hx hb dX5_sift_10 (by decide) (fun c => ?_) (fun c => ?_)
      · have hf := x_pos c hf
        exact K35 q0 x1 d hf _ _ ls (lv_sub hl [0, 1] rfl) G
      · have hf := x_neg c hf
        refine lv_aload_n hx hb dX5_sift_13 rfl (lv_at hl 0 rfl) ?_
        obtain ⟨v10, hv10, hf⟩ := x_ob hf
        refine xr_getR (ci := 5) (k := 7) S G hv10 rfl kw_450 dX5_sift_14 ?_
        refine lv_iload_n hx hb dX5_sift_17 rfl (lv_at hl 2 rfl) ?_
        refine lv_iload_n hx hb dX5_sift_18 rfl (lv_at hl 2 rfl) ?_
        refine lv_iload_n hx hb dX5_sift_19 rfl (lv_at hl 1 rfl) ?_
        refine lv_icmp_ge (tgt := 27) hx hb dX5_sift_20 (by decide) (fun c => ?_) (fun c => ?_)
        · have hf := x_pos c hf
          refine lv_iconst (v := (0 : Int32)) hx hb dX5_sift_27 (by decide) ?_
          exact K28 _ hrec7 q0 x1 x2 v10 x2 (0 : Int32) d hf _ _ ls (lv_sub hl [0, 1, 2] rfl) G
        · have hf := x_neg c hf
          refine lv_iconst (v := (1 : Int32)) hx hb dX5_sift_23 (by decide) ?_
          refine lv_goto (tgt := 28) hx hb dX5_sift_24 (by decide) ?_
          exact K28 _ hrec7 q0 x1 x2 v10 x2 (1 : Int32) d hf _ _ ls (lv_sub hl [0, 1, 2] rfl) G
  unfold f_X5_sift at hf
  refine lv_aload_n hx hb dX5_sift_0 rfl (lv_at hl 0 rfl) ?_
  obtain ⟨z11, hz11, hf⟩ := x_ob hf
  obtain ⟨hqz11, hz11⟩ := xon_of hz11
  refine xr_callV (ci := 5) (As := []) (rest := []) (st1 := [.int z11.1]) S G hl.1 (fun _ => rfl) (mt_X5_howManyKnown l D cid b ex sa sv B0 sh q0 d _ _ hz11) hqz11 (by decide) kw_1001 kw_1002 kw_1003 kw_15 kw_1004 hd_X5_howManyKnown ⟨Nat.le_of_ble_eq_true rfl, Nat.le_of_ble_eq_true rfl⟩ rfl rfl rfl (Nat.le_of_ble_eq_true rfl) ⟨Nat.le_of_ble_eq_true rfl, Nat.le_of_ble_eq_true rfl⟩ dX5_sift_1 (fun H locs G => ?_)
  refine lv_istore_n (lv' := [(1, .int z11.1), (0, .ref (b + q0))]) hx hb dX5_sift_4 rfl hl (by decide) rfl (fun ls hl => ?_)
  refine lv_iconst (v := (0 : Int32)) hx hb dX5_sift_5 (by decide) ?_
  refine lv_istore_n (lv' := [(2, .int (0 : Int32)), (1, .int z11.1), (0, .ref (b + q0))]) hx hb dX5_sift_6 rfl hl (by decide) rfl (fun ls hl => ?_)
  exact K7 xF q0 z11.1 (0 : Int32) z11.2 hf _ _ ls (lv_sub hl [2, 1, 0] rfl) G
-- HalfLandings$Seen.isKnownSight(I)Z
theorem dX5_isKnownSight_0 : decode cX5_isKnownSight 0 = .ok (.aload_n 0, 1) := by decide +kernel
theorem dX5_isKnownSight_1 : decode cX5_isKnownSight 1 = .ok (.getfield 35, 3) := by decide +kernel
theorem dX5_isKnownSight_4 : decode cX5_isKnownSight 4 = .ok (.iload_n 1, 1) := by decide +kernel
theorem dX5_isKnownSight_5 : decode cX5_isKnownSight 5 = .ok (.baload, 1) := by decide +kernel
theorem dX5_isKnownSight_6 : decode cX5_isKnownSight 6 = .ok (.ifCond .eq 17, 3) := by decide +kernel
theorem dX5_isKnownSight_9 : decode cX5_isKnownSight 9 = .ok (.aload_n 0, 1) := by decide +kernel
theorem dX5_isKnownSight_10 : decode cX5_isKnownSight 10 = .ok (.getfield 18, 3) := by decide +kernel
theorem dX5_isKnownSight_13 : decode cX5_isKnownSight 13 = .ok (.iload_n 1, 1) := by decide +kernel
theorem dX5_isKnownSight_14 : decode cX5_isKnownSight 14 = .ok (.iaload, 1) := by decide +kernel
theorem dX5_isKnownSight_15 : decode cX5_isKnownSight 15 = .ok (.iconst (-1), 1) := by decide +kernel
theorem dX5_isKnownSight_16 : decode cX5_isKnownSight 16 = .ok (.if_icmp .ne 7, 3) := by decide +kernel
theorem dX5_isKnownSight_19 : decode cX5_isKnownSight 19 = .ok (.iconst 1, 1) := by decide +kernel
theorem dX5_isKnownSight_20 : decode cX5_isKnownSight 20 = .ok (.goto 4, 3) := by decide +kernel
theorem dX5_isKnownSight_23 : decode cX5_isKnownSight 23 = .ok (.iconst 0, 1) := by decide +kernel
theorem dX5_isKnownSight_24 : decode cX5_isKnownSight 24 = .ok (.ireturn, 1) := by decide +kernel
theorem hd_X5_isKnownSight : yX5_isKnownSight.cls = xCn 5 ∧ yX5_isKnownSight.cls ≠ "java/lang/invoke/MethodHandle" ∧ yX5_isKnownSight.cls ≠ "java/lang/invoke/VarHandle" ∧ (parseMethodDescriptor yX5_isKnownSight.desc).map (fun d => d.parameters.length) = some 1 := by decide +kernel
def k_X5_isKnownSight_24 (sh : List xSh) (y0 : Int32) (d : xD) : Option (Int32 × xD) :=
  (xz y0).bind fun v1 => some (v1, d)
def k_X5_isKnownSight_23 (sh : List xSh) (d : xD) : Option (Int32 × xD) :=
  k_X5_isKnownSight_24 sh (0 : Int32) d
def f_X5_isKnownSight (sh : List xSh) (q0 : Nat) (x1 : Int32) (d : xD) : Option (Int32 × xD) :=
  (xgR 5 sh d q0 7).bind fun v2 => (xaI .boolean sh d v2 x1).bind fun v3 => if v3 = 0 then (k_X5_isKnownSight_23 sh d) else ((xgR 5 sh d q0 2).bind fun v4 => (xaI .int sh d v4 x1).bind fun v5 => if v5 = (-1 : Int32) then (k_X5_isKnownSight_24 sh (1 : Int32) d) else (k_X5_isKnownSight_23 sh d))
set_option maxHeartbeats 4000000 in
set_option maxRecDepth 100000 in
theorem mt_X5_isKnownSight (l : Launch) (D : va_G) (cid : FieldType → ClassId) (b : Nat) (ex : Bool) (sa sv B0 : Nat) (sh : List xSh) (q0 : Nat) (x1 : Int32) (d : xD) (r : Int32) (dz : xD) (hf : f_X5_isKnownSight sh q0 x1 d = some (r, dz)) : xMet l yX5_isKnownSight cX5_isKnownSight 2 (some .boolean) 0 0 0 D cid b ex sa sv B0 [.ref (b + q0), .int x1] sh d (some (.int r)) sh dz := by
  refine xMet.of (by decide) (Nat.le_of_ble_eq_true rfl) ?_
  intro p e s m below meth c ls A S hr hin G hl
  have hl : lv_has ls 2 [(0, .ref (b + q0)), (1, .int x1)] := hl
  generalize ([.ref (b + q0), .int x1] : List Value).toArray = av at S ⊢
  have hx := S.1
  have hb := S.2.1
  have hml := S.2.2.1
  have hown := S.2.2.2.1
  have hts := S.2.2.2.2.1
  have K24 : ∀ (y0 : Int32) (d : xD), k_X5_isKnownSight_24 sh y0 d = some (r, dz) → ∀ (H : Heap) (locs : List Loc) (ls : Array Slot), lv_has ls 2 [] → xG D cid b A sh d s H locs → W p l e (xRm 0 0 0) s m av below meth c H locs 0 0 (MQ below (xQ D cid b ex A (some (.int r)) sh dz) av s 0 0 A) (F0 m 24 ls [.int y0]) := by
    intro y0 d hf H locs ls hl G
    unfold k_X5_isKnownSight_24 at hf
    obtain ⟨v1, hv1, hf⟩ := x_ob hf
    cases hf
    exact xr_zret S G (fun _ => rfl) hr hv1 dX5_isKnownSight_24
  have K23 : ∀ (d : xD), k_X5_isKnownSight_23 sh d = some (r, dz) → ∀ (H : Heap) (locs : List Loc) (ls : Array Slot), lv_has ls 2 [] → xG D cid b A sh d s H locs → W p l e (xRm 0 0 0) s m av below meth c H locs 0 0 (MQ below (xQ D cid b ex A (some (.int r)) sh dz) av s 0 0 A) (F0 m 23 ls []) := by
    intro d hf H locs ls hl G
    unfold k_X5_isKnownSight_23 at hf
    refine lv_iconst (v := (0 : Int32)) hx hb dX5_isKnownSight_23 (by decide) ?_
    exact K24 (0 : Int32) d hf _ _ ls (lv_sub hl [] rfl) G
  unfold f_X5_isKnownSight at hf
  refine lv_aload_n hx hb dX5_isKnownSight_0 rfl (lv_at hl 0 rfl) ?_
  obtain ⟨v2, hv2, hf⟩ := x_ob hf
  refine xr_getR (ci := 5) (k := 7) S G hv2 rfl kw_450 dX5_isKnownSight_1 ?_
  refine lv_iload_n hx hb dX5_isKnownSight_4 rfl (lv_at hl 1 rfl) ?_
  obtain ⟨v3, hv3, hf⟩ := x_ob hf
  refine xr_zald S G hv3 dX5_isKnownSight_5 ?_
  refine lv_if_eq (tgt := 23) hx hb dX5_isKnownSight_6 (by decide) (fun c => ?_) (fun c => ?_)
  · have hf := x_pos c hf
    exact K23 d hf _ _ ls (lv_sub hl [] rfl) G
  · have hf := x_neg c hf
    refine lv_aload_n hx hb dX5_isKnownSight_9 rfl (lv_at hl 0 rfl) ?_
    obtain ⟨v4, hv4, hf⟩ := x_ob hf
    refine xr_getR (ci := 5) (k := 2) S G hv4 rfl kw_445 dX5_isKnownSight_10 ?_
    refine lv_iload_n hx hb dX5_isKnownSight_13 rfl (lv_at hl 1 rfl) ?_
    obtain ⟨v5, hv5, hf⟩ := x_ob hf
    refine xr_iald S G hv5 dX5_isKnownSight_14 ?_
    refine lv_iconst (v := (-1 : Int32)) hx hb dX5_isKnownSight_15 (by decide) ?_
    refine lv_icmp_ne (tgt := 23) hx hb dX5_isKnownSight_16 (by decide) (fun c => ?_) (fun c => ?_)
    · have hf := x_neg c hf
      exact K23 d hf _ _ ls (lv_sub hl [] rfl) G
    · have hf := x_pos c hf
      refine lv_iconst (v := (1 : Int32)) hx hb dX5_isKnownSight_19 (by decide) ?_
      refine lv_goto (tgt := 24) hx hb dX5_isKnownSight_20 (by decide) ?_
      exact K24 (1 : Int32) d hf _ _ ls (lv_sub hl [] rfl) G
-- HalfLandings$Seen.lastMinute()I
theorem dX5_lastMinute_0 : decode cX5_lastMinute 0 = .ok (.iconst 0, 1) := by decide +kernel
theorem dX5_lastMinute_1 : decode cX5_lastMinute 1 = .ok (.istore_n 1, 1) := by decide +kernel
theorem dX5_lastMinute_2 : decode cX5_lastMinute 2 = .ok (.iconst 0, 1) := by decide +kernel
theorem dX5_lastMinute_3 : decode cX5_lastMinute 3 = .ok (.istore_n 2, 1) := by decide +kernel
theorem dX5_lastMinute_4 : decode cX5_lastMinute 4 = .ok (.iload_n 2, 1) := by decide +kernel
theorem dX5_lastMinute_5 : decode cX5_lastMinute 5 = .ok (.aload_n 0, 1) := by decide +kernel
theorem dX5_lastMinute_6 : decode cX5_lastMinute 6 = .ok (.getfield 9, 3) := by decide +kernel
theorem dX5_lastMinute_9 : decode cX5_lastMinute 9 = .ok (.if_icmp .ge 28, 3) := by decide +kernel
theorem dX5_lastMinute_12 : decode cX5_lastMinute 12 = .ok (.aload_n 0, 1) := by decide +kernel
theorem dX5_lastMinute_13 : decode cX5_lastMinute 13 = .ok (.iload_n 2, 1) := by decide +kernel
theorem dX5_lastMinute_14 : decode cX5_lastMinute 14 = .ok (.invokevirtual 42, 3) := by decide +kernel
theorem dX5_lastMinute_17 : decode cX5_lastMinute 17 = .ok (.ifCond .eq 14, 3) := by decide +kernel
theorem dX5_lastMinute_20 : decode cX5_lastMinute 20 = .ok (.iload_n 1, 1) := by decide +kernel
theorem dX5_lastMinute_21 : decode cX5_lastMinute 21 = .ok (.aload_n 0, 1) := by decide +kernel
theorem dX5_lastMinute_22 : decode cX5_lastMinute 22 = .ok (.getfield 22, 3) := by decide +kernel
theorem dX5_lastMinute_25 : decode cX5_lastMinute 25 = .ok (.iload_n 2, 1) := by decide +kernel
theorem dX5_lastMinute_26 : decode cX5_lastMinute 26 = .ok (.iaload, 1) := by decide +kernel
theorem dX5_lastMinute_27 : decode cX5_lastMinute 27 = .ok (.invokestatic 46, 3) := by decide +kernel
theorem dX5_lastMinute_30 : decode cX5_lastMinute 30 = .ok (.istore_n 1, 1) := by decide +kernel
theorem dX5_lastMinute_31 : decode cX5_lastMinute 31 = .ok (.iinc 2 1, 3) := by decide +kernel
theorem dX5_lastMinute_34 : decode cX5_lastMinute 34 = .ok (.goto (-30), 3) := by decide +kernel
theorem dX5_lastMinute_37 : decode cX5_lastMinute 37 = .ok (.iload_n 1, 1) := by decide +kernel
theorem dX5_lastMinute_38 : decode cX5_lastMinute 38 = .ok (.ireturn, 1) := by decide +kernel
theorem hd_X5_lastMinute : yX5_lastMinute.cls = xCn 5 ∧ yX5_lastMinute.cls ≠ "java/lang/invoke/MethodHandle" ∧ yX5_lastMinute.cls ≠ "java/lang/invoke/VarHandle" ∧ (parseMethodDescriptor yX5_lastMinute.desc).map (fun d => d.parameters.length) = some 0 := by decide +kernel
def k_X5_lastMinute_37 (sh : List xSh) (x1 : Int32) (d : xD) : Option (Int32 × xD) :=
  some (x1, d)
def k_X5_lastMinute_31 (sh : List xSh) (rec4 : Nat → Int32 → Int32 → xD → Option (Int32 × xD)) (q0 : Nat) (x1 : Int32) (x2 : Int32) (d : xD) : Option (Int32 × xD) :=
  rec4 q0 x1 (x2 + 1) d
def b_X5_lastMinute_4 (sh : List xSh) (rec4 : Nat → Int32 → Int32 → xD → Option (Int32 × xD)) (q0 : Nat) (x1 : Int32) (x2 : Int32) (d : xD) : Option (Int32 × xD) :=
  (xgI 5 sh d q0 0).bind fun v1 => if v1 ≤ x2 then (k_X5_lastMinute_37 sh x1 d) else ((xon 5 sh q0 (f_X5_isKnownSight sh q0 x2 d)).bind fun z2 => if z2.1 = 0 then (k_X5_lastMinute_31 sh rec4 q0 x1 x2 z2.2) else ((xgR 5 sh z2.2 q0 3).bind fun v3 => (xaI .int sh z2.2 v3 x2).bind fun v4 => k_X5_lastMinute_31 sh rec4 q0 (if x1 < v4 then v4 else x1) x2 z2.2))
def f_X5_lastMinute (sh : List xSh) (q0 : Nat) (d : xD) : Option (Int32 × xD) :=
  xloop (fun _ _ _ _ => none) (b_X5_lastMinute_4 sh) xF q0 (0 : Int32) (0 : Int32) d
set_option maxHeartbeats 4000000 in
set_option maxRecDepth 100000 in
theorem mt_X5_lastMinute (l : Launch) (D : va_G) (cid : FieldType → ClassId) (b : Nat) (ex : Bool) (sa sv B0 : Nat) (sh : List xSh) (q0 : Nat) (d : xD) (r : Int32) (dz : xD) (hf : f_X5_lastMinute sh q0 d = some (r, dz)) : xMet l yX5_lastMinute cX5_lastMinute 3 (some .int) 1 0 0 D cid b ex sa sv B0 [.ref (b + q0)] sh d (some (.int r)) sh dz := by
  refine xMet.of (by decide) (Nat.le_of_ble_eq_true rfl) ?_
  intro p e s m below meth c ls A S hr hin G hl
  have hl : lv_has ls 3 [(0, .ref (b + q0))] := hl
  generalize ([.ref (b + q0)] : List Value).toArray = av at S ⊢
  have hx := S.1
  have hb := S.2.1
  have hml := S.2.2.1
  have hown := S.2.2.2.1
  have hts := S.2.2.2.2.1
  have K37 : ∀ (x1 : Int32) (d : xD), k_X5_lastMinute_37 sh x1 d = some (r, dz) → ∀ (H : Heap) (locs : List Loc) (ls : Array Slot), lv_has ls 3 [(1, .int x1)] → xG D cid b A sh d s H locs → W p l e (xRm 1 0 0) s m av below meth c H locs 0 0 (MQ below (xQ D cid b ex A (some (.int r)) sh dz) av s 0 0 A) (F0 m 37 ls []) := by
    intro x1 d hf H locs ls hl G
    unfold k_X5_lastMinute_37 at hf
    refine lv_iload_n hx hb dX5_lastMinute_37 rfl (lv_at hl 0 rfl) ?_
    cases hf
    exact xr_iret S G (fun _ => rfl) hr dX5_lastMinute_38
  have K31 : ∀ (rec4 : Nat → Int32 → Int32 → xD → Option (Int32 × xD)) (hrec4 : ∀ (q0 : Nat) (x1 : Int32) (x2 : Int32) (d : xD), rec4 q0 x1 x2 d = some (r, dz) → ∀ (H : Heap) (locs : List Loc) (ls : Array Slot), lv_has ls 3 [(0, .ref (b + q0)), (1, .int x1), (2, .int x2)] → xG D cid b A sh d s H locs → W p l e (xRm 1 0 0) s m av below meth c H locs 0 0 (MQ below (xQ D cid b ex A (some (.int r)) sh dz) av s 0 0 A) (F0 m 4 ls [])) (q0 : Nat) (x1 : Int32) (x2 : Int32) (d : xD), k_X5_lastMinute_31 sh rec4 q0 x1 x2 d = some (r, dz) → ∀ (H : Heap) (locs : List Loc) (ls : Array Slot), lv_has ls 3 [(0, .ref (b + q0)), (1, .int x1), (2, .int x2)] → xG D cid b A sh d s H locs → W p l e (xRm 1 0 0) s m av below meth c H locs 0 0 (MQ below (xQ D cid b ex A (some (.int r)) sh dz) av s 0 0 A) (F0 m 31 ls []) := by
    intro rec4 hrec4 q0 x1 x2 d hf H locs ls hl G
    unfold k_X5_lastMinute_31 at hf
    refine lv_iinc (v := (x2 + 1)) (lv' := [(2, .int (x2 + 1)), (0, .ref (b + q0)), (1, .int x1)]) hx hb dX5_lastMinute_31 hl (k := 2) rfl rfl (by decide) rfl (fun ls hl => ?_)
    refine lv_goto (tgt := 4) hx hb dX5_lastMinute_34 (by decide) ?_
    exact hrec4 q0 x1 (x2 + 1) d hf _ _ ls (lv_sub hl [1, 2, 0] rfl) G
  have K4 : ∀ (n : Nat) (q0 : Nat) (x1 : Int32) (x2 : Int32) (d : xD), xloop (fun _ _ _ _ => none) (b_X5_lastMinute_4 sh) n q0 x1 x2 d = some (r, dz) → ∀ (H : Heap) (locs : List Loc) (ls : Array Slot), lv_has ls 3 [(0, .ref (b + q0)), (1, .int x1), (2, .int x2)] → xG D cid b A sh d s H locs → W p l e (xRm 1 0 0) s m av below meth c H locs 0 0 (MQ below (xQ D cid b ex A (some (.int r)) sh dz) av s 0 0 A) (F0 m 4 ls []) := by
    intro n
    induction n with
    | zero =>
      intro q0 x1 x2 d hf
      have hf : (none : Option (Int32 × xD)) = some (r, dz) := hf
      cases hf
    | succ n hrec4 =>
      intro q0 x1 x2 d hf H locs ls hl G
      have hf : b_X5_lastMinute_4 sh (xloop (fun _ _ _ _ => none) (b_X5_lastMinute_4 sh) n) q0 x1 x2 d = some (r, dz) := hf
      unfold b_X5_lastMinute_4 at hf
      refine lv_iload_n hx hb dX5_lastMinute_4 rfl (lv_at hl 2 rfl) ?_
      refine lv_aload_n hx hb dX5_lastMinute_5 rfl (lv_at hl 0 rfl) ?_
      obtain ⟨v1, hv1, hf⟩ := x_ob hf
      refine xr_getI (ci := 5) (k := 0) S G hv1 rfl kw_441 dX5_lastMinute_6 ?_
      refine lv_icmp_ge (tgt := 37) hx hb dX5_lastMinute_9 (by decide) (fun c => ?_) (fun c => ?_)
      · have hf := x_pos c hf
        exact K37 x1 d hf _ _ ls (lv_sub hl [1] rfl) G
      · have hf := x_neg c hf
        refine lv_aload_n hx hb dX5_lastMinute_12 rfl (lv_at hl 0 rfl) ?_
        refine lv_iload_n hx hb dX5_lastMinute_13 rfl (lv_at hl 2 rfl) ?_
        obtain ⟨z2, hz2, hf⟩ := x_ob hf
        obtain ⟨hqz2, hz2⟩ := xon_of hz2
        refine xr_callV (ci := 5) (As := [.int x2]) (rest := []) (st1 := [.int z2.1]) S G hl.1 (fun _ => rfl) (mt_X5_isKnownSight l D cid b ex sa sv B0 sh q0 x2 d _ _ hz2) hqz2 (by decide) kw_1013 kw_1015 ks_32 kw_15 kw_1016 hd_X5_isKnownSight ⟨Nat.le_of_ble_eq_true rfl, Nat.le_of_ble_eq_true rfl⟩ rfl rfl rfl (Nat.le_of_ble_eq_true rfl) ⟨Nat.le_of_ble_eq_true rfl, Nat.le_of_ble_eq_true rfl⟩ dX5_lastMinute_14 (fun H locs G => ?_)
        refine lv_if_eq (tgt := 31) hx hb dX5_lastMinute_17 (by decide) (fun c => ?_) (fun c => ?_)
        · have hf := x_pos c hf
          exact K31 _ hrec4 q0 x1 x2 z2.2 hf _ _ ls (lv_sub hl [0, 1, 2] rfl) G
        · have hf := x_neg c hf
          refine lv_iload_n hx hb dX5_lastMinute_20 rfl (lv_at hl 1 rfl) ?_
          refine lv_aload_n hx hb dX5_lastMinute_21 rfl (lv_at hl 0 rfl) ?_
          obtain ⟨v3, hv3, hf⟩ := x_ob hf
          refine xr_getR (ci := 5) (k := 3) S G hv3 rfl kw_446 dX5_lastMinute_22 ?_
          refine lv_iload_n hx hb dX5_lastMinute_25 rfl (lv_at hl 2 rfl) ?_
          obtain ⟨v4, hv4, hf⟩ := x_ob hf
          refine xr_iald S G hv4 dX5_lastMinute_26 ?_
          refine va_mmax hx hb (hml.trans hl.1.symm) hown (hts _ kw_1017) (hts _ kw_1018) (hts _ kw_18) (hts _ kp_mmax) (Nat.le_of_ble_eq_true rfl) (Nat.le_of_ble_eq_true rfl) (Nat.le_refl _) (Nat.le_refl _) dX5_lastMinute_27 ?_
          refine lv_istore_n (lv' := [(1, .int (if x1 < v4 then v4 else x1)), (0, .ref (b + q0)), (2, .int x2)]) hx hb dX5_lastMinute_30 rfl hl (by decide) rfl (fun ls hl => ?_)
          exact K31 _ hrec4 q0 (if x1 < v4 then v4 else x1) x2 z2.2 hf _ _ ls (lv_sub hl [1, 0, 2] rfl) G
  unfold f_X5_lastMinute at hf
  refine lv_iconst (v := (0 : Int32)) hx hb dX5_lastMinute_0 (by decide) ?_
  refine lv_istore_n (lv' := [(1, .int (0 : Int32)), (0, .ref (b + q0))]) hx hb dX5_lastMinute_1 rfl hl (by decide) rfl (fun ls hl => ?_)
  refine lv_iconst (v := (0 : Int32)) hx hb dX5_lastMinute_2 (by decide) ?_
  refine lv_istore_n (lv' := [(2, .int (0 : Int32)), (1, .int (0 : Int32)), (0, .ref (b + q0))]) hx hb dX5_lastMinute_3 rfl hl (by decide) rfl (fun ls hl => ?_)
  exact K4 xF q0 (0 : Int32) (0 : Int32) d hf _ _ ls (lv_sub hl [2, 1, 0] rfl) G
-- HalfLandings$Seen.agrees(I[I)Z
theorem dX5_agrees_0 : decode cX5_agrees 0 = .ok (.iconst 0, 1) := by decide +kernel
theorem dX5_agrees_1 : decode cX5_agrees 1 = .ok (.istore_n 3, 1) := by decide +kernel
theorem dX5_agrees_2 : decode cX5_agrees 2 = .ok (.iload_n 3, 1) := by decide +kernel
theorem dX5_agrees_3 : decode cX5_agrees 3 = .ok (.aload_n 0, 1) := by decide +kernel
theorem dX5_agrees_4 : decode cX5_agrees 4 = .ok (.getfield 9, 3) := by decide +kernel
theorem dX5_agrees_7 : decode cX5_agrees 7 = .ok (.if_icmp .ge 60, 3) := by decide +kernel
theorem dX5_agrees_10 : decode cX5_agrees 10 = .ok (.aload_n 0, 1) := by decide +kernel
theorem dX5_agrees_11 : decode cX5_agrees 11 = .ok (.iload_n 3, 1) := by decide +kernel
theorem dX5_agrees_12 : decode cX5_agrees 12 = .ok (.invokevirtual 42, 3) := by decide +kernel
theorem dX5_agrees_15 : decode cX5_agrees 15 = .ok (.ifCond .eq 46, 3) := by decide +kernel
theorem dX5_agrees_18 : decode cX5_agrees 18 = .ok (.aload_n 0, 1) := by decide +kernel
theorem dX5_agrees_19 : decode cX5_agrees 19 = .ok (.getfield 22, 3) := by decide +kernel
theorem dX5_agrees_22 : decode cX5_agrees 22 = .ok (.iload_n 3, 1) := by decide +kernel
theorem dX5_agrees_23 : decode cX5_agrees 23 = .ok (.iaload, 1) := by decide +kernel
theorem dX5_agrees_24 : decode cX5_agrees 24 = .ok (.iload_n 1, 1) := by decide +kernel
theorem dX5_agrees_25 : decode cX5_agrees 25 = .ok (.if_icmp .ne 36, 3) := by decide +kernel
theorem dX5_agrees_28 : decode cX5_agrees 28 = .ok (.aload_n 2, 1) := by decide +kernel
theorem dX5_agrees_29 : decode cX5_agrees 29 = .ok (.aload_n 0, 1) := by decide +kernel
theorem dX5_agrees_30 : decode cX5_agrees 30 = .ok (.getfield 25, 3) := by decide +kernel
theorem dX5_agrees_33 : decode cX5_agrees 33 = .ok (.iload_n 3, 1) := by decide +kernel
theorem dX5_agrees_34 : decode cX5_agrees 34 = .ok (.iaload, 1) := by decide +kernel
theorem dX5_agrees_35 : decode cX5_agrees 35 = .ok (.iaload, 1) := by decide +kernel
theorem dX5_agrees_36 : decode cX5_agrees 36 = .ok (.aload_n 0, 1) := by decide +kernel
theorem dX5_agrees_37 : decode cX5_agrees 37 = .ok (.getfield 28, 3) := by decide +kernel
theorem dX5_agrees_40 : decode cX5_agrees 40 = .ok (.iload_n 3, 1) := by decide +kernel
theorem dX5_agrees_41 : decode cX5_agrees 41 = .ok (.iaload, 1) := by decide +kernel
theorem dX5_agrees_42 : decode cX5_agrees 42 = .ok (.if_icmp .lt 7, 3) := by decide +kernel
theorem dX5_agrees_45 : decode cX5_agrees 45 = .ok (.iconst 1, 1) := by decide +kernel
theorem dX5_agrees_46 : decode cX5_agrees 46 = .ok (.goto 4, 3) := by decide +kernel
theorem dX5_agrees_49 : decode cX5_agrees 49 = .ok (.iconst 0, 1) := by decide +kernel
theorem dX5_agrees_50 : decode cX5_agrees 50 = .ok (.aload_n 0, 1) := by decide +kernel
theorem dX5_agrees_51 : decode cX5_agrees 51 = .ok (.getfield 31, 3) := by decide +kernel
theorem dX5_agrees_54 : decode cX5_agrees 54 = .ok (.iload_n 3, 1) := by decide +kernel
theorem dX5_agrees_55 : decode cX5_agrees 55 = .ok (.baload, 1) := by decide +kernel
theorem dX5_agrees_56 : decode cX5_agrees 56 = .ok (.if_icmp .eq 5, 3) := by decide +kernel
theorem dX5_agrees_59 : decode cX5_agrees 59 = .ok (.iconst 0, 1) := by decide +kernel
theorem dX5_agrees_60 : decode cX5_agrees 60 = .ok (.ireturn, 1) := by decide +kernel
theorem dX5_agrees_61 : decode cX5_agrees 61 = .ok (.iinc 3 1, 3) := by decide +kernel
theorem dX5_agrees_64 : decode cX5_agrees 64 = .ok (.goto (-62), 3) := by decide +kernel
theorem dX5_agrees_67 : decode cX5_agrees 67 = .ok (.iconst 1, 1) := by decide +kernel
theorem dX5_agrees_68 : decode cX5_agrees 68 = .ok (.ireturn, 1) := by decide +kernel
theorem hd_X5_agrees : yX5_agrees.cls = xCn 5 ∧ yX5_agrees.cls ≠ "java/lang/invoke/MethodHandle" ∧ yX5_agrees.cls ≠ "java/lang/invoke/VarHandle" ∧ (parseMethodDescriptor yX5_agrees.desc).map (fun d => d.parameters.length) = some 2 := by decide +kernel
def k_X5_agrees_67 (sh : List xSh) (d : xD) : Option (Int32 × xD) :=
  some ((1 : Int32), d)
def k_X5_agrees_61 (sh : List xSh) (rec2 : Nat → Int32 → Nat → Int32 → xD → Option (Int32 × xD)) (q0 : Nat) (x1 : Int32) (q2 : Nat) (x3 : Int32) (d : xD) : Option (Int32 × xD) :=
  rec2 q0 x1 q2 (x3 + 1) d
def k_X5_agrees_59 (sh : List xSh) (d : xD) : Option (Int32 × xD) :=
  some ((0 : Int32), d)
def k_X5_agrees_50 (sh : List xSh) (rec2 : Nat → Int32 → Nat → Int32 → xD → Option (Int32 × xD)) (q0 : Nat) (x1 : Int32) (q2 : Nat) (x3 : Int32) (y0 : Int32) (d : xD) : Option (Int32 × xD) :=
  (xgR 5 sh d q0 6).bind fun v1 => (xaI .boolean sh d v1 x3).bind fun v2 => if y0 = v2 then (k_X5_agrees_61 sh rec2 q0 x1 q2 x3 d) else (k_X5_agrees_59 sh d)
def b_X5_agrees_2 (sh : List xSh) (rec2 : Nat → Int32 → Nat → Int32 → xD → Option (Int32 × xD)) (q0 : Nat) (x1 : Int32) (q2 : Nat) (x3 : Int32) (d : xD) : Option (Int32 × xD) :=
  (xgI 5 sh d q0 0).bind fun v3 => if v3 ≤ x3 then (k_X5_agrees_67 sh d) else ((xon 5 sh q0 (f_X5_isKnownSight sh q0 x3 d)).bind fun z4 => if z4.1 = 0 then (k_X5_agrees_61 sh rec2 q0 x1 q2 x3 z4.2) else ((xgR 5 sh z4.2 q0 3).bind fun v5 => (xaI .int sh z4.2 v5 x3).bind fun v6 => if v6 = x1 then ((xgR 5 sh z4.2 q0 4).bind fun v7 => (xaI .int sh z4.2 v7 x3).bind fun v8 => (xaI .int sh z4.2 q2 v8).bind fun v9 => (xgR 5 sh z4.2 q0 5).bind fun v10 => (xaI .int sh z4.2 v10 x3).bind fun v11 => if v9 < v11 then (k_X5_agrees_50 sh rec2 q0 x1 q2 x3 (0 : Int32) z4.2) else (k_X5_agrees_50 sh rec2 q0 x1 q2 x3 (1 : Int32) z4.2)) else (k_X5_agrees_61 sh rec2 q0 x1 q2 x3 z4.2)))
def f_X5_agrees (sh : List xSh) (q0 : Nat) (x1 : Int32) (q2 : Nat) (d : xD) : Option (Int32 × xD) :=
  xloop (fun _ _ _ _ _ => none) (b_X5_agrees_2 sh) xF q0 x1 q2 (0 : Int32) d
set_option maxHeartbeats 4000000 in
set_option maxRecDepth 100000 in
theorem mt_X5_agrees (l : Launch) (D : va_G) (cid : FieldType → ClassId) (b : Nat) (ex : Bool) (sa sv B0 : Nat) (sh : List xSh) (q0 : Nat) (x1 : Int32) (q2 : Nat) (d : xD) (r : Int32) (dz : xD) (hf : f_X5_agrees sh q0 x1 q2 d = some (r, dz)) : xMet l yX5_agrees cX5_agrees 4 (some .boolean) 1 0 0 D cid b ex sa sv B0 [.ref (b + q0), .int x1, .ref (b + q2)] sh d (some (.int r)) sh dz := by
  refine xMet.of (by decide) (Nat.le_of_ble_eq_true rfl) ?_
  intro p e s m below meth c ls A S hr hin G hl
  have hl : lv_has ls 4 [(0, .ref (b + q0)), (1, .int x1), (2, .ref (b + q2))] := hl
  generalize ([.ref (b + q0), .int x1, .ref (b + q2)] : List Value).toArray = av at S ⊢
  have hx := S.1
  have hb := S.2.1
  have hml := S.2.2.1
  have hown := S.2.2.2.1
  have hts := S.2.2.2.2.1
  have K67 : ∀ (d : xD), k_X5_agrees_67 sh d = some (r, dz) → ∀ (H : Heap) (locs : List Loc) (ls : Array Slot), lv_has ls 4 [] → xG D cid b A sh d s H locs → W p l e (xRm 1 0 0) s m av below meth c H locs 0 0 (MQ below (xQ D cid b ex A (some (.int r)) sh dz) av s 0 0 A) (F0 m 67 ls []) := by
    intro d hf H locs ls hl G
    unfold k_X5_agrees_67 at hf
    refine lv_iconst (v := (1 : Int32)) hx hb dX5_agrees_67 (by decide) ?_
    cases hf
    exact xr_zret S G (fun _ => rfl) hr (by decide) dX5_agrees_68
  have K61 : ∀ (rec2 : Nat → Int32 → Nat → Int32 → xD → Option (Int32 × xD)) (hrec2 : ∀ (q0 : Nat) (x1 : Int32) (q2 : Nat) (x3 : Int32) (d : xD), rec2 q0 x1 q2 x3 d = some (r, dz) → ∀ (H : Heap) (locs : List Loc) (ls : Array Slot), lv_has ls 4 [(0, .ref (b + q0)), (1, .int x1), (2, .ref (b + q2)), (3, .int x3)] → xG D cid b A sh d s H locs → W p l e (xRm 1 0 0) s m av below meth c H locs 0 0 (MQ below (xQ D cid b ex A (some (.int r)) sh dz) av s 0 0 A) (F0 m 2 ls [])) (q0 : Nat) (x1 : Int32) (q2 : Nat) (x3 : Int32) (d : xD), k_X5_agrees_61 sh rec2 q0 x1 q2 x3 d = some (r, dz) → ∀ (H : Heap) (locs : List Loc) (ls : Array Slot), lv_has ls 4 [(0, .ref (b + q0)), (1, .int x1), (2, .ref (b + q2)), (3, .int x3)] → xG D cid b A sh d s H locs → W p l e (xRm 1 0 0) s m av below meth c H locs 0 0 (MQ below (xQ D cid b ex A (some (.int r)) sh dz) av s 0 0 A) (F0 m 61 ls []) := by
    intro rec2 hrec2 q0 x1 q2 x3 d hf H locs ls hl G
    unfold k_X5_agrees_61 at hf
    refine lv_iinc (v := (x3 + 1)) (lv' := [(3, .int (x3 + 1)), (0, .ref (b + q0)), (1, .int x1), (2, .ref (b + q2))]) hx hb dX5_agrees_61 hl (k := 3) rfl rfl (by decide) rfl (fun ls hl => ?_)
    refine lv_goto (tgt := 2) hx hb dX5_agrees_64 (by decide) ?_
    exact hrec2 q0 x1 q2 (x3 + 1) d hf _ _ ls (lv_sub hl [1, 2, 3, 0] rfl) G
  have K59 : ∀ (d : xD), k_X5_agrees_59 sh d = some (r, dz) → ∀ (H : Heap) (locs : List Loc) (ls : Array Slot), lv_has ls 4 [] → xG D cid b A sh d s H locs → W p l e (xRm 1 0 0) s m av below meth c H locs 0 0 (MQ below (xQ D cid b ex A (some (.int r)) sh dz) av s 0 0 A) (F0 m 59 ls []) := by
    intro d hf H locs ls hl G
    unfold k_X5_agrees_59 at hf
    refine lv_iconst (v := (0 : Int32)) hx hb dX5_agrees_59 (by decide) ?_
    cases hf
    exact xr_zret S G (fun _ => rfl) hr (by decide) dX5_agrees_60
  have K50 : ∀ (rec2 : Nat → Int32 → Nat → Int32 → xD → Option (Int32 × xD)) (hrec2 : ∀ (q0 : Nat) (x1 : Int32) (q2 : Nat) (x3 : Int32) (d : xD), rec2 q0 x1 q2 x3 d = some (r, dz) → ∀ (H : Heap) (locs : List Loc) (ls : Array Slot), lv_has ls 4 [(0, .ref (b + q0)), (1, .int x1), (2, .ref (b + q2)), (3, .int x3)] → xG D cid b A sh d s H locs → W p l e (xRm 1 0 0) s m av below meth c H locs 0 0 (MQ below (xQ D cid b ex A (some (.int r)) sh dz) av s 0 0 A) (F0 m 2 ls [])) (q0 : Nat) (x1 : Int32) (q2 : Nat) (x3 : Int32) (y0 : Int32) (d : xD), k_X5_agrees_50 sh rec2 q0 x1 q2 x3 y0 d = some (r, dz) → ∀ (H : Heap) (locs : List Loc) (ls : Array Slot), lv_has ls 4 [(0, .ref (b + q0)), (1, .int x1), (2, .ref (b + q2)), (3, .int x3)] → xG D cid b A sh d s H locs → W p l e (xRm 1 0 0) s m av below meth c H locs 0 0 (MQ below (xQ D cid b ex A (some (.int r)) sh dz) av s 0 0 A) (F0 m 50 ls [.int y0]) := by
    intro rec2 hrec2 q0 x1 q2 x3 y0 d hf H locs ls hl G
    unfold k_X5_agrees_50 at hf
    refine lv_aload_n hx hb dX5_agrees_50 rfl (lv_at hl 0 rfl) ?_
    obtain ⟨v1, hv1, hf⟩ := x_ob hf
    refine xr_getR (ci := 5) (k := 6) S G hv1 rfl kw_449 dX5_agrees_51 ?_
    refine lv_iload_n hx hb dX5_agrees_54 rfl (lv_at hl 3 rfl) ?_
    obtain ⟨v2, hv2, hf⟩ := x_ob hf
    refine xr_zald S G hv2 dX5_agrees_55 ?_
    refine lv_icmp_eq (tgt := 61) hx hb dX5_agrees_56 (by decide) (fun c => ?_) (fun c => ?_)
    · have hf := x_pos c hf
      exact K61 _ hrec2 q0 x1 q2 x3 d hf _ _ ls (lv_sub hl [0, 1, 2, 3] rfl) G
    · have hf := x_neg c hf
      exact K59 d hf _ _ ls (lv_sub hl [] rfl) G
  have K2 : ∀ (n : Nat) (q0 : Nat) (x1 : Int32) (q2 : Nat) (x3 : Int32) (d : xD), xloop (fun _ _ _ _ _ => none) (b_X5_agrees_2 sh) n q0 x1 q2 x3 d = some (r, dz) → ∀ (H : Heap) (locs : List Loc) (ls : Array Slot), lv_has ls 4 [(0, .ref (b + q0)), (1, .int x1), (2, .ref (b + q2)), (3, .int x3)] → xG D cid b A sh d s H locs → W p l e (xRm 1 0 0) s m av below meth c H locs 0 0 (MQ below (xQ D cid b ex A (some (.int r)) sh dz) av s 0 0 A) (F0 m 2 ls []) := by
    intro n
    induction n with
    | zero =>
      intro q0 x1 q2 x3 d hf
      have hf : (none : Option (Int32 × xD)) = some (r, dz) := hf
      cases hf
    | succ n hrec2 =>
      intro q0 x1 q2 x3 d hf H locs ls hl G
      have hf : b_X5_agrees_2 sh (xloop (fun _ _ _ _ _ => none) (b_X5_agrees_2 sh) n) q0 x1 q2 x3 d = some (r, dz) := hf
      unfold b_X5_agrees_2 at hf
      refine lv_iload_n hx hb dX5_agrees_2 rfl (lv_at hl 3 rfl) ?_
      refine lv_aload_n hx hb dX5_agrees_3 rfl (lv_at hl 0 rfl) ?_
      obtain ⟨v3, hv3, hf⟩ := x_ob hf
      refine xr_getI (ci := 5) (k := 0) S G hv3 rfl kw_441 dX5_agrees_4 ?_
      refine lv_icmp_ge (tgt := 67) hx hb dX5_agrees_7 (by decide) (fun c => ?_) (fun c => ?_)
      · have hf := x_pos c hf
        exact K67 d hf _ _ ls (lv_sub hl [] rfl) G
      · have hf := x_neg c hf
        refine lv_aload_n hx hb dX5_agrees_10 rfl (lv_at hl 0 rfl) ?_
        refine lv_iload_n hx hb dX5_agrees_11 rfl (lv_at hl 3 rfl) ?_
        obtain ⟨z4, hz4, hf⟩ := x_ob hf
        obtain ⟨hqz4, hz4⟩ := xon_of hz4
        refine xr_callV (ci := 5) (As := [.int x3]) (rest := []) (st1 := [.int z4.1]) S G hl.1 (fun _ => rfl) (mt_X5_isKnownSight l D cid b ex sa sv B0 sh q0 x3 d _ _ hz4) hqz4 (by decide) kw_1013 kw_1015 ks_32 kw_15 kw_1016 hd_X5_isKnownSight ⟨Nat.le_of_ble_eq_true rfl, Nat.le_of_ble_eq_true rfl⟩ rfl rfl rfl (Nat.le_of_ble_eq_true rfl) ⟨Nat.le_of_ble_eq_true rfl, Nat.le_of_ble_eq_true rfl⟩ dX5_agrees_12 (fun H locs G => ?_)
        refine lv_if_eq (tgt := 61) hx hb dX5_agrees_15 (by decide) (fun c => ?_) (fun c => ?_)
        · have hf := x_pos c hf
          exact K61 _ hrec2 q0 x1 q2 x3 z4.2 hf _ _ ls (lv_sub hl [0, 1, 2, 3] rfl) G
        · have hf := x_neg c hf
          refine lv_aload_n hx hb dX5_agrees_18 rfl (lv_at hl 0 rfl) ?_
          obtain ⟨v5, hv5, hf⟩ := x_ob hf
          refine xr_getR (ci := 5) (k := 3) S G hv5 rfl kw_446 dX5_agrees_19 ?_
          refine lv_iload_n hx hb dX5_agrees_22 rfl (lv_at hl 3 rfl) ?_
          obtain ⟨v6, hv6, hf⟩ := x_ob hf
          refine xr_iald S G hv6 dX5_agrees_23 ?_
          refine lv_iload_n hx hb dX5_agrees_24 rfl (lv_at hl 1 rfl) ?_
          refine lv_icmp_ne (tgt := 61) hx hb dX5_agrees_25 (by decide) (fun c => ?_) (fun c => ?_)
          · have hf := x_neg c hf
            exact K61 _ hrec2 q0 x1 q2 x3 z4.2 hf _ _ ls (lv_sub hl [0, 1, 2, 3] rfl) G
          · have hf := x_pos c hf
            refine lv_aload_n hx hb dX5_agrees_28 rfl (lv_at hl 2 rfl) ?_
            refine lv_aload_n hx hb dX5_agrees_29 rfl (lv_at hl 0 rfl) ?_
            obtain ⟨v7, hv7, hf⟩ := x_ob hf
            refine xr_getR (ci := 5) (k := 4) S G hv7 rfl kw_447 dX5_agrees_30 ?_
            refine lv_iload_n hx hb dX5_agrees_33 rfl (lv_at hl 3 rfl) ?_
            obtain ⟨v8, hv8, hf⟩ := x_ob hf
            refine xr_iald S G hv8 dX5_agrees_34 ?_
            obtain ⟨v9, hv9, hf⟩ := x_ob hf
            refine xr_iald S G hv9 dX5_agrees_35 ?_
            refine lv_aload_n hx hb dX5_agrees_36 rfl (lv_at hl 0 rfl) ?_
            obtain ⟨v10, hv10, hf⟩ := x_ob hf
            refine xr_getR (ci := 5) (k := 5) S G hv10 rfl kw_448 dX5_agrees_37 ?_
            refine lv_iload_n hx hb dX5_agrees_40 rfl (lv_at hl 3 rfl) ?_
            obtain ⟨v11, hv11, hf⟩ := x_ob hf
            refine xr_iald S G hv11 dX5_agrees_41 ?_
            refine lv_icmp_lt (tgt := 49) hx hb dX5_agrees_42 (by decide) (fun c => ?_) (fun c => ?_)
            · have hf := x_pos c hf
              refine lv_iconst (v := (0 : Int32)) hx hb dX5_agrees_49 (by decide) ?_
              exact K50 _ hrec2 q0 x1 q2 x3 (0 : Int32) z4.2 hf _ _ ls (lv_sub hl [0, 1, 2, 3] rfl) G
            · have hf := x_neg c hf
              refine lv_iconst (v := (1 : Int32)) hx hb dX5_agrees_45 (by decide) ?_
              refine lv_goto (tgt := 50) hx hb dX5_agrees_46 (by decide) ?_
              exact K50 _ hrec2 q0 x1 q2 x3 (1 : Int32) z4.2 hf _ _ ls (lv_sub hl [0, 1, 2, 3] rfl) G
  unfold f_X5_agrees at hf
  refine lv_iconst (v := (0 : Int32)) hx hb dX5_agrees_0 (by decide) ?_
  refine lv_istore_n (lv' := [(3, .int (0 : Int32)), (0, .ref (b + q0)), (1, .int x1), (2, .ref (b + q2))]) hx hb dX5_agrees_1 rfl hl (by decide) rfl (fun ls hl => ?_)
  exact K2 xF q0 x1 q2 (0 : Int32) d hf _ _ ls (lv_sub hl [1, 2, 3, 0] rfl) G
-- HalfLandings$Tokens.start(I)V
theorem dX7_start_0 : decode cX7_start 0 = .ok (.aload_n 0, 1) := by decide +kernel
theorem dX7_start_1 : decode cX7_start 1 = .ok (.iload_n 1, 1) := by decide +kernel
theorem dX7_start_2 : decode cX7_start 2 = .ok (.aload_n 0, 1) := by decide +kernel
theorem dX7_start_3 : decode cX7_start 3 = .ok (.getfield 37, 3) := by decide +kernel
theorem dX7_start_6 : decode cX7_start 6 = .ok (.arraylength, 1) := by decide +kernel
theorem dX7_start_7 : decode cX7_start 7 = .ok (.invokestatic 56, 3) := by decide +kernel
theorem dX7_start_10 : decode cX7_start 10 = .ok (.putfield 31, 3) := by decide +kernel
theorem dX7_start_13 : decode cX7_start 13 = .ok (.aload_n 0, 1) := by decide +kernel
theorem dX7_start_14 : decode cX7_start 14 = .ok (.iconst 0, 1) := by decide +kernel
theorem dX7_start_15 : decode cX7_start 15 = .ok (.putfield 34, 3) := by decide +kernel
theorem dX7_start_18 : decode cX7_start 18 = .ok (.aload_n 0, 1) := by decide +kernel
theorem dX7_start_19 : decode cX7_start 19 = .ok (.iconst 0, 1) := by decide +kernel
theorem dX7_start_20 : decode cX7_start 20 = .ok (.putfield 21, 3) := by decide +kernel
theorem dX7_start_23 : decode cX7_start 23 = .ok (.aload_n 0, 1) := by decide +kernel
theorem dX7_start_24 : decode cX7_start 24 = .ok (.iconst (-1), 1) := by decide +kernel
theorem dX7_start_25 : decode cX7_start 25 = .ok (.putfield 24, 3) := by decide +kernel
theorem dX7_start_28 : decode cX7_start 28 = .ok (.aload_n 0, 1) := by decide +kernel
theorem dX7_start_29 : decode cX7_start 29 = .ok (.invokevirtual 61, 3) := by decide +kernel
theorem dX7_start_32 : decode cX7_start 32 = .ok (.return_, 1) := by decide +kernel
theorem hd_X7_start : yX7_start.cls = xCn 7 ∧ yX7_start.cls ≠ "java/lang/invoke/MethodHandle" ∧ yX7_start.cls ≠ "java/lang/invoke/VarHandle" ∧ (parseMethodDescriptor yX7_start.desc).map (fun d => d.parameters.length) = some 1 := by decide +kernel
def f_X7_start (sh : List xSh) (q0 : Nat) (x1 : Int32) (d : xD) : Option xD :=
  (xgR 7 sh d q0 5).bind fun v1 => (xlen .byte sh v1).bind fun v2 => (xpI 7 sh d q0 7 (if (nI v2) < x1 then (nI v2) else x1)).bind fun d3 => (xpI 7 sh d3 q0 8 (0 : Int32)).bind fun d4 => (xpI 7 sh d4 q0 3 (0 : Int32)).bind fun d5 => (xpI 7 sh d5 q0 4 (-1 : Int32)).bind fun d6 => (xon 7 sh q0 (f_X7_next sh q0 d6)).bind fun d7 => some d7
set_option maxHeartbeats 4000000 in
set_option maxRecDepth 100000 in
theorem mt_X7_start (l : Launch) (D : va_G) (cid : FieldType → ClassId) (b : Nat) (ex : Bool) (sa sv B0 : Nat) (sh : List xSh) (q0 : Nat) (x1 : Int32) (d : xD) (dz : xD) (hf : f_X7_start sh q0 x1 d = some dz) : xMet l yX7_start cX7_start 2 none 3 0 0 D cid b ex sa sv B0 [.ref (b + q0), .int x1] sh d none sh dz := by
  refine xMet.of (by decide) (Nat.le_of_ble_eq_true rfl) ?_
  intro p e s m below meth c ls A S hr hin G hl
  have hl : lv_has ls 2 [(0, .ref (b + q0)), (1, .int x1)] := hl
  generalize ([.ref (b + q0), .int x1] : List Value).toArray = av at S ⊢
  have hx := S.1
  have hb := S.2.1
  have hml := S.2.2.1
  have hown := S.2.2.2.1
  have hts := S.2.2.2.2.1
  unfold f_X7_start at hf
  refine lv_aload_n hx hb dX7_start_0 rfl (lv_at hl 0 rfl) ?_
  refine lv_iload_n hx hb dX7_start_1 rfl (lv_at hl 1 rfl) ?_
  refine lv_aload_n hx hb dX7_start_2 rfl (lv_at hl 0 rfl) ?_
  obtain ⟨v1, hv1, hf⟩ := x_ob hf
  refine xr_getR (ci := 7) (k := 5) S G hv1 rfl kw_240 dX7_start_3 ?_
  obtain ⟨v2, hv2, hf⟩ := x_ob hf
  refine xr_blen S G hv2 dX7_start_6 ?_
  refine va_mmin hx hb (hml.trans hl.1.symm) hown (hts _ kw_555) (hts _ kw_556) (hts _ kw_18) (hts _ kp_mmin) (Nat.le_of_ble_eq_true rfl) (Nat.le_of_ble_eq_true rfl) (Nat.le_refl _) (Nat.le_refl _) dX7_start_7 ?_
  obtain ⟨d3, hd3, hf⟩ := x_ob hf
  refine xr_putI (ci := 7) (k := 7) S G hd3 rfl kw_242 dX7_start_10 (fun H locs G => ?_)
  refine lv_aload_n hx hb dX7_start_13 rfl (lv_at hl 0 rfl) ?_
  refine lv_iconst (v := (0 : Int32)) hx hb dX7_start_14 (by decide) ?_
  obtain ⟨d4, hd4, hf⟩ := x_ob hf
  refine xr_putI (ci := 7) (k := 8) S G hd4 rfl kw_243 dX7_start_15 (fun H locs G => ?_)
  refine lv_aload_n hx hb dX7_start_18 rfl (lv_at hl 0 rfl) ?_
  refine lv_iconst (v := (0 : Int32)) hx hb dX7_start_19 (by decide) ?_
  obtain ⟨d5, hd5, hf⟩ := x_ob hf
  refine xr_putI (ci := 7) (k := 3) S G hd5 rfl kw_236 dX7_start_20 (fun H locs G => ?_)
  refine lv_aload_n hx hb dX7_start_23 rfl (lv_at hl 0 rfl) ?_
  refine lv_iconst (v := (-1 : Int32)) hx hb dX7_start_24 (by decide) ?_
  obtain ⟨d6, hd6, hf⟩ := x_ob hf
  refine xr_putI (ci := 7) (k := 4) S G hd6 rfl kw_238 dX7_start_25 (fun H locs G => ?_)
  refine lv_aload_n hx hb dX7_start_28 rfl (lv_at hl 0 rfl) ?_
  obtain ⟨d7, hd7, hf⟩ := x_ob hf
  obtain ⟨hqd7, hd7⟩ := xon_of hd7
  refine xr_callV (ci := 7) (As := []) (rest := []) (st1 := []) S G hl.1 (fun _ => rfl) (mt_X7_next l D cid b ex sa sv B0 sh q0 d6 _ hd7) hqd7 (by decide) kw_558 kw_559 kw_560 kw_5 kw_561 hd_X7_next ⟨Nat.le_of_ble_eq_true rfl, Nat.le_of_ble_eq_true rfl⟩ rfl rfl rfl (Nat.le_of_ble_eq_true rfl) ⟨Nat.le_of_ble_eq_true rfl, Nat.le_of_ble_eq_true rfl⟩ dX7_start_29 (fun H locs G => ?_)
  cases hf
  exact xr_vret S G (fun _ => rfl) hr dX7_start_32
-- HalfLandings$TextReader.isNumber(II)Z
theorem dX6_isNumber_0 : decode cX6_isNumber 0 = .ok (.aload_n 0, 1) := by decide +kernel
theorem dX6_isNumber_1 : decode cX6_isNumber 1 = .ok (.getfield 15, 3) := by decide +kernel
theorem dX6_isNumber_4 : decode cX6_isNumber 4 = .ok (.getfield 38, 3) := by decide +kernel
theorem dX6_isNumber_7 : decode cX6_isNumber 7 = .ok (.bipush 22, 2) := by decide +kernel
theorem dX6_isNumber_9 : decode cX6_isNumber 9 = .ok (.if_icmp .eq 12, 3) := by decide +kernel
theorem dX6_isNumber_12 : decode cX6_isNumber 12 = .ok (.aload_n 0, 1) := by decide +kernel
theorem dX6_isNumber_13 : decode cX6_isNumber 13 = .ok (.getfield 15, 3) := by decide +kernel
theorem dX6_isNumber_16 : decode cX6_isNumber 16 = .ok (.iconst 1, 1) := by decide +kernel
theorem dX6_isNumber_17 : decode cX6_isNumber 17 = .ok (.invokevirtual 45, 3) := by decide +kernel
theorem dX6_isNumber_20 : decode cX6_isNumber 20 = .ok (.ireturn, 1) := by decide +kernel
theorem dX6_isNumber_21 : decode cX6_isNumber 21 = .ok (.aload_n 0, 1) := by decide +kernel
theorem dX6_isNumber_22 : decode cX6_isNumber 22 = .ok (.getfield 15, 3) := by decide +kernel
theorem dX6_isNumber_25 : decode cX6_isNumber 25 = .ok (.getfield 75, 3) := by decide +kernel
theorem dX6_isNumber_28 : decode cX6_isNumber 28 = .ok (.iload_n 1, 1) := by decide +kernel
theorem dX6_isNumber_29 : decode cX6_isNumber 29 = .ok (.if_icmp .lt 14, 3) := by decide +kernel
theorem dX6_isNumber_32 : decode cX6_isNumber 32 = .ok (.aload_n 0, 1) := by decide +kernel
theorem dX6_isNumber_33 : decode cX6_isNumber 33 = .ok (.getfield 15, 3) := by decide +kernel
theorem dX6_isNumber_36 : decode cX6_isNumber 36 = .ok (.getfield 75, 3) := by decide +kernel
theorem dX6_isNumber_39 : decode cX6_isNumber 39 = .ok (.iload_n 2, 1) := by decide +kernel
theorem dX6_isNumber_40 : decode cX6_isNumber 40 = .ok (.if_icmp .le 14, 3) := by decide +kernel
theorem dX6_isNumber_43 : decode cX6_isNumber 43 = .ok (.aload_n 0, 1) := by decide +kernel
theorem dX6_isNumber_44 : decode cX6_isNumber 44 = .ok (.getfield 15, 3) := by decide +kernel
theorem dX6_isNumber_47 : decode cX6_isNumber 47 = .ok (.iconst 2, 1) := by decide +kernel
theorem dX6_isNumber_48 : decode cX6_isNumber 48 = .ok (.invokevirtual 45, 3) := by decide +kernel
theorem dX6_isNumber_51 : decode cX6_isNumber 51 = .ok (.ifCond .eq 7, 3) := by decide +kernel
theorem dX6_isNumber_54 : decode cX6_isNumber 54 = .ok (.iconst 1, 1) := by decide +kernel
theorem dX6_isNumber_55 : decode cX6_isNumber 55 = .ok (.goto 4, 3) := by decide +kernel
theorem dX6_isNumber_58 : decode cX6_isNumber 58 = .ok (.iconst 0, 1) := by decide +kernel
theorem dX6_isNumber_59 : decode cX6_isNumber 59 = .ok (.ireturn, 1) := by decide +kernel
theorem hd_X6_isNumber : yX6_isNumber.cls = xCn 6 ∧ yX6_isNumber.cls ≠ "java/lang/invoke/MethodHandle" ∧ yX6_isNumber.cls ≠ "java/lang/invoke/VarHandle" ∧ (parseMethodDescriptor yX6_isNumber.desc).map (fun d => d.parameters.length) = some 2 := by decide +kernel
def k_X6_isNumber_59 (sh : List xSh) (y0 : Int32) (d : xD) : Option (Int32 × xD) :=
  (xz y0).bind fun v1 => some (v1, d)
def k_X6_isNumber_54 (sh : List xSh) (d : xD) : Option (Int32 × xD) :=
  k_X6_isNumber_59 sh (1 : Int32) d
def k_X6_isNumber_43 (sh : List xSh) (q0 : Nat) (d : xD) : Option (Int32 × xD) :=
  (xgR 6 sh d q0 0).bind fun v2 => (xon 7 sh v2 (f_X7_refuse sh v2 (2 : Int32) d)).bind fun z3 => if z3.1 = 0 then (k_X6_isNumber_59 sh (0 : Int32) z3.2) else (k_X6_isNumber_54 sh z3.2)
def f_X6_isNumber (sh : List xSh) (q0 : Nat) (x1 : Int32) (x2 : Int32) (d : xD) : Option (Int32 × xD) :=
  (xgR 6 sh d q0 0).bind fun v4 => (xgI 7 sh d v4 0).bind fun v5 => if v5 = (22 : Int32) then ((xgR 6 sh d q0 0).bind fun v6 => (xgI 7 sh d v6 2).bind fun v7 => if v7 < x1 then (k_X6_isNumber_43 sh q0 d) else ((xgR 6 sh d q0 0).bind fun v8 => (xgI 7 sh d v8 2).bind fun v9 => if v9 ≤ x2 then (k_X6_isNumber_54 sh d) else (k_X6_isNumber_43 sh q0 d))) else ((xgR 6 sh d q0 0).bind fun v10 => (xon 7 sh v10 (f_X7_refuse sh v10 (1 : Int32) d)).bind fun z11 => (xz z11.1).bind fun v12 => some (v12, z11.2))
set_option maxHeartbeats 4000000 in
set_option maxRecDepth 100000 in
theorem mt_X6_isNumber (l : Launch) (D : va_G) (cid : FieldType → ClassId) (b : Nat) (ex : Bool) (sa sv B0 : Nat) (sh : List xSh) (q0 : Nat) (x1 : Int32) (x2 : Int32) (d : xD) (r : Int32) (dz : xD) (hf : f_X6_isNumber sh q0 x1 x2 d = some (r, dz)) : xMet l yX6_isNumber cX6_isNumber 3 (some .boolean) 1 0 0 D cid b ex sa sv B0 [.ref (b + q0), .int x1, .int x2] sh d (some (.int r)) sh dz := by
  refine xMet.of (by decide) (Nat.le_of_ble_eq_true rfl) ?_
  intro p e s m below meth c ls A S hr hin G hl
  have hl : lv_has ls 3 [(0, .ref (b + q0)), (1, .int x1), (2, .int x2)] := hl
  generalize ([.ref (b + q0), .int x1, .int x2] : List Value).toArray = av at S ⊢
  have hx := S.1
  have hb := S.2.1
  have hml := S.2.2.1
  have hown := S.2.2.2.1
  have hts := S.2.2.2.2.1
  have K59 : ∀ (y0 : Int32) (d : xD), k_X6_isNumber_59 sh y0 d = some (r, dz) → ∀ (H : Heap) (locs : List Loc) (ls : Array Slot), lv_has ls 3 [] → xG D cid b A sh d s H locs → W p l e (xRm 1 0 0) s m av below meth c H locs 0 0 (MQ below (xQ D cid b ex A (some (.int r)) sh dz) av s 0 0 A) (F0 m 59 ls [.int y0]) := by
    intro y0 d hf H locs ls hl G
    unfold k_X6_isNumber_59 at hf
    obtain ⟨v1, hv1, hf⟩ := x_ob hf
    cases hf
    exact xr_zret S G (fun _ => rfl) hr hv1 dX6_isNumber_59
  have K54 : ∀ (d : xD), k_X6_isNumber_54 sh d = some (r, dz) → ∀ (H : Heap) (locs : List Loc) (ls : Array Slot), lv_has ls 3 [] → xG D cid b A sh d s H locs → W p l e (xRm 1 0 0) s m av below meth c H locs 0 0 (MQ below (xQ D cid b ex A (some (.int r)) sh dz) av s 0 0 A) (F0 m 54 ls []) := by
    intro d hf H locs ls hl G
    unfold k_X6_isNumber_54 at hf
    refine lv_iconst (v := (1 : Int32)) hx hb dX6_isNumber_54 (by decide) ?_
    refine lv_goto (tgt := 59) hx hb dX6_isNumber_55 (by decide) ?_
    exact K59 (1 : Int32) d hf _ _ ls (lv_sub hl [] rfl) G
  have K43 : ∀ (q0 : Nat) (d : xD), k_X6_isNumber_43 sh q0 d = some (r, dz) → ∀ (H : Heap) (locs : List Loc) (ls : Array Slot), lv_has ls 3 [(0, .ref (b + q0))] → xG D cid b A sh d s H locs → W p l e (xRm 1 0 0) s m av below meth c H locs 0 0 (MQ below (xQ D cid b ex A (some (.int r)) sh dz) av s 0 0 A) (F0 m 43 ls []) := by
    intro q0 d hf H locs ls hl G
    unfold k_X6_isNumber_43 at hf
    refine lv_aload_n hx hb dX6_isNumber_43 rfl (lv_at hl 0 rfl) ?_
    obtain ⟨v2, hv2, hf⟩ := x_ob hf
    refine xr_getR (ci := 6) (k := 0) S G hv2 rfl kw_294 dX6_isNumber_44 ?_
    refine lv_iconst (v := (2 : Int32)) hx hb dX6_isNumber_47 (by decide) ?_
    obtain ⟨z3, hz3, hf⟩ := x_ob hf
    obtain ⟨hqz3, hz3⟩ := xon_of hz3
    refine xr_callV (ci := 7) (As := [.int (2 : Int32)]) (rest := []) (st1 := [.int z3.1]) S G hl.1 (fun _ => rfl) (mt_X7_refuse l D cid b ex sa sv B0 sh v2 (2 : Int32) d _ _ hz3) hqz3 (by decide) kw_605 kw_606 kw_607 kw_5 kw_608 hd_X7_refuse ⟨Nat.le_of_ble_eq_true rfl, Nat.le_of_ble_eq_true rfl⟩ rfl rfl rfl (Nat.le_of_ble_eq_true rfl) ⟨Nat.le_of_ble_eq_true rfl, Nat.le_of_ble_eq_true rfl⟩ dX6_isNumber_48 (fun H locs G => ?_)
    refine lv_if_eq (tgt := 58) hx hb dX6_isNumber_51 (by decide) (fun c => ?_) (fun c => ?_)
    · have hf := x_pos c hf
      refine lv_iconst (v := (0 : Int32)) hx hb dX6_isNumber_58 (by decide) ?_
      exact K59 (0 : Int32) z3.2 hf _ _ ls (lv_sub hl [] rfl) G
    · have hf := x_neg c hf
      exact K54 z3.2 hf _ _ ls (lv_sub hl [] rfl) G
  unfold f_X6_isNumber at hf
  refine lv_aload_n hx hb dX6_isNumber_0 rfl (lv_at hl 0 rfl) ?_
  obtain ⟨v4, hv4, hf⟩ := x_ob hf
  refine xr_getR (ci := 6) (k := 0) S G hv4 rfl kw_294 dX6_isNumber_1 ?_
  obtain ⟨v5, hv5, hf⟩ := x_ob hf
  refine xr_getI (ci := 7) (k := 0) S G hv5 rfl kw_230 dX6_isNumber_4 ?_
  refine lv_bipush (v := (22 : Int32)) hx hb dX6_isNumber_7 (by decide) ?_
  refine lv_icmp_eq (tgt := 21) hx hb dX6_isNumber_9 (by decide) (fun c => ?_) (fun c => ?_)
  · have hf := x_pos c hf
    refine lv_aload_n hx hb dX6_isNumber_21 rfl (lv_at hl 0 rfl) ?_
    obtain ⟨v6, hv6, hf⟩ := x_ob hf
    refine xr_getR (ci := 6) (k := 0) S G hv6 rfl kw_294 dX6_isNumber_22 ?_
    obtain ⟨v7, hv7, hf⟩ := x_ob hf
    refine xr_getI (ci := 7) (k := 2) S G hv7 rfl kw_235 dX6_isNumber_25 ?_
    refine lv_iload_n hx hb dX6_isNumber_28 rfl (lv_at hl 1 rfl) ?_
    refine lv_icmp_lt (tgt := 43) hx hb dX6_isNumber_29 (by decide) (fun c => ?_) (fun c => ?_)
    · have hf := x_pos c hf
      exact K43 q0 d hf _ _ ls (lv_sub hl [0] rfl) G
    · have hf := x_neg c hf
      refine lv_aload_n hx hb dX6_isNumber_32 rfl (lv_at hl 0 rfl) ?_
      obtain ⟨v8, hv8, hf⟩ := x_ob hf
      refine xr_getR (ci := 6) (k := 0) S G hv8 rfl kw_294 dX6_isNumber_33 ?_
      obtain ⟨v9, hv9, hf⟩ := x_ob hf
      refine xr_getI (ci := 7) (k := 2) S G hv9 rfl kw_235 dX6_isNumber_36 ?_
      refine lv_iload_n hx hb dX6_isNumber_39 rfl (lv_at hl 2 rfl) ?_
      refine lv_icmp_le (tgt := 54) hx hb dX6_isNumber_40 (by decide) (fun c => ?_) (fun c => ?_)
      · have hf := x_pos c hf
        exact K54 d hf _ _ ls (lv_sub hl [] rfl) G
      · have hf := x_neg c hf
        exact K43 q0 d hf _ _ ls (lv_sub hl [0] rfl) G
  · have hf := x_neg c hf
    refine lv_aload_n hx hb dX6_isNumber_12 rfl (lv_at hl 0 rfl) ?_
    obtain ⟨v10, hv10, hf⟩ := x_ob hf
    refine xr_getR (ci := 6) (k := 0) S G hv10 rfl kw_294 dX6_isNumber_13 ?_
    refine lv_iconst (v := (1 : Int32)) hx hb dX6_isNumber_16 (by decide) ?_
    obtain ⟨z11, hz11, hf⟩ := x_ob hf
    obtain ⟨hqz11, hz11⟩ := xon_of hz11
    refine xr_callV (ci := 7) (As := [.int (1 : Int32)]) (rest := []) (st1 := [.int z11.1]) S G hl.1 (fun _ => rfl) (mt_X7_refuse l D cid b ex sa sv B0 sh v10 (1 : Int32) d _ _ hz11) hqz11 (by decide) kw_605 kw_606 kw_607 kw_5 kw_608 hd_X7_refuse ⟨Nat.le_of_ble_eq_true rfl, Nat.le_of_ble_eq_true rfl⟩ rfl rfl rfl (Nat.le_of_ble_eq_true rfl) ⟨Nat.le_of_ble_eq_true rfl, Nat.le_of_ble_eq_true rfl⟩ dX6_isNumber_17 (fun H locs G => ?_)
    obtain ⟨v12, hv12, hf⟩ := x_ob hf
    cases hf
    exact xr_zret S G (fun _ => rfl) hr hv12 dX6_isNumber_20
-- HalfLandings$TextReader.readStair()Z
theorem dX6_readStair_0 : decode cX6_readStair 0 = .ok (.aload_n 0, 1) := by decide +kernel
theorem dX6_readStair_1 : decode cX6_readStair 1 = .ok (.getfield 15, 3) := by decide +kernel
theorem dX6_readStair_4 : decode cX6_readStair 4 = .ok (.invokevirtual 49, 3) := by decide +kernel
theorem dX6_readStair_7 : decode cX6_readStair 7 = .ok (.aload_n 0, 1) := by decide +kernel
theorem dX6_readStair_8 : decode cX6_readStair 8 = .ok (.iconst 2, 1) := by decide +kernel
theorem dX6_readStair_9 : decode cX6_readStair 9 = .ok (.bipush 60, 2) := by decide +kernel
theorem dX6_readStair_11 : decode cX6_readStair 11 = .ok (.invokevirtual 71, 3) := by decide +kernel
theorem dX6_readStair_14 : decode cX6_readStair 14 = .ok (.ifCond .ne 5, 3) := by decide +kernel
theorem dX6_readStair_17 : decode cX6_readStair 17 = .ok (.iconst 0, 1) := by decide +kernel
theorem dX6_readStair_18 : decode cX6_readStair 18 = .ok (.ireturn, 1) := by decide +kernel
theorem dX6_readStair_19 : decode cX6_readStair 19 = .ok (.aload_n 0, 1) := by decide +kernel
theorem dX6_readStair_20 : decode cX6_readStair 20 = .ok (.getfield 19, 3) := by decide +kernel
theorem dX6_readStair_23 : decode cX6_readStair 23 = .ok (.aload_n 0, 1) := by decide +kernel
theorem dX6_readStair_24 : decode cX6_readStair 24 = .ok (.getfield 15, 3) := by decide +kernel
theorem dX6_readStair_27 : decode cX6_readStair 27 = .ok (.getfield 75, 3) := by decide +kernel
theorem dX6_readStair_30 : decode cX6_readStair 30 = .ok (.putfield 78, 3) := by decide +kernel
theorem dX6_readStair_33 : decode cX6_readStair 33 = .ok (.aload_n 0, 1) := by decide +kernel
theorem dX6_readStair_34 : decode cX6_readStair 34 = .ok (.getfield 15, 3) := by decide +kernel
theorem dX6_readStair_37 : decode cX6_readStair 37 = .ok (.invokevirtual 49, 3) := by decide +kernel
theorem dX6_readStair_40 : decode cX6_readStair 40 = .ok (.iconst 1, 1) := by decide +kernel
theorem dX6_readStair_41 : decode cX6_readStair 41 = .ok (.ireturn, 1) := by decide +kernel
theorem hd_X6_readStair : yX6_readStair.cls = xCn 6 ∧ yX6_readStair.cls ≠ "java/lang/invoke/MethodHandle" ∧ yX6_readStair.cls ≠ "java/lang/invoke/VarHandle" ∧ (parseMethodDescriptor yX6_readStair.desc).map (fun d => d.parameters.length) = some 0 := by decide +kernel
def f_X6_readStair (sh : List xSh) (q0 : Nat) (d : xD) : Option (Int32 × xD) :=
  (xgR 6 sh d q0 0).bind fun v1 => (xon 7 sh v1 (f_X7_next sh v1 d)).bind fun d2 => (xon 6 sh q0 (f_X6_isNumber sh q0 (2 : Int32) (60 : Int32) d2)).bind fun z3 => if z3.1 = 0 then (some ((0 : Int32), z3.2)) else ((xgR 6 sh z3.2 q0 2).bind fun v4 => (xgR 6 sh z3.2 q0 0).bind fun v5 => (xgI 7 sh z3.2 v5 2).bind fun v6 => (xpI 3 sh z3.2 v4 0 v6).bind fun d7 => (xgR 6 sh d7 q0 0).bind fun v8 => (xon 7 sh v8 (f_X7_next sh v8 d7)).bind fun d9 => some ((1 : Int32), d9))
set_option maxHeartbeats 4000000 in
set_option maxRecDepth 100000 in
theorem mt_X6_readStair (l : Launch) (D : va_G) (cid : FieldType → ClassId) (b : Nat) (ex : Bool) (sa sv B0 : Nat) (sh : List xSh) (q0 : Nat) (d : xD) (r : Int32) (dz : xD) (hf : f_X6_readStair sh q0 d = some (r, dz)) : xMet l yX6_readStair cX6_readStair 1 (some .boolean) 3 0 0 D cid b ex sa sv B0 [.ref (b + q0)] sh d (some (.int r)) sh dz := by
  refine xMet.of (by decide) (Nat.le_of_ble_eq_true rfl) ?_
  intro p e s m below meth c ls A S hr hin G hl
  have hl : lv_has ls 1 [(0, .ref (b + q0))] := hl
  generalize ([.ref (b + q0)] : List Value).toArray = av at S ⊢
  have hx := S.1
  have hb := S.2.1
  have hml := S.2.2.1
  have hown := S.2.2.2.1
  have hts := S.2.2.2.2.1
  unfold f_X6_readStair at hf
  refine lv_aload_n hx hb dX6_readStair_0 rfl (lv_at hl 0 rfl) ?_
  obtain ⟨v1, hv1, hf⟩ := x_ob hf
  refine xr_getR (ci := 6) (k := 0) S G hv1 rfl kw_294 dX6_readStair_1 ?_
  obtain ⟨d2, hd2, hf⟩ := x_ob hf
  obtain ⟨hqd2, hd2⟩ := xon_of hd2
  refine xr_callV (ci := 7) (As := []) (rest := []) (st1 := []) S G hl.1 (fun _ => rfl) (mt_X7_next l D cid b ex sa sv B0 sh v1 d _ hd2) hqd2 (by decide) kw_600 kw_559 kw_560 kw_5 kw_561 hd_X7_next ⟨Nat.le_of_ble_eq_true rfl, Nat.le_of_ble_eq_true rfl⟩ rfl rfl rfl (Nat.le_of_ble_eq_true rfl) ⟨Nat.le_of_ble_eq_true rfl, Nat.le_of_ble_eq_true rfl⟩ dX6_readStair_4 (fun H locs G => ?_)
  refine lv_aload_n hx hb dX6_readStair_7 rfl (lv_at hl 0 rfl) ?_
  refine lv_iconst (v := (2 : Int32)) hx hb dX6_readStair_8 (by decide) ?_
  refine lv_bipush (v := (60 : Int32)) hx hb dX6_readStair_9 (by decide) ?_
  obtain ⟨z3, hz3, hf⟩ := x_ob hf
  obtain ⟨hqz3, hz3⟩ := xon_of hz3
  refine xr_callV (ci := 6) (As := [.int (2 : Int32), .int (60 : Int32)]) (rest := []) (st1 := [.int z3.1]) S G hl.1 (fun _ => rfl) (mt_X6_isNumber l D cid b ex sa sv B0 sh q0 (2 : Int32) (60 : Int32) d2 _ _ hz3) hqz3 (by decide) kw_601 kw_603 ks_8 kw_10 kw_604 hd_X6_isNumber ⟨Nat.le_of_ble_eq_true rfl, Nat.le_of_ble_eq_true rfl⟩ rfl rfl rfl (Nat.le_of_ble_eq_true rfl) ⟨Nat.le_of_ble_eq_true rfl, Nat.le_of_ble_eq_true rfl⟩ dX6_readStair_11 (fun H locs G => ?_)
  refine lv_if_ne (tgt := 19) hx hb dX6_readStair_14 (by decide) (fun c => ?_) (fun c => ?_)
  · have hf := x_neg c hf
    refine lv_aload_n hx hb dX6_readStair_19 rfl (lv_at hl 0 rfl) ?_
    obtain ⟨v4, hv4, hf⟩ := x_ob hf
    refine xr_getR (ci := 6) (k := 2) S G hv4 rfl kw_296 dX6_readStair_20 ?_
    refine lv_aload_n hx hb dX6_readStair_23 rfl (lv_at hl 0 rfl) ?_
    obtain ⟨v5, hv5, hf⟩ := x_ob hf
    refine xr_getR (ci := 6) (k := 0) S G hv5 rfl kw_294 dX6_readStair_24 ?_
    obtain ⟨v6, hv6, hf⟩ := x_ob hf
    refine xr_getI (ci := 7) (k := 2) S G hv6 rfl kw_235 dX6_readStair_27 ?_
    obtain ⟨d7, hd7, hf⟩ := x_ob hf
    refine xr_putI (ci := 3) (k := 0) S G hd7 rfl kw_79 dX6_readStair_30 (fun H locs G => ?_)
    refine lv_aload_n hx hb dX6_readStair_33 rfl (lv_at hl 0 rfl) ?_
    obtain ⟨v8, hv8, hf⟩ := x_ob hf
    refine xr_getR (ci := 6) (k := 0) S G hv8 rfl kw_294 dX6_readStair_34 ?_
    obtain ⟨d9, hd9, hf⟩ := x_ob hf
    obtain ⟨hqd9, hd9⟩ := xon_of hd9
    refine xr_callV (ci := 7) (As := []) (rest := []) (st1 := []) S G hl.1 (fun _ => rfl) (mt_X7_next l D cid b ex sa sv B0 sh v8 d7 _ hd9) hqd9 (by decide) kw_600 kw_559 kw_560 kw_5 kw_561 hd_X7_next ⟨Nat.le_of_ble_eq_true rfl, Nat.le_of_ble_eq_true rfl⟩ rfl rfl rfl (Nat.le_of_ble_eq_true rfl) ⟨Nat.le_of_ble_eq_true rfl, Nat.le_of_ble_eq_true rfl⟩ dX6_readStair_37 (fun H locs G => ?_)
    refine lv_iconst (v := (1 : Int32)) hx hb dX6_readStair_40 (by decide) ?_
    cases hf
    exact xr_zret S G (fun _ => rfl) hr (by decide) dX6_readStair_41
  · have hf := x_pos c hf
    refine lv_iconst (v := (0 : Int32)) hx hb dX6_readStair_17 (by decide) ?_
    cases hf
    exact xr_zret S G (fun _ => rfl) hr (by decide) dX6_readStair_18
-- HalfLandings$TextReader.isNewName(I)Z
theorem dX6_isNewName_0 : decode cX6_isNewName 0 = .ok (.aload_n 0, 1) := by decide +kernel
theorem dX6_isNewName_1 : decode cX6_isNewName 1 = .ok (.getfield 15, 3) := by decide +kernel
theorem dX6_isNewName_4 : decode cX6_isNewName 4 = .ok (.getfield 38, 3) := by decide +kernel
theorem dX6_isNewName_7 : decode cX6_isNewName 7 = .ok (.bipush 21, 2) := by decide +kernel
theorem dX6_isNewName_9 : decode cX6_isNewName 9 = .ok (.if_icmp .eq 12, 3) := by decide +kernel
theorem dX6_isNewName_12 : decode cX6_isNewName 12 = .ok (.aload_n 0, 1) := by decide +kernel
theorem dX6_isNewName_13 : decode cX6_isNewName 13 = .ok (.getfield 15, 3) := by decide +kernel
theorem dX6_isNewName_16 : decode cX6_isNewName 16 = .ok (.iconst 1, 1) := by decide +kernel
theorem dX6_isNewName_17 : decode cX6_isNewName 17 = .ok (.invokevirtual 45, 3) := by decide +kernel
theorem dX6_isNewName_20 : decode cX6_isNewName 20 = .ok (.ireturn, 1) := by decide +kernel
theorem dX6_isNewName_21 : decode cX6_isNewName 21 = .ok (.iload_n 1, 1) := by decide +kernel
theorem dX6_isNewName_22 : decode cX6_isNewName 22 = .ok (.iconst (-1), 1) := by decide +kernel
theorem dX6_isNewName_23 : decode cX6_isNewName 23 = .ok (.if_icmp .eq 14, 3) := by decide +kernel
theorem dX6_isNewName_26 : decode cX6_isNewName 26 = .ok (.aload_n 0, 1) := by decide +kernel
theorem dX6_isNewName_27 : decode cX6_isNewName 27 = .ok (.getfield 15, 3) := by decide +kernel
theorem dX6_isNewName_30 : decode cX6_isNewName 30 = .ok (.iconst 3, 1) := by decide +kernel
theorem dX6_isNewName_31 : decode cX6_isNewName 31 = .ok (.invokevirtual 45, 3) := by decide +kernel
theorem dX6_isNewName_34 : decode cX6_isNewName 34 = .ok (.ifCond .eq 7, 3) := by decide +kernel
theorem dX6_isNewName_37 : decode cX6_isNewName 37 = .ok (.iconst 1, 1) := by decide +kernel
theorem dX6_isNewName_38 : decode cX6_isNewName 38 = .ok (.goto 4, 3) := by decide +kernel
theorem dX6_isNewName_41 : decode cX6_isNewName 41 = .ok (.iconst 0, 1) := by decide +kernel
theorem dX6_isNewName_42 : decode cX6_isNewName 42 = .ok (.ireturn, 1) := by decide +kernel
theorem hd_X6_isNewName : yX6_isNewName.cls = xCn 6 ∧ yX6_isNewName.cls ≠ "java/lang/invoke/MethodHandle" ∧ yX6_isNewName.cls ≠ "java/lang/invoke/VarHandle" ∧ (parseMethodDescriptor yX6_isNewName.desc).map (fun d => d.parameters.length) = some 1 := by decide +kernel
def k_X6_isNewName_42 (sh : List xSh) (y0 : Int32) (d : xD) : Option (Int32 × xD) :=
  (xz y0).bind fun v1 => some (v1, d)
def k_X6_isNewName_37 (sh : List xSh) (d : xD) : Option (Int32 × xD) :=
  k_X6_isNewName_42 sh (1 : Int32) d
def f_X6_isNewName (sh : List xSh) (q0 : Nat) (x1 : Int32) (d : xD) : Option (Int32 × xD) :=
  (xgR 6 sh d q0 0).bind fun v2 => (xgI 7 sh d v2 0).bind fun v3 => if v3 = (21 : Int32) then (if x1 = (-1 : Int32) then (k_X6_isNewName_37 sh d) else ((xgR 6 sh d q0 0).bind fun v4 => (xon 7 sh v4 (f_X7_refuse sh v4 (3 : Int32) d)).bind fun z5 => if z5.1 = 0 then (k_X6_isNewName_42 sh (0 : Int32) z5.2) else (k_X6_isNewName_37 sh z5.2))) else ((xgR 6 sh d q0 0).bind fun v6 => (xon 7 sh v6 (f_X7_refuse sh v6 (1 : Int32) d)).bind fun z7 => (xz z7.1).bind fun v8 => some (v8, z7.2))
set_option maxHeartbeats 4000000 in
set_option maxRecDepth 100000 in
theorem mt_X6_isNewName (l : Launch) (D : va_G) (cid : FieldType → ClassId) (b : Nat) (ex : Bool) (sa sv B0 : Nat) (sh : List xSh) (q0 : Nat) (x1 : Int32) (d : xD) (r : Int32) (dz : xD) (hf : f_X6_isNewName sh q0 x1 d = some (r, dz)) : xMet l yX6_isNewName cX6_isNewName 2 (some .boolean) 1 0 0 D cid b ex sa sv B0 [.ref (b + q0), .int x1] sh d (some (.int r)) sh dz := by
  refine xMet.of (by decide) (Nat.le_of_ble_eq_true rfl) ?_
  intro p e s m below meth c ls A S hr hin G hl
  have hl : lv_has ls 2 [(0, .ref (b + q0)), (1, .int x1)] := hl
  generalize ([.ref (b + q0), .int x1] : List Value).toArray = av at S ⊢
  have hx := S.1
  have hb := S.2.1
  have hml := S.2.2.1
  have hown := S.2.2.2.1
  have hts := S.2.2.2.2.1
  have K42 : ∀ (y0 : Int32) (d : xD), k_X6_isNewName_42 sh y0 d = some (r, dz) → ∀ (H : Heap) (locs : List Loc) (ls : Array Slot), lv_has ls 2 [] → xG D cid b A sh d s H locs → W p l e (xRm 1 0 0) s m av below meth c H locs 0 0 (MQ below (xQ D cid b ex A (some (.int r)) sh dz) av s 0 0 A) (F0 m 42 ls [.int y0]) := by
    intro y0 d hf H locs ls hl G
    unfold k_X6_isNewName_42 at hf
    obtain ⟨v1, hv1, hf⟩ := x_ob hf
    cases hf
    exact xr_zret S G (fun _ => rfl) hr hv1 dX6_isNewName_42
  have K37 : ∀ (d : xD), k_X6_isNewName_37 sh d = some (r, dz) → ∀ (H : Heap) (locs : List Loc) (ls : Array Slot), lv_has ls 2 [] → xG D cid b A sh d s H locs → W p l e (xRm 1 0 0) s m av below meth c H locs 0 0 (MQ below (xQ D cid b ex A (some (.int r)) sh dz) av s 0 0 A) (F0 m 37 ls []) := by
    intro d hf H locs ls hl G
    unfold k_X6_isNewName_37 at hf
    refine lv_iconst (v := (1 : Int32)) hx hb dX6_isNewName_37 (by decide) ?_
    refine lv_goto (tgt := 42) hx hb dX6_isNewName_38 (by decide) ?_
    exact K42 (1 : Int32) d hf _ _ ls (lv_sub hl [] rfl) G
  unfold f_X6_isNewName at hf
  refine lv_aload_n hx hb dX6_isNewName_0 rfl (lv_at hl 0 rfl) ?_
  obtain ⟨v2, hv2, hf⟩ := x_ob hf
  refine xr_getR (ci := 6) (k := 0) S G hv2 rfl kw_294 dX6_isNewName_1 ?_
  obtain ⟨v3, hv3, hf⟩ := x_ob hf
  refine xr_getI (ci := 7) (k := 0) S G hv3 rfl kw_230 dX6_isNewName_4 ?_
  refine lv_bipush (v := (21 : Int32)) hx hb dX6_isNewName_7 (by decide) ?_
  refine lv_icmp_eq (tgt := 21) hx hb dX6_isNewName_9 (by decide) (fun c => ?_) (fun c => ?_)
  · have hf := x_pos c hf
    refine lv_iload_n hx hb dX6_isNewName_21 rfl (lv_at hl 1 rfl) ?_
    refine lv_iconst (v := (-1 : Int32)) hx hb dX6_isNewName_22 (by decide) ?_
    refine lv_icmp_eq (tgt := 37) hx hb dX6_isNewName_23 (by decide) (fun c => ?_) (fun c => ?_)
    · have hf := x_pos c hf
      exact K37 d hf _ _ ls (lv_sub hl [] rfl) G
    · have hf := x_neg c hf
      refine lv_aload_n hx hb dX6_isNewName_26 rfl (lv_at hl 0 rfl) ?_
      obtain ⟨v4, hv4, hf⟩ := x_ob hf
      refine xr_getR (ci := 6) (k := 0) S G hv4 rfl kw_294 dX6_isNewName_27 ?_
      refine lv_iconst (v := (3 : Int32)) hx hb dX6_isNewName_30 (by decide) ?_
      obtain ⟨z5, hz5, hf⟩ := x_ob hf
      obtain ⟨hqz5, hz5⟩ := xon_of hz5
      refine xr_callV (ci := 7) (As := [.int (3 : Int32)]) (rest := []) (st1 := [.int z5.1]) S G hl.1 (fun _ => rfl) (mt_X7_refuse l D cid b ex sa sv B0 sh v4 (3 : Int32) d _ _ hz5) hqz5 (by decide) kw_605 kw_606 kw_607 kw_5 kw_608 hd_X7_refuse ⟨Nat.le_of_ble_eq_true rfl, Nat.le_of_ble_eq_true rfl⟩ rfl rfl rfl (Nat.le_of_ble_eq_true rfl) ⟨Nat.le_of_ble_eq_true rfl, Nat.le_of_ble_eq_true rfl⟩ dX6_isNewName_31 (fun H locs G => ?_)
      refine lv_if_eq (tgt := 41) hx hb dX6_isNewName_34 (by decide) (fun c => ?_) (fun c => ?_)
      · have hf := x_pos c hf
        refine lv_iconst (v := (0 : Int32)) hx hb dX6_isNewName_41 (by decide) ?_
        exact K42 (0 : Int32) z5.2 hf _ _ ls (lv_sub hl [] rfl) G
      · have hf := x_neg c hf
        exact K37 z5.2 hf _ _ ls (lv_sub hl [] rfl) G
  · have hf := x_neg c hf
    refine lv_aload_n hx hb dX6_isNewName_12 rfl (lv_at hl 0 rfl) ?_
    obtain ⟨v6, hv6, hf⟩ := x_ob hf
    refine xr_getR (ci := 6) (k := 0) S G hv6 rfl kw_294 dX6_isNewName_13 ?_
    refine lv_iconst (v := (1 : Int32)) hx hb dX6_isNewName_16 (by decide) ?_
    obtain ⟨z7, hz7, hf⟩ := x_ob hf
    obtain ⟨hqz7, hz7⟩ := xon_of hz7
    refine xr_callV (ci := 7) (As := [.int (1 : Int32)]) (rest := []) (st1 := [.int z7.1]) S G hl.1 (fun _ => rfl) (mt_X7_refuse l D cid b ex sa sv B0 sh v6 (1 : Int32) d _ _ hz7) hqz7 (by decide) kw_605 kw_606 kw_607 kw_5 kw_608 hd_X7_refuse ⟨Nat.le_of_ble_eq_true rfl, Nat.le_of_ble_eq_true rfl⟩ rfl rfl rfl (Nat.le_of_ble_eq_true rfl) ⟨Nat.le_of_ble_eq_true rfl, Nat.le_of_ble_eq_true rfl⟩ dX6_isNewName_17 (fun H locs G => ?_)
    obtain ⟨v8, hv8, hf⟩ := x_ob hf
    cases hf
    exact xr_zret S G (fun _ => rfl) hr hv8 dX6_isNewName_20
-- HalfLandings$TextReader.readBench()Z
theorem dX6_readBench_0 : decode cX6_readBench 0 = .ok (.aload_n 0, 1) := by decide +kernel
theorem dX6_readBench_1 : decode cX6_readBench 1 = .ok (.getfield 19, 3) := by decide +kernel
theorem dX6_readBench_4 : decode cX6_readBench 4 = .ok (.getfield 83, 3) := by decide +kernel
theorem dX6_readBench_7 : decode cX6_readBench 7 = .ok (.bipush 8, 2) := by decide +kernel
theorem dX6_readBench_9 : decode cX6_readBench 9 = .ok (.if_icmp .lt 12, 3) := by decide +kernel
theorem dX6_readBench_12 : decode cX6_readBench 12 = .ok (.aload_n 0, 1) := by decide +kernel
theorem dX6_readBench_13 : decode cX6_readBench 13 = .ok (.getfield 15, 3) := by decide +kernel
theorem dX6_readBench_16 : decode cX6_readBench 16 = .ok (.iconst 2, 1) := by decide +kernel
theorem dX6_readBench_17 : decode cX6_readBench 17 = .ok (.invokevirtual 45, 3) := by decide +kernel
theorem dX6_readBench_20 : decode cX6_readBench 20 = .ok (.ireturn, 1) := by decide +kernel
theorem dX6_readBench_21 : decode cX6_readBench 21 = .ok (.aload_n 0, 1) := by decide +kernel
theorem dX6_readBench_22 : decode cX6_readBench 22 = .ok (.getfield 15, 3) := by decide +kernel
theorem dX6_readBench_25 : decode cX6_readBench 25 = .ok (.invokevirtual 49, 3) := by decide +kernel
theorem dX6_readBench_28 : decode cX6_readBench 28 = .ok (.aload_n 0, 1) := by decide +kernel
theorem dX6_readBench_29 : decode cX6_readBench 29 = .ok (.aload_n 0, 1) := by decide +kernel
theorem dX6_readBench_30 : decode cX6_readBench 30 = .ok (.getfield 19, 3) := by decide +kernel
theorem dX6_readBench_33 : decode cX6_readBench 33 = .ok (.aload_n 0, 1) := by decide +kernel
theorem dX6_readBench_34 : decode cX6_readBench 34 = .ok (.getfield 15, 3) := by decide +kernel
theorem dX6_readBench_37 : decode cX6_readBench 37 = .ok (.getfield 75, 3) := by decide +kernel
theorem dX6_readBench_40 : decode cX6_readBench 40 = .ok (.invokevirtual 86, 3) := by decide +kernel
theorem dX6_readBench_43 : decode cX6_readBench 43 = .ok (.invokevirtual 90, 3) := by decide +kernel
theorem dX6_readBench_46 : decode cX6_readBench 46 = .ok (.ifCond .ne 5, 3) := by decide +kernel
theorem dX6_readBench_49 : decode cX6_readBench 49 = .ok (.iconst 0, 1) := by decide +kernel
theorem dX6_readBench_50 : decode cX6_readBench 50 = .ok (.ireturn, 1) := by decide +kernel
theorem dX6_readBench_51 : decode cX6_readBench 51 = .ok (.aload_n 0, 1) := by decide +kernel
theorem dX6_readBench_52 : decode cX6_readBench 52 = .ok (.getfield 15, 3) := by decide +kernel
theorem dX6_readBench_55 : decode cX6_readBench 55 = .ok (.getfield 75, 3) := by decide +kernel
theorem dX6_readBench_58 : decode cX6_readBench 58 = .ok (.istore_n 1, 1) := by decide +kernel
theorem dX6_readBench_59 : decode cX6_readBench 59 = .ok (.aload_n 0, 1) := by decide +kernel
theorem dX6_readBench_60 : decode cX6_readBench 60 = .ok (.getfield 15, 3) := by decide +kernel
theorem dX6_readBench_63 : decode cX6_readBench 63 = .ok (.invokevirtual 49, 3) := by decide +kernel
theorem dX6_readBench_66 : decode cX6_readBench 66 = .ok (.aload_n 0, 1) := by decide +kernel
theorem dX6_readBench_67 : decode cX6_readBench 67 = .ok (.iconst 1, 1) := by decide +kernel
theorem dX6_readBench_68 : decode cX6_readBench 68 = .ok (.aload_n 0, 1) := by decide +kernel
theorem dX6_readBench_69 : decode cX6_readBench 69 = .ok (.getfield 19, 3) := by decide +kernel
theorem dX6_readBench_72 : decode cX6_readBench 72 = .ok (.getfield 78, 3) := by decide +kernel
theorem dX6_readBench_75 : decode cX6_readBench 75 = .ok (.iconst 1, 1) := by decide +kernel
theorem dX6_readBench_76 : decode cX6_readBench 76 = .ok (.isub, 1) := by decide +kernel
theorem dX6_readBench_77 : decode cX6_readBench 77 = .ok (.invokevirtual 71, 3) := by decide +kernel
theorem dX6_readBench_80 : decode cX6_readBench 80 = .ok (.ifCond .ne 5, 3) := by decide +kernel
theorem dX6_readBench_83 : decode cX6_readBench 83 = .ok (.iconst 0, 1) := by decide +kernel
theorem dX6_readBench_84 : decode cX6_readBench 84 = .ok (.ireturn, 1) := by decide +kernel
theorem dX6_readBench_85 : decode cX6_readBench 85 = .ok (.aload_n 0, 1) := by decide +kernel
theorem dX6_readBench_86 : decode cX6_readBench 86 = .ok (.getfield 15, 3) := by decide +kernel
theorem dX6_readBench_89 : decode cX6_readBench 89 = .ok (.getfield 75, 3) := by decide +kernel
theorem dX6_readBench_92 : decode cX6_readBench 92 = .ok (.istore_n 2, 1) := by decide +kernel
theorem dX6_readBench_93 : decode cX6_readBench 93 = .ok (.aload_n 0, 1) := by decide +kernel
theorem dX6_readBench_94 : decode cX6_readBench 94 = .ok (.getfield 19, 3) := by decide +kernel
theorem dX6_readBench_97 : decode cX6_readBench 97 = .ok (.iload_n 2, 1) := by decide +kernel
theorem dX6_readBench_98 : decode cX6_readBench 98 = .ok (.invokevirtual 93, 3) := by decide +kernel
theorem dX6_readBench_101 : decode cX6_readBench 101 = .ok (.iconst (-1), 1) := by decide +kernel
theorem dX6_readBench_102 : decode cX6_readBench 102 = .ok (.if_icmp .eq 12, 3) := by decide +kernel
theorem dX6_readBench_105 : decode cX6_readBench 105 = .ok (.aload_n 0, 1) := by decide +kernel
theorem dX6_readBench_106 : decode cX6_readBench 106 = .ok (.getfield 15, 3) := by decide +kernel
theorem dX6_readBench_109 : decode cX6_readBench 109 = .ok (.iconst 3, 1) := by decide +kernel
theorem dX6_readBench_110 : decode cX6_readBench 110 = .ok (.invokevirtual 45, 3) := by decide +kernel
theorem dX6_readBench_113 : decode cX6_readBench 113 = .ok (.ireturn, 1) := by decide +kernel
theorem dX6_readBench_114 : decode cX6_readBench 114 = .ok (.aload_n 0, 1) := by decide +kernel
theorem dX6_readBench_115 : decode cX6_readBench 115 = .ok (.getfield 15, 3) := by decide +kernel
theorem dX6_readBench_118 : decode cX6_readBench 118 = .ok (.invokevirtual 49, 3) := by decide +kernel
theorem dX6_readBench_121 : decode cX6_readBench 121 = .ok (.aload_n 0, 1) := by decide +kernel
theorem dX6_readBench_122 : decode cX6_readBench 122 = .ok (.iconst 1, 1) := by decide +kernel
theorem dX6_readBench_123 : decode cX6_readBench 123 = .ok (.iconst 3, 1) := by decide +kernel
theorem dX6_readBench_124 : decode cX6_readBench 124 = .ok (.invokevirtual 71, 3) := by decide +kernel
theorem dX6_readBench_127 : decode cX6_readBench 127 = .ok (.ifCond .ne 5, 3) := by decide +kernel
theorem dX6_readBench_130 : decode cX6_readBench 130 = .ok (.iconst 0, 1) := by decide +kernel
theorem dX6_readBench_131 : decode cX6_readBench 131 = .ok (.ireturn, 1) := by decide +kernel
theorem dX6_readBench_132 : decode cX6_readBench 132 = .ok (.aload_n 0, 1) := by decide +kernel
theorem dX6_readBench_133 : decode cX6_readBench 133 = .ok (.getfield 19, 3) := by decide +kernel
theorem dX6_readBench_136 : decode cX6_readBench 136 = .ok (.iload_n 1, 1) := by decide +kernel
theorem dX6_readBench_137 : decode cX6_readBench 137 = .ok (.iload_n 2, 1) := by decide +kernel
theorem dX6_readBench_138 : decode cX6_readBench 138 = .ok (.aload_n 0, 1) := by decide +kernel
theorem dX6_readBench_139 : decode cX6_readBench 139 = .ok (.getfield 15, 3) := by decide +kernel
theorem dX6_readBench_142 : decode cX6_readBench 142 = .ok (.getfield 75, 3) := by decide +kernel
theorem dX6_readBench_145 : decode cX6_readBench 145 = .ok (.invokevirtual 96, 3) := by decide +kernel
theorem dX6_readBench_148 : decode cX6_readBench 148 = .ok (.aload_n 0, 1) := by decide +kernel
theorem dX6_readBench_149 : decode cX6_readBench 149 = .ok (.getfield 15, 3) := by decide +kernel
theorem dX6_readBench_152 : decode cX6_readBench 152 = .ok (.invokevirtual 49, 3) := by decide +kernel
theorem dX6_readBench_155 : decode cX6_readBench 155 = .ok (.iconst 1, 1) := by decide +kernel
theorem dX6_readBench_156 : decode cX6_readBench 156 = .ok (.ireturn, 1) := by decide +kernel
theorem hd_X6_readBench : yX6_readBench.cls = xCn 6 ∧ yX6_readBench.cls ≠ "java/lang/invoke/MethodHandle" ∧ yX6_readBench.cls ≠ "java/lang/invoke/VarHandle" ∧ (parseMethodDescriptor yX6_readBench.desc).map (fun d => d.parameters.length) = some 0 := by decide +kernel
def f_X6_readBench (sh : List xSh) (q0 : Nat) (d : xD) : Option (Int32 × xD) :=
  (xgR 6 sh d q0 2).bind fun v1 => (xgI 3 sh d v1 4).bind fun v2 => if v2 < (8 : Int32) then ((xgR 6 sh d q0 0).bind fun v3 => (xon 7 sh v3 (f_X7_next sh v3 d)).bind fun d4 => (xgR 6 sh d4 q0 2).bind fun v5 => (xgR 6 sh d4 q0 0).bind fun v6 => (xgI 7 sh d4 v6 2).bind fun v7 => (xon 3 sh v5 (f_X3_benchNamed sh v5 v7 d4)).bind fun z8 => (xon 6 sh q0 (f_X6_isNewName sh q0 z8.1 z8.2)).bind fun z9 => if z9.1 = 0 then (some ((0 : Int32), z9.2)) else ((xgR 6 sh z9.2 q0 0).bind fun v10 => (xgI 7 sh z9.2 v10 2).bind fun v11 => (xgR 6 sh z9.2 q0 0).bind fun v12 => (xon 7 sh v12 (f_X7_next sh v12 z9.2)).bind fun d13 => (xgR 6 sh d13 q0 2).bind fun v14 => (xgI 3 sh d13 v14 0).bind fun v15 => (xon 6 sh q0 (f_X6_isNumber sh q0 (1 : Int32) (v15 - (1 : Int32)) d13)).bind fun z16 => if z16.1 = 0 then (some ((0 : Int32), z16.2)) else ((xgR 6 sh z16.2 q0 0).bind fun v17 => (xgI 7 sh z16.2 v17 2).bind fun v18 => (xgR 6 sh z16.2 q0 2).bind fun v19 => (xon 3 sh v19 (f_X3_benchOn sh v19 v18 z16.2)).bind fun z20 => if z20.1 = (-1 : Int32) then ((xgR 6 sh z20.2 q0 0).bind fun v21 => (xon 7 sh v21 (f_X7_next sh v21 z20.2)).bind fun d22 => (xon 6 sh q0 (f_X6_isNumber sh q0 (1 : Int32) (3 : Int32) d22)).bind fun z23 => if z23.1 = 0 then (some ((0 : Int32), z23.2)) else ((xgR 6 sh z23.2 q0 2).bind fun v24 => (xgR 6 sh z23.2 q0 0).bind fun v25 => (xgI 7 sh z23.2 v25 2).bind fun v26 => (xon 3 sh v24 (f_X3_addBench sh v24 v11 v18 v26 z23.2)).bind fun d27 => (xgR 6 sh d27 q0 0).bind fun v28 => (xon 7 sh v28 (f_X7_next sh v28 d27)).bind fun d29 => some ((1 : Int32), d29))) else ((xgR 6 sh z20.2 q0 0).bind fun v30 => (xon 7 sh v30 (f_X7_refuse sh v30 (3 : Int32) z20.2)).bind fun z31 => (xz z31.1).bind fun v32 => some (v32, z31.2))))) else ((xgR 6 sh d q0 0).bind fun v33 => (xon 7 sh v33 (f_X7_refuse sh v33 (2 : Int32) d)).bind fun z34 => (xz z34.1).bind fun v35 => some (v35, z34.2))
set_option maxHeartbeats 4000000 in
set_option maxRecDepth 100000 in
theorem mt_X6_readBench (l : Launch) (D : va_G) (cid : FieldType → ClassId) (b : Nat) (ex : Bool) (sa sv B0 : Nat) (sh : List xSh) (q0 : Nat) (d : xD) (r : Int32) (dz : xD) (hf : f_X6_readBench sh q0 d = some (r, dz)) : xMet l yX6_readBench cX6_readBench 3 (some .boolean) 3 0 0 D cid b ex sa sv B0 [.ref (b + q0)] sh d (some (.int r)) sh dz := by
  refine xMet.of (by decide) (Nat.le_of_ble_eq_true rfl) ?_
  intro p e s m below meth c ls A S hr hin G hl
  have hl : lv_has ls 3 [(0, .ref (b + q0))] := hl
  generalize ([.ref (b + q0)] : List Value).toArray = av at S ⊢
  have hx := S.1
  have hb := S.2.1
  have hml := S.2.2.1
  have hown := S.2.2.2.1
  have hts := S.2.2.2.2.1
  unfold f_X6_readBench at hf
  refine lv_aload_n hx hb dX6_readBench_0 rfl (lv_at hl 0 rfl) ?_
  obtain ⟨v1, hv1, hf⟩ := x_ob hf
  refine xr_getR (ci := 6) (k := 2) S G hv1 rfl kw_296 dX6_readBench_1 ?_
  obtain ⟨v2, hv2, hf⟩ := x_ob hf
  refine xr_getI (ci := 3) (k := 4) S G hv2 rfl kw_93 dX6_readBench_4 ?_
  refine lv_bipush (v := (8 : Int32)) hx hb dX6_readBench_7 (by decide) ?_
  refine lv_icmp_lt (tgt := 21) hx hb dX6_readBench_9 (by decide) (fun c => ?_) (fun c => ?_)
  · have hf := x_pos c hf
    refine lv_aload_n hx hb dX6_readBench_21 rfl (lv_at hl 0 rfl) ?_
    obtain ⟨v3, hv3, hf⟩ := x_ob hf
    refine xr_getR (ci := 6) (k := 0) S G hv3 rfl kw_294 dX6_readBench_22 ?_
    obtain ⟨d4, hd4, hf⟩ := x_ob hf
    obtain ⟨hqd4, hd4⟩ := xon_of hd4
    refine xr_callV (ci := 7) (As := []) (rest := []) (st1 := []) S G hl.1 (fun _ => rfl) (mt_X7_next l D cid b ex sa sv B0 sh v3 d _ hd4) hqd4 (by decide) kw_600 kw_559 kw_560 kw_5 kw_561 hd_X7_next ⟨Nat.le_of_ble_eq_true rfl, Nat.le_of_ble_eq_true rfl⟩ rfl rfl rfl (Nat.le_of_ble_eq_true rfl) ⟨Nat.le_of_ble_eq_true rfl, Nat.le_of_ble_eq_true rfl⟩ dX6_readBench_25 (fun H locs G => ?_)
    refine lv_aload_n hx hb dX6_readBench_28 rfl (lv_at hl 0 rfl) ?_
    refine lv_aload_n hx hb dX6_readBench_29 rfl (lv_at hl 0 rfl) ?_
    obtain ⟨v5, hv5, hf⟩ := x_ob hf
    refine xr_getR (ci := 6) (k := 2) S G hv5 rfl kw_296 dX6_readBench_30 ?_
    refine lv_aload_n hx hb dX6_readBench_33 rfl (lv_at hl 0 rfl) ?_
    obtain ⟨v6, hv6, hf⟩ := x_ob hf
    refine xr_getR (ci := 6) (k := 0) S G hv6 rfl kw_294 dX6_readBench_34 ?_
    obtain ⟨v7, hv7, hf⟩ := x_ob hf
    refine xr_getI (ci := 7) (k := 2) S G hv7 rfl kw_235 dX6_readBench_37 ?_
    obtain ⟨z8, hz8, hf⟩ := x_ob hf
    obtain ⟨hqz8, hz8⟩ := xon_of hz8
    refine xr_callV (ci := 3) (As := [.int v7]) (rest := [.ref (b + q0)]) (st1 := [.int z8.1, .ref (b + q0)]) S G hl.1 (fun _ => rfl) (mt_X3_benchNamed l D cid b ex sa sv B0 sh v5 v7 d4 _ _ hz8) hqz8 (by decide) kw_613 kw_614 kw_615 kw_2 kw_616 hd_X3_benchNamed ⟨Nat.le_of_ble_eq_true rfl, Nat.le_of_ble_eq_true rfl⟩ rfl rfl rfl (Nat.le_of_ble_eq_true rfl) ⟨Nat.le_of_ble_eq_true rfl, Nat.le_of_ble_eq_true rfl⟩ dX6_readBench_40 (fun H locs G => ?_)
    obtain ⟨z9, hz9, hf⟩ := x_ob hf
    obtain ⟨hqz9, hz9⟩ := xon_of hz9
    refine xr_callV (ci := 6) (As := [.int z8.1]) (rest := []) (st1 := [.int z9.1]) S G hl.1 (fun _ => rfl) (mt_X6_isNewName l D cid b ex sa sv B0 sh q0 z8.1 z8.2 _ _ hz9) hqz9 (by decide) kw_620 kw_622 ks_10 kw_10 kw_623 hd_X6_isNewName ⟨Nat.le_of_ble_eq_true rfl, Nat.le_of_ble_eq_true rfl⟩ rfl rfl rfl (Nat.le_of_ble_eq_true rfl) ⟨Nat.le_of_ble_eq_true rfl, Nat.le_of_ble_eq_true rfl⟩ dX6_readBench_43 (fun H locs G => ?_)
    refine lv_if_ne (tgt := 51) hx hb dX6_readBench_46 (by decide) (fun c => ?_) (fun c => ?_)
    · have hf := x_neg c hf
      refine lv_aload_n hx hb dX6_readBench_51 rfl (lv_at hl 0 rfl) ?_
      obtain ⟨v10, hv10, hf⟩ := x_ob hf
      refine xr_getR (ci := 6) (k := 0) S G hv10 rfl kw_294 dX6_readBench_52 ?_
      obtain ⟨v11, hv11, hf⟩ := x_ob hf
      refine xr_getI (ci := 7) (k := 2) S G hv11 rfl kw_235 dX6_readBench_55 ?_
      refine lv_istore_n (lv' := [(1, .int v11), (0, .ref (b + q0))]) hx hb dX6_readBench_58 rfl hl (by decide) rfl (fun ls hl => ?_)
      refine lv_aload_n hx hb dX6_readBench_59 rfl (lv_at hl 1 rfl) ?_
      obtain ⟨v12, hv12, hf⟩ := x_ob hf
      refine xr_getR (ci := 6) (k := 0) S G hv12 rfl kw_294 dX6_readBench_60 ?_
      obtain ⟨d13, hd13, hf⟩ := x_ob hf
      obtain ⟨hqd13, hd13⟩ := xon_of hd13
      refine xr_callV (ci := 7) (As := []) (rest := []) (st1 := []) S G hl.1 (fun _ => rfl) (mt_X7_next l D cid b ex sa sv B0 sh v12 z9.2 _ hd13) hqd13 (by decide) kw_600 kw_559 kw_560 kw_5 kw_561 hd_X7_next ⟨Nat.le_of_ble_eq_true rfl, Nat.le_of_ble_eq_true rfl⟩ rfl rfl rfl (Nat.le_of_ble_eq_true rfl) ⟨Nat.le_of_ble_eq_true rfl, Nat.le_of_ble_eq_true rfl⟩ dX6_readBench_63 (fun H locs G => ?_)
      refine lv_aload_n hx hb dX6_readBench_66 rfl (lv_at hl 1 rfl) ?_
      refine lv_iconst (v := (1 : Int32)) hx hb dX6_readBench_67 (by decide) ?_
      refine lv_aload_n hx hb dX6_readBench_68 rfl (lv_at hl 1 rfl) ?_
      obtain ⟨v14, hv14, hf⟩ := x_ob hf
      refine xr_getR (ci := 6) (k := 2) S G hv14 rfl kw_296 dX6_readBench_69 ?_
      obtain ⟨v15, hv15, hf⟩ := x_ob hf
      refine xr_getI (ci := 3) (k := 0) S G hv15 rfl kw_79 dX6_readBench_72 ?_
      refine lv_iconst (v := (1 : Int32)) hx hb dX6_readBench_75 (by decide) ?_
      refine lv_isub hx hb dX6_readBench_76 ?_
      obtain ⟨z16, hz16, hf⟩ := x_ob hf
      obtain ⟨hqz16, hz16⟩ := xon_of hz16
      refine xr_callV (ci := 6) (As := [.int (1 : Int32), .int (v15 - (1 : Int32))]) (rest := []) (st1 := [.int z16.1]) S G hl.1 (fun _ => rfl) (mt_X6_isNumber l D cid b ex sa sv B0 sh q0 (1 : Int32) (v15 - (1 : Int32)) d13 _ _ hz16) hqz16 (by decide) kw_601 kw_603 ks_8 kw_10 kw_604 hd_X6_isNumber ⟨Nat.le_of_ble_eq_true rfl, Nat.le_of_ble_eq_true rfl⟩ rfl rfl rfl (Nat.le_of_ble_eq_true rfl) ⟨Nat.le_of_ble_eq_true rfl, Nat.le_of_ble_eq_true rfl⟩ dX6_readBench_77 (fun H locs G => ?_)
      refine lv_if_ne (tgt := 85) hx hb dX6_readBench_80 (by decide) (fun c => ?_) (fun c => ?_)
      · have hf := x_neg c hf
        refine lv_aload_n hx hb dX6_readBench_85 rfl (lv_at hl 1 rfl) ?_
        obtain ⟨v17, hv17, hf⟩ := x_ob hf
        refine xr_getR (ci := 6) (k := 0) S G hv17 rfl kw_294 dX6_readBench_86 ?_
        obtain ⟨v18, hv18, hf⟩ := x_ob hf
        refine xr_getI (ci := 7) (k := 2) S G hv18 rfl kw_235 dX6_readBench_89 ?_
        refine lv_istore_n (lv' := [(2, .int v18), (1, .int v11), (0, .ref (b + q0))]) hx hb dX6_readBench_92 rfl hl (by decide) rfl (fun ls hl => ?_)
        refine lv_aload_n hx hb dX6_readBench_93 rfl (lv_at hl 2 rfl) ?_
        obtain ⟨v19, hv19, hf⟩ := x_ob hf
        refine xr_getR (ci := 6) (k := 2) S G hv19 rfl kw_296 dX6_readBench_94 ?_
        refine lv_iload_n hx hb dX6_readBench_97 rfl (lv_at hl 0 rfl) ?_
        obtain ⟨z20, hz20, hf⟩ := x_ob hf
        obtain ⟨hqz20, hz20⟩ := xon_of hz20
        refine xr_callV (ci := 3) (As := [.int v18]) (rest := []) (st1 := [.int z20.1]) S G hl.1 (fun _ => rfl) (mt_X3_benchOn l D cid b ex sa sv B0 sh v19 v18 z16.2 _ _ hz20) hqz20 (by decide) kw_624 kw_625 kw_626 kw_2 kw_627 hd_X3_benchOn ⟨Nat.le_of_ble_eq_true rfl, Nat.le_of_ble_eq_true rfl⟩ rfl rfl rfl (Nat.le_of_ble_eq_true rfl) ⟨Nat.le_of_ble_eq_true rfl, Nat.le_of_ble_eq_true rfl⟩ dX6_readBench_98 (fun H locs G => ?_)
        refine lv_iconst (v := (-1 : Int32)) hx hb dX6_readBench_101 (by decide) ?_
        refine lv_icmp_eq (tgt := 114) hx hb dX6_readBench_102 (by decide) (fun c => ?_) (fun c => ?_)
        · have hf := x_pos c hf
          refine lv_aload_n hx hb dX6_readBench_114 rfl (lv_at hl 2 rfl) ?_
          obtain ⟨v21, hv21, hf⟩ := x_ob hf
          refine xr_getR (ci := 6) (k := 0) S G hv21 rfl kw_294 dX6_readBench_115 ?_
          obtain ⟨d22, hd22, hf⟩ := x_ob hf
          obtain ⟨hqd22, hd22⟩ := xon_of hd22
          refine xr_callV (ci := 7) (As := []) (rest := []) (st1 := []) S G hl.1 (fun _ => rfl) (mt_X7_next l D cid b ex sa sv B0 sh v21 z20.2 _ hd22) hqd22 (by decide) kw_600 kw_559 kw_560 kw_5 kw_561 hd_X7_next ⟨Nat.le_of_ble_eq_true rfl, Nat.le_of_ble_eq_true rfl⟩ rfl rfl rfl (Nat.le_of_ble_eq_true rfl) ⟨Nat.le_of_ble_eq_true rfl, Nat.le_of_ble_eq_true rfl⟩ dX6_readBench_118 (fun H locs G => ?_)
          refine lv_aload_n hx hb dX6_readBench_121 rfl (lv_at hl 2 rfl) ?_
          refine lv_iconst (v := (1 : Int32)) hx hb dX6_readBench_122 (by decide) ?_
          refine lv_iconst (v := (3 : Int32)) hx hb dX6_readBench_123 (by decide) ?_
          obtain ⟨z23, hz23, hf⟩ := x_ob hf
          obtain ⟨hqz23, hz23⟩ := xon_of hz23
          refine xr_callV (ci := 6) (As := [.int (1 : Int32), .int (3 : Int32)]) (rest := []) (st1 := [.int z23.1]) S G hl.1 (fun _ => rfl) (mt_X6_isNumber l D cid b ex sa sv B0 sh q0 (1 : Int32) (3 : Int32) d22 _ _ hz23) hqz23 (by decide) kw_601 kw_603 ks_8 kw_10 kw_604 hd_X6_isNumber ⟨Nat.le_of_ble_eq_true rfl, Nat.le_of_ble_eq_true rfl⟩ rfl rfl rfl (Nat.le_of_ble_eq_true rfl) ⟨Nat.le_of_ble_eq_true rfl, Nat.le_of_ble_eq_true rfl⟩ dX6_readBench_124 (fun H locs G => ?_)
          refine lv_if_ne (tgt := 132) hx hb dX6_readBench_127 (by decide) (fun c => ?_) (fun c => ?_)
          · have hf := x_neg c hf
            refine lv_aload_n hx hb dX6_readBench_132 rfl (lv_at hl 2 rfl) ?_
            obtain ⟨v24, hv24, hf⟩ := x_ob hf
            refine xr_getR (ci := 6) (k := 2) S G hv24 rfl kw_296 dX6_readBench_133 ?_
            refine lv_iload_n hx hb dX6_readBench_136 rfl (lv_at hl 1 rfl) ?_
            refine lv_iload_n hx hb dX6_readBench_137 rfl (lv_at hl 0 rfl) ?_
            refine lv_aload_n hx hb dX6_readBench_138 rfl (lv_at hl 2 rfl) ?_
            obtain ⟨v25, hv25, hf⟩ := x_ob hf
            refine xr_getR (ci := 6) (k := 0) S G hv25 rfl kw_294 dX6_readBench_139 ?_
            obtain ⟨v26, hv26, hf⟩ := x_ob hf
            refine xr_getI (ci := 7) (k := 2) S G hv26 rfl kw_235 dX6_readBench_142 ?_
            obtain ⟨d27, hd27, hf⟩ := x_ob hf
            obtain ⟨hqd27, hd27⟩ := xon_of hd27
            refine xr_callV (ci := 3) (As := [.int v11, .int v18, .int v26]) (rest := []) (st1 := []) S G hl.1 (fun _ => rfl) (mt_X3_addBench l D cid b ex sa sv B0 sh v24 v11 v18 v26 z23.2 _ hd27) hqd27 (by decide) kw_628 kw_629 kw_630 kw_2 kw_631 hd_X3_addBench ⟨Nat.le_of_ble_eq_true rfl, Nat.le_of_ble_eq_true rfl⟩ rfl rfl rfl (Nat.le_of_ble_eq_true rfl) ⟨Nat.le_of_ble_eq_true rfl, Nat.le_of_ble_eq_true rfl⟩ dX6_readBench_145 (fun H locs G => ?_)
            refine lv_aload_n hx hb dX6_readBench_148 rfl (lv_at hl 2 rfl) ?_
            obtain ⟨v28, hv28, hf⟩ := x_ob hf
            refine xr_getR (ci := 6) (k := 0) S G hv28 rfl kw_294 dX6_readBench_149 ?_
            obtain ⟨d29, hd29, hf⟩ := x_ob hf
            obtain ⟨hqd29, hd29⟩ := xon_of hd29
            refine xr_callV (ci := 7) (As := []) (rest := []) (st1 := []) S G hl.1 (fun _ => rfl) (mt_X7_next l D cid b ex sa sv B0 sh v28 d27 _ hd29) hqd29 (by decide) kw_600 kw_559 kw_560 kw_5 kw_561 hd_X7_next ⟨Nat.le_of_ble_eq_true rfl, Nat.le_of_ble_eq_true rfl⟩ rfl rfl rfl (Nat.le_of_ble_eq_true rfl) ⟨Nat.le_of_ble_eq_true rfl, Nat.le_of_ble_eq_true rfl⟩ dX6_readBench_152 (fun H locs G => ?_)
            refine lv_iconst (v := (1 : Int32)) hx hb dX6_readBench_155 (by decide) ?_
            cases hf
            exact xr_zret S G (fun _ => rfl) hr (by decide) dX6_readBench_156
          · have hf := x_pos c hf
            refine lv_iconst (v := (0 : Int32)) hx hb dX6_readBench_130 (by decide) ?_
            cases hf
            exact xr_zret S G (fun _ => rfl) hr (by decide) dX6_readBench_131
        · have hf := x_neg c hf
          refine lv_aload_n hx hb dX6_readBench_105 rfl (lv_at hl 2 rfl) ?_
          obtain ⟨v30, hv30, hf⟩ := x_ob hf
          refine xr_getR (ci := 6) (k := 0) S G hv30 rfl kw_294 dX6_readBench_106 ?_
          refine lv_iconst (v := (3 : Int32)) hx hb dX6_readBench_109 (by decide) ?_
          obtain ⟨z31, hz31, hf⟩ := x_ob hf
          obtain ⟨hqz31, hz31⟩ := xon_of hz31
          refine xr_callV (ci := 7) (As := [.int (3 : Int32)]) (rest := []) (st1 := [.int z31.1]) S G hl.1 (fun _ => rfl) (mt_X7_refuse l D cid b ex sa sv B0 sh v30 (3 : Int32) z20.2 _ _ hz31) hqz31 (by decide) kw_605 kw_606 kw_607 kw_5 kw_608 hd_X7_refuse ⟨Nat.le_of_ble_eq_true rfl, Nat.le_of_ble_eq_true rfl⟩ rfl rfl rfl (Nat.le_of_ble_eq_true rfl) ⟨Nat.le_of_ble_eq_true rfl, Nat.le_of_ble_eq_true rfl⟩ dX6_readBench_110 (fun H locs G => ?_)
          obtain ⟨v32, hv32, hf⟩ := x_ob hf
          cases hf
          exact xr_zret S G (fun _ => rfl) hr hv32 dX6_readBench_113
      · have hf := x_pos c hf
        refine lv_iconst (v := (0 : Int32)) hx hb dX6_readBench_83 (by decide) ?_
        cases hf
        exact xr_zret S G (fun _ => rfl) hr (by decide) dX6_readBench_84
    · have hf := x_pos c hf
      refine lv_iconst (v := (0 : Int32)) hx hb dX6_readBench_49 (by decide) ?_
      cases hf
      exact xr_zret S G (fun _ => rfl) hr (by decide) dX6_readBench_50
  · have hf := x_neg c hf
    refine lv_aload_n hx hb dX6_readBench_12 rfl (lv_at hl 0 rfl) ?_
    obtain ⟨v33, hv33, hf⟩ := x_ob hf
    refine xr_getR (ci := 6) (k := 0) S G hv33 rfl kw_294 dX6_readBench_13 ?_
    refine lv_iconst (v := (2 : Int32)) hx hb dX6_readBench_16 (by decide) ?_
    obtain ⟨z34, hz34, hf⟩ := x_ob hf
    obtain ⟨hqz34, hz34⟩ := xon_of hz34
    refine xr_callV (ci := 7) (As := [.int (2 : Int32)]) (rest := []) (st1 := [.int z34.1]) S G hl.1 (fun _ => rfl) (mt_X7_refuse l D cid b ex sa sv B0 sh v33 (2 : Int32) d _ _ hz34) hqz34 (by decide) kw_605 kw_606 kw_607 kw_5 kw_608 hd_X7_refuse ⟨Nat.le_of_ble_eq_true rfl, Nat.le_of_ble_eq_true rfl⟩ rfl rfl rfl (Nat.le_of_ble_eq_true rfl) ⟨Nat.le_of_ble_eq_true rfl, Nat.le_of_ble_eq_true rfl⟩ dX6_readBench_17 (fun H locs G => ?_)
    obtain ⟨v35, hv35, hf⟩ := x_ob hf
    cases hf
    exact xr_zret S G (fun _ => rfl) hr hv35 dX6_readBench_20

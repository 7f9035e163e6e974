/-! THE LAW'S OWN walker: its contract -/
theorem dL_walker_0 : decode cL_walker 0 = .ok (.aload_n 3, 1) := by decide +kernel
theorem dL_walker_1 : decode cL_walker 1 = .ok (.iconst 0, 1) := by decide +kernel
theorem dL_walker_2 : decode cL_walker 2 = .ok (.aload_n 0, 1) := by decide +kernel
theorem dL_walker_3 : decode cL_walker 3 = .ok (.iload_n 1, 1) := by decide +kernel
theorem dL_walker_4 : decode cL_walker 4 = .ok (.iload_n 2, 1) := by decide +kernel
theorem dL_walker_5 : decode cL_walker 5 = .ok (.invokevirtual 7, 3) := by decide +kernel
theorem dL_walker_8 : decode cL_walker 8 = .ok (.i2l, 1) := by decide +kernel
theorem dL_walker_9 : decode cL_walker 9 = .ok (.lastore, 1) := by decide +kernel
theorem dL_walker_10 : decode cL_walker 10 = .ok (.goto 11, 3) := by decide +kernel
theorem dL_walker_13 : decode cL_walker 13 = .ok (.astore 4, 2) := by decide +kernel
theorem dL_walker_15 : decode cL_walker 15 = .ok (.iconst 1, 1) := by decide +kernel
theorem dL_walker_16 : decode cL_walker 16 = .ok (.ireturn, 1) := by decide +kernel
theorem dL_walker_17 : decode cL_walker 17 = .ok (.astore 4, 2) := by decide +kernel
theorem dL_walker_19 : decode cL_walker 19 = .ok (.iconst 2, 1) := by decide +kernel
theorem dL_walker_20 : decode cL_walker 20 = .ok (.ireturn, 1) := by decide +kernel
theorem dL_walker_21 : decode cL_walker 21 = .ok (.iconst 0, 1) := by decide +kernel
theorem dL_walker_22 : decode cL_walker 22 = .ok (.ireturn, 1) := by decide +kernel
theorem xcIO : Cond.castable xIO xIO ∈ xCDs := by decide +kernel
theorem xcNS : Cond.castable xNS xNS ∈ xCDs := by decide +kernel
set_option maxHeartbeats 1000000 in
theorem mt_L_walker (l : Launch) (hlt : l.stackTraces = false) (D : va_G) (cid : FieldType → ClassId) (b : Nat) (sa sv B0 : Nat) (sh : List xSh) (q0 : Nat) (x1 x2 : Int32) (q3 : Nat) (d : xD) (r : Int32) (dz : xD) (hf : f_L_walker sh q0 x1 x2 q3 d = some (r, dz)) :
    xMetW (xE B0) l D cid b sa sv B0 [.ref (b + q0), .int x1, .int x2, .ref (b + q3)] sh d (some (.int r)) dz := by
  unfold f_L_walker at hf
  obtain ⟨z, hz, hf⟩ := x_ob hf
  obtain ⟨hq0, hz⟩ := xon_of hz
  obtain ⟨k, r0, d0⟩ := z
  refine xMw.of (Nat.le_of_ble_eq_true rfl) ?_
  intro p e s m below meth c ls A S hE tb hr G hl
  have hl : lv_has ls 5 [(0, .ref (b + q0)), (1, .int x1), (2, .int x2), (3, .ref (b + q3))] := hl
  generalize ([.ref (b + q0), .int x1, .int x2, .ref (b + q3)] : List Value).toArray = av at S ⊢
  have hx := S.1
  have hb := S.2.1
  have ht := S.2.2.2.2.1
  refine lv_aload_n hx hb dL_walker_0 rfl (lv_at hl 3 rfl) ?_
  refine lv_iconst (v := (0 : Int32)) hx hb dL_walker_1 (by decide) ?_
  refine lv_aload_n hx hb dL_walker_2 rfl (lv_at hl 0 rfl) ?_
  refine lv_iload_n hx hb dL_walker_3 rfl (lv_at hl 1 rfl) ?_
  refine lv_iload_n hx hb dL_walker_4 rfl (lv_at hl 2 rfl) ?_
  by_cases c0 : k = 0
  · have hf := x_pos (show (k, r0, d0).1 = 0 from c0) hf
    subst c0
    obtain ⟨d2, hs, hf⟩ := x_ob hf
    refine xr_callV (ci := 9) (As := [.int x1, .int x2]) (rest := [.int 0, .ref (b + q3)]) (st1 := [.int r0, .int 0, .ref (b + q3)]) S G hl.1 (fun z => nomatch z) (mt_X9_walker0 l D cid b false sa sv B0 sh q0 x1 x2 d r0 d0 hz) hq0 (by decide) kw_1068 kw_1069 kw_1070 kw_1 kw_1071 hd_X9_walker ⟨Nat.le_of_ble_eq_true rfl, Nat.le_of_ble_eq_true rfl⟩ rfl rfl rfl (Nat.le_of_ble_eq_true rfl) ⟨Nat.le_of_ble_eq_true rfl, Nat.le_of_ble_eq_true rfl⟩ dL_walker_5 (fun H locs G => ?_)
    refine lv_i2l hx hb dL_walker_8 rfl ?_
    refine xr_last S G hs dL_walker_9 (fun H locs G => ?_)
    refine lv_goto (tgt := 21) hx hb dL_walker_10 (by decide) ?_
    refine lv_iconst (v := (0 : Int32)) hx hb dL_walker_21 (by decide) ?_
    cases hf
    refine W.widen (k := 1) (n := 6) (Nat.le_of_ble_eq_true rfl) (Nat.le_of_ble_eq_true rfl) ?_
    exact xr_iret S G (fun z => nomatch z) hr dL_walker_22
  · have hf := x_neg (show ¬ (k, r0, d0).1 = 0 from c0) hf
    obtain ⟨_, _, _, _, _, hk⟩ := xk_split hz c0
    rcases hk with ⟨-, hk⟩ | ⟨-, hk, -⟩
    · subst hk
      refine xr_callX (cls := xIO) (q0 := q0) (x1 := x1) (x2 := x2) (d' := d0) (rest := [.int 0, .ref (b + q3)]) S G hl.1 hE hq0 (mx_walker1 l hlt D cid b sa sv B0 sh q0 x1 x2 d r0 d0 hz (fun _ _ _ _ _ => False)) ⟨Nat.le_of_ble_eq_true rfl, Nat.le_of_ble_eq_true rfl⟩ rfl (Nat.le_of_ble_eq_true rfl) ⟨Nat.le_of_ble_eq_true rfl, Nat.le_of_ble_eq_true rfl⟩ dL_walker_5 (fun q ce H locs G hce hv hcl => ?_)
      refine vx_catch (own := RL) (name := xIO) (E := xIO) S.2.2.2.1 [] ⟨0, 10, 13, 13⟩ [⟨0, 10, 17, 15⟩] tb (fun z hz => nomatch hz) (by decide) (by decide) (ht _ kw_1066) (va_Nw.use rfl (hE.1 _ xcIO)) hce hv hcl ?_
      refine lv_astore (lv' := [(4, .ref q), (0, .ref (b + q0)), (1, .int x1), (2, .int x2), (3, .ref (b + q3))]) hx hb dL_walker_13 hl (by decide) rfl (fun ls hl => ?_)
      refine lv_iconst (v := (1 : Int32)) hx hb dL_walker_15 (by decide) ?_
      cases hf
      exact xr_iret S G (fun z => nomatch z) hr dL_walker_16
    · subst hk
      refine xr_callX (cls := xNS) (q0 := q0) (x1 := x1) (x2 := x2) (d' := d0) (rest := [.int 0, .ref (b + q3)]) S G hl.1 hE hq0 (mx_walker2 l hlt D cid b sa sv B0 sh q0 x1 x2 d r0 d0 hz (fun _ _ _ _ _ => False)) ⟨Nat.le_of_ble_eq_true rfl, Nat.le_of_ble_eq_true rfl⟩ rfl (Nat.le_of_ble_eq_true rfl) ⟨Nat.le_of_ble_eq_true rfl, Nat.le_of_ble_eq_true rfl⟩ dL_walker_5 (fun q ce H locs G hce hv hcl => ?_)
      refine vx_catch (own := RL) (name := xNS) (E := xNS) S.2.2.2.1 [⟨0, 10, 13, 13⟩] ⟨0, 10, 17, 15⟩ [] tb (fun z hz => Or.inr ?_) (by decide) (by decide) (ht _ kw_1067) (va_Nw.use rfl (hE.1 _ xcNS)) hce hv hcl ?_
      · cases List.mem_singleton.mp hz
        exact ⟨by decide, xIO, ht _ kw_1066, hE.2.2.2.2.2⟩
      refine lv_astore (lv' := [(4, .ref q), (0, .ref (b + q0)), (1, .int x1), (2, .int x2), (3, .ref (b + q3))]) hx hb dL_walker_17 hl (by decide) rfl (fun ls hl => ?_)
      refine lv_iconst (v := (2 : Int32)) hx hb dL_walker_19 (by decide) ?_
      cases hf
      exact xr_iret S G (fun z => nomatch z) hr dL_walker_20

set_option maxHeartbeats 8000000 in
set_option maxRecDepth 100000 in
theorem whole_open {p : Program} {e : Env} {s : State} {m : MethodId} {below : List Frame} {meth : Method} {c : Code} (l : Launch) {bs L : Nat} {xs : Nat → Int32} (hL : L ≤ 3072) (C0 : lw_At p s m meth c bs L xs) {E : State → Prop} {Rel : xD → Prop}
    (hbl : ∀ (U : State) (g : JFrame) (mk : MethodId) (a : Array Value), E U → E (U.calling g mk a)) (hE : ∀ U : State, s.WarmedH U.vm → (∀ q : Nat, q < s.heap.size → U.heap[q]? = s.heap[q]?) → E U)
    (hLW : ∀ (D : va_G) (cid : FieldType → ClassId) (sa sv : Nat) (a1 a2 r : Int32) (d dz : xD), f_L_walker shA 0 a1 a2 139 d = some (r, dz) → xMetW E l D cid s.heap.size sa sv s.heap.size [.ref (s.heap.size + 0), .int a1, .int a2, .ref (s.heap.size + 139)] shA d (some (.int r)) dz)
    (H2 : xL2 Rel) : W p l e room_1 s m #[Value.ref bs] below meth c s.heap [] 0 0 (lw_Z below #[Value.ref bs] s) (entryFrame m ([Value.ref bs] : List Value).toArray 7) := by
  obtain ⟨hx, hb, hr, hml, hown, hts, hX, hbs, hlocks, hgv⟩ := C0
  obtain ⟨sa, sv, hstr⟩ := xstr_start hts hgv
  have htx : ∀ w ∈ xTB, w.before #[Value.ref bs] s = true := fun w hw => hts w (xTB_lw hw)
  obtain ⟨D, cid, hK⟩ := xK_start htx
  obtain ⟨hinit, h_feed, h_text, h_fault, h_named, h_walker, h_bench, h_restOf, h_piano, h_law, h_sit, h_rise, h_push, h_go, h_ahead, h_meet, h_pass, h_out, h_best, h_cover, h_carry, h_rests, h_rest, h_quiet, h_see, h_strike, h_known, h_paces, h_chance, h_tried, h_undo, h_keep, h_back, h_count⟩ := H2
  obtain ⟨d1, d2, e1, e2, hRel⟩ := hinit
  have St : xM p s m #[Value.ref bs] meth c code 7 R_law D cid (fun q => s.heap.size ≤ q) s.heap.size true 0 sa sv s.heap.size := ⟨hx, hb, hml, hown, htx, hK, fun _ h => h, hlocks, hstr, fun _ h => h, Nat.le_refl _, fun _ => rfl⟩
  have Sf : xM p s m #[Value.ref bs] meth c code 7 R_law D cid (fun q => s.heap.size ≤ q) s.heap.size false 0 sa sv s.heap.size := ⟨hx, hb, hml, hown, htx, hK, fun _ h => h, hlocks, hstr, fun _ h => h, Nat.le_refl _, fun h => by cases h⟩
  have hl := lv_entry ([.ref bs]) (n := 7) (Nat.le_of_ble_eq_true rfl)
  rw [lg_entry_eq]
  generalize (lg_sl ([.ref bs]) ++ List.replicate (7 - (lg_sl ([.ref bs])).length) Slot.unset).toArray = ls at hl ⊢
  have hl : lv_has ls 7 [(0, .ref bs)] := hl
  refine xr_new0 (ci := 9) St (va_S.rf) rfl (fun _ h => h) (by decide) kw_25 kw_26 kw_1 (Nat.le_of_ble_eq_true rfl) (Nat.le_of_ble_eq_true rfl) dL_law_0 (fun H G hz ho => ?_)
  refine lv_dup hx hb dL_law_3 rfl ?_
  refine xr_callIF (q := 0) (As := []) (rest := [.ref (s.heap.size + 0)]) (st1 := [.ref (s.heap.size + 0)]) St G hl.1 (fun _ => hz) (mt_X9_init l D cid s.heap.size sa sv s.heap.size [.inl 9] (by decide) (sx_X9_init_98 [.inl 9]) rfl 0 xZD d1 e1) kw_27 kw_28 kw_1 kw_29 rfl hd_X9_init ⟨Nat.le_of_ble_eq_true rfl, Nat.le_of_ble_eq_true rfl⟩ rfl rfl rfl (Nat.le_of_ble_eq_true rfl) ⟨Nat.le_of_ble_eq_true rfl, Nat.le_of_ble_eq_true rfl⟩ dL_law_4 (fun H locs G hz2 _ _ => ?_)
  refine lv_astore_n (lv' := [(1, .ref (s.heap.size + 0)), (0, .ref bs)]) hx hb dL_law_7 rfl hl (by decide) rfl (fun ls hl => ?_)
  obtain ⟨shX, hshX⟩ : ∃ z : List xSh, z = sx_X9_init_98 [.inl 9] ++ [.inl 10] := ⟨_, rfl⟩
  rw [← hshX] at e2
  have hlX : shX.length = 100 := by rw [hshX, List.length_append, sx_X9_init_98_len]; rfl
  have hsA : sx_X10_init_39 shX ++ [.inr (.long, 1)] = shA := by rw [hshX]; unfold shA; rfl
  refine xr_new (ci := 10) (q := 99) (sh' := shX) St G (by rw [sx_X9_init_98_len]; rfl) (by rw [sx_X9_init_98_len]; decide) (by decide) (by rw [sx_X9_init_98_len]; rfl) hshX.symm kw_1154 kw_1155 kw_17 (Nat.le_of_ble_eq_true rfl) (Nat.le_of_ble_eq_true rfl) dL_law_8 (fun H G => ?_)
  refine lv_dup hx hb dL_law_11 rfl ?_
  refine xr_callI (q := 99) (As := []) (rest := [.ref (s.heap.size + 99)]) (st1 := [.ref (s.heap.size + 99)]) St G hl.1 (fun _ => by rw [hlX]) (mt_X10_init l D cid s.heap.size sa sv s.heap.size shX (by rw [hlX]; decide) (sx_X10_init_39 shX) rfl 99 (xnw d1 99) d2 e2) kw_1156 kw_1157 kw_17 kw_1158 rfl hd_X10_init ⟨Nat.le_of_ble_eq_true rfl, Nat.le_of_ble_eq_true rfl⟩ rfl rfl rfl (Nat.le_of_ble_eq_true rfl) ⟨Nat.le_of_ble_eq_true rfl, Nat.le_of_ble_eq_true rfl⟩ dL_law_12 (fun H locs G => ?_)
  refine lv_astore_n (lv' := [(2, .ref (s.heap.size + 99)), (1, .ref (s.heap.size + 0)), (0, .ref bs)]) hx hb dL_law_15 rfl hl (by decide) rfl (fun ls hl => ?_)
  refine lv_iconst (v := (1 : Int32)) hx hb dL_law_16 (by decide) ?_
  refine xr_newa (atype := .long) (ty := .long) (q := 139) (N := 1) (sh' := shA) 3 St G (by rw [sx_X10_init_39_len, hlX]) (by rw [sx_X10_init_39_len]; omega) rfl rfl (by rw [sx_X10_init_39_len, hlX]) hsA kw_74 (by decide) (by decide) (Nat.le_of_ble_eq_true rfl) (Nat.le_of_ble_eq_true rfl) (Nat.le_of_ble_eq_true rfl) dL_law_17 (fun H G => ?_)
  refine lv_astore_n (lv' := [(3, .ref (s.heap.size + 139)), (2, .ref (s.heap.size + 99)), (1, .ref (s.heap.size + 0)), (0, .ref bs)]) hx hb dL_law_19 rfl hl (by decide) rfl (fun ls hl => ?_)
  refine lv_iconst (v := (0 : Int32)) hx hb dL_law_20 (by decide) ?_
  refine lv_istore (lv' := [(4, .int (0 : Int32)), (3, .ref (s.heap.size + 139)), (2, .ref (s.heap.size + 99)), (1, .ref (s.heap.size + 0)), (0, .ref bs)]) hx hb dL_law_21 hl (by decide) rfl (fun ls hl => ?_)
  refine W.widen (k := 140) (n := 4946) (Nat.le_of_ble_eq_true rfl) (Nat.le_of_ble_eq_true rfl) ?_
  exact law_loop hL Sf hr hX hbs (Nat.not_le.mpr hbs) (fun _ h => h) hbl hE (hLW D cid sa sv) h_feed h_text h_fault h_named h_walker h_bench h_restOf h_piano h_law h_sit h_rise h_push h_go h_ahead h_meet h_pass h_out h_best h_cover h_carry h_rests h_rest h_quiet h_see h_strike h_known h_paces h_chance h_tried h_undo h_keep h_back h_count (L + 1) 0 140 4946 (xnw d2 139) _ _ ls (Nat.zero_le L) (by omega) (by omega) (by omega) hRel (lv_sub hl [4, 3, 2, 1, 0] rfl) G

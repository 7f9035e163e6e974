/-! THE CLASS'S walker WHERE IT THROWS -/
def xXC (D : va_G) (cid : FieldType → ClassId) (b : Nat) (cls : String) (sh : List xSh) (d : xD) (A : Nat → Prop) : String → State → State → Prop := vx_X (S := Unit) (fun _ => True) (fun E _ t => E = cls ∧ xB D cid b false A sh d t) A
theorem xX_of {D : va_G} {cid : FieldType → ClassId} {b : Nat} {A : Nat → Prop} {sh : List xSh} {d : xD} {s : State} {H : Heap} {locs : List Loc} {cls : String} (G : xG D cid b A sh d s H locs) (hK : va_K D vwCl (xtys cid) s) :
    ∀ t : State, s.vm.Alike t.vm → H.size ≤ t.heap.size → (∀ q : Nat, q < H.size → t.heap[q]? = H[q]?) → xXC D cid b cls sh d A cls s t := by
  intro t h1 h2 h3
  refine ⟨(), trivial, ⟨rfl, G.1.kept (fun k q hk => h3 q.1 (G.1 k q hk).lt), G.2.1, (fun z => nomatch z), va_K.moved h1 hK⟩, Nat.le_trans G.2.2.1 h2, fun q hq hA => ?_⟩
  rw [h3 q (Nat.lt_of_lt_of_le hq G.2.2.1)]
  exact G.2.2.2.1 q hq hA
set_option maxHeartbeats 1000000 in
theorem xk_split {sh : List xSh} {q0 : Nat} {x1 x2 : Int32} {d : xD} {k r : Int32} {dz : xD} (hf : f_X9_walkerX sh q0 x1 x2 d = some (k, r, dz)) (hk : k ≠ 0) :
    ∃ v z, xgR 9 sh d q0 4 = some v ∧ xon 3 sh v (f_X3_hasWalker sh v x1 d) = some z ∧ z.2 = dz ∧ ((z.1 = 0 ∧ k = 1) ∨ (z.1 ≠ 0 ∧ k = 2 ∧ x2 ≠ 0 ∧ x2 ≠ 1 ∧ x2 ≠ 2 ∧ x2 ≠ 3 ∧ x2 ≠ 4 ∧ x2 ≠ 5 ∧ x2 ≠ 6)) := by
  unfold f_X9_walkerX at hf
  obtain ⟨v, hv, hf⟩ := x_ob hf
  obtain ⟨z, hz, hf⟩ := x_ob hf
  refine ⟨v, z, hv, hz, ?_⟩
  by_cases c : z.1 = 0
  · have hf := x_pos c hf
    have e := Option.some.inj hf
    exact ⟨congrArg (fun w => w.2.2) e, Or.inl ⟨c, (congrArg Prod.fst e).symm⟩⟩
  have hf := x_neg c hf
  by_cases c0 : x2 = (0 : Int32)
  · have hf := x_pos c0 hf
    obtain ⟨_, _, hf⟩ := x_ob hf
    obtain ⟨_, _, hf⟩ := x_ob hf
    obtain ⟨_, _, hf⟩ := x_ob hf
    exact absurd (congrArg Prod.fst (Option.some.inj hf)).symm hk
  have hf := x_neg c0 hf
  by_cases c1 : x2 = (1 : Int32)
  · have hf := x_pos c1 hf
    obtain ⟨_, _, hf⟩ := x_ob hf
    obtain ⟨_, _, hf⟩ := x_ob hf
    obtain ⟨_, _, hf⟩ := x_ob hf
    exact absurd (congrArg Prod.fst (Option.some.inj hf)).symm hk
  have hf := x_neg c1 hf
  by_cases c2 : x2 = (2 : Int32)
  · have hf := x_pos c2 hf
    obtain ⟨_, _, hf⟩ := x_ob hf
    obtain ⟨_, _, hf⟩ := x_ob hf
    obtain ⟨_, _, hf⟩ := x_ob hf
    exact absurd (congrArg Prod.fst (Option.some.inj hf)).symm hk
  have hf := x_neg c2 hf
  by_cases c3 : x2 = (3 : Int32)
  · have hf := x_pos c3 hf
    obtain ⟨_, _, hf⟩ := x_ob hf
    obtain ⟨_, _, hf⟩ := x_ob hf
    obtain ⟨_, _, hf⟩ := x_ob hf
    exact absurd (congrArg Prod.fst (Option.some.inj hf)).symm hk
  have hf := x_neg c3 hf
  by_cases c4 : x2 = (4 : Int32)
  · have hf := x_pos c4 hf
    obtain ⟨_, _, hf⟩ := x_ob hf
    obtain ⟨_, _, hf⟩ := x_ob hf
    obtain ⟨_, _, hf⟩ := x_ob hf
    exact absurd (congrArg Prod.fst (Option.some.inj hf)).symm hk
  have hf := x_neg c4 hf
  by_cases c5 : x2 = (5 : Int32)
  · have hf := x_pos c5 hf
    obtain ⟨_, _, hf⟩ := x_ob hf
    obtain ⟨_, _, hf⟩ := x_ob hf
    obtain ⟨_, _, hf⟩ := x_ob hf
    exact absurd (congrArg Prod.fst (Option.some.inj hf)).symm hk
  have hf := x_neg c5 hf
  by_cases c6 : x2 = (6 : Int32)
  · have hf := x_pos c6 hf
    obtain ⟨_, _, hf⟩ := x_ob hf
    obtain ⟨_, _, hf⟩ := x_ob hf
    obtain ⟨_, _, hf⟩ := x_ob hf
    exact absurd (congrArg Prod.fst (Option.some.inj hf)).symm hk
  have hf := x_neg c6 hf
  have e := Option.some.inj hf
  exact ⟨congrArg (fun w => w.2.2) e, Or.inr ⟨c, (congrArg Prod.fst e).symm, c0, c1, c2, c3, c4, c5, c6⟩⟩
set_option maxHeartbeats 1000000 in
theorem mx_walker1 (l : Launch) (hlt : l.stackTraces = false) (D : va_G) (cid : FieldType → ClassId) (b : Nat) (sa sv B0 : Nat) (sh : List xSh) (q0 : Nat) (x1 x2 : Int32) (d : xD) (r : Int32) (dz : xD) (hf : f_X9_walkerX sh q0 x1 x2 d = some (1, r, dz)) (Qc : (Nat → Prop) → Array Value → State → Outcome → State → Prop) :
    ∀ sz : Nat, vx_Met l yX9_walker (xws yX9_walker cX9_walker 3 (some .int)) (xRm 6 1 6) (xPcX (xE B0) D cid b sa sv B0 sz sh d [.ref (b + q0), .int x1, .int x2]) (Qc (va_A (xw cid b sh d) sz)) (xXC D cid b xIO sh dz (va_A (xw cid b sh d) sz)) 1 6 (va_A (xw cid b sh d) sz) := by
  obtain ⟨v7, z8, hv7, hz8, hdz, hk⟩ := xk_split hf (by decide)
  subst hdz
  obtain ⟨hqz8, hz8⟩ := xon_of hz8
  refine xMx.of (by decide) (Nat.le_of_ble_eq_true rfl) ?_
  intro p e s m below meth c ls A S hE htab G hl
  have hl : lv_has ls 3 [(0, .ref (b + q0)), (1, .int x1), (2, .int x2)] := hl
  generalize ([.ref (b + q0), .int x1, .int x2] : List Value).toArray = av at S ⊢
  have hx := S.1
  have hb := S.2.1
  have ht := S.2.2.2.2.1
  have hA0 := S.2.2.2.2.2.2.2.2.2.1
  obtain ⟨t1, hs1⟩ := hE.2.1
  obtain ⟨t2, hs2⟩ := hE.2.2.1
  have hU := hE.2.2.2.1.narrow hA0
  have hN := hE.2.2.2.2.1.narrow hA0
  refine lv_aload_n hx hb dX9_walker_0 rfl (lv_at hl 0 rfl) ?_
  refine xr_getR (ci := 9) (k := 4) S G hv7 rfl kw_485 dX9_walker_1 ?_
  refine lv_iload_n hx hb dX9_walker_4 rfl (lv_at hl 1 rfl) ?_
  refine xr_callV (ci := 3) (As := [.int x1]) (rest := []) (st1 := [.int z8.1]) S G hl.1 (fun _ => rfl) (mt_X3_hasWalker l D cid b false sa sv B0 sh v7 x1 d _ _ hz8) hqz8 (by decide) kw_758 kw_759 kw_760 kw_2 kw_761 hd_X3_hasWalker ⟨Nat.le_of_ble_eq_true rfl, Nat.le_of_ble_eq_true rfl⟩ rfl rfl rfl (Nat.le_of_ble_eq_true rfl) ⟨Nat.le_of_ble_eq_true rfl, Nat.le_of_ble_eq_true rfl⟩ dX9_walker_5 (fun H locs G => ?_)
  refine lv_if_ne (tgt := 21) hx hb dX9_walker_8 (by decide) (fun c => ?_) (fun c => ?_)
  · rcases hk with ⟨h, _⟩ | ⟨_, h, _⟩
    · exact absurd h c
    · exact absurd h (by decide)
  · exact vx_throwS (pc := 11) (own := RX9) (cls := xIO) (text := "no such walker") (names := ["java/lang/RuntimeException", "java/lang/Exception"]) (ik := 125) (is := 127) (ic := 129) (sa := t1) (A := A) hx hb hlt S.2.2.2.1 (by decide +kernel) (by decide +kernel) (ht _ kw_1072) (ht _ kw_22) hs1 (fun w hw => xE_words hE ht w (List.mem_append_left _ hw)) xat1_ot hU hN G.2.2 (hl.1.trans S.2.2.1.symm)
      dX9_walker_11 dX9_walker_14 dX9_walker_15 dX9_walker_17 dX9_walker_20 (fun x hx => (htab x hx).elim) (by decide) (by decide) (by decide) (by decide) S.2.2.2.2.2.2.2.1 (xX_of G S.2.2.2.2.2.1) G.2.2.2.2 (by decide) (by decide)
set_option maxHeartbeats 1000000 in
theorem mx_walker2 (l : Launch) (hlt : l.stackTraces = false) (D : va_G) (cid : FieldType → ClassId) (b : Nat) (sa sv B0 : Nat) (sh : List xSh) (q0 : Nat) (x1 x2 : Int32) (d : xD) (r : Int32) (dz : xD) (hf : f_X9_walkerX sh q0 x1 x2 d = some (2, r, dz)) (Qc : (Nat → Prop) → Array Value → State → Outcome → State → Prop) :
    ∀ sz : Nat, vx_Met l yX9_walker (xws yX9_walker cX9_walker 3 (some .int)) (xRm 6 1 6) (xPcX (xE B0) D cid b sa sv B0 sz sh d [.ref (b + q0), .int x1, .int x2]) (Qc (va_A (xw cid b sh d) sz)) (xXC D cid b xNS sh dz (va_A (xw cid b sh d) sz)) 1 6 (va_A (xw cid b sh d) sz) := by
  obtain ⟨v7, z8, hv7, hz8, hdz, hk⟩ := xk_split hf (by decide)
  subst hdz
  obtain ⟨hqz8, hz8⟩ := xon_of hz8
  refine xMx.of (by decide) (Nat.le_of_ble_eq_true rfl) ?_
  intro p e s m below meth c ls A S hE htab G hl
  have hl : lv_has ls 3 [(0, .ref (b + q0)), (1, .int x1), (2, .int x2)] := hl
  generalize ([.ref (b + q0), .int x1, .int x2] : List Value).toArray = av at S ⊢
  have hx := S.1
  have hb := S.2.1
  have ht := S.2.2.2.2.1
  have hA0 := S.2.2.2.2.2.2.2.2.2.1
  obtain ⟨t1, hs1⟩ := hE.2.1
  obtain ⟨t2, hs2⟩ := hE.2.2.1
  have hU := hE.2.2.2.1.narrow hA0
  have hN := hE.2.2.2.2.1.narrow hA0
  refine lv_aload_n hx hb dX9_walker_0 rfl (lv_at hl 0 rfl) ?_
  refine xr_getR (ci := 9) (k := 4) S G hv7 rfl kw_485 dX9_walker_1 ?_
  refine lv_iload_n hx hb dX9_walker_4 rfl (lv_at hl 1 rfl) ?_
  refine xr_callV (ci := 3) (As := [.int x1]) (rest := []) (st1 := [.int z8.1]) S G hl.1 (fun _ => rfl) (mt_X3_hasWalker l D cid b false sa sv B0 sh v7 x1 d _ _ hz8) hqz8 (by decide) kw_758 kw_759 kw_760 kw_2 kw_761 hd_X3_hasWalker ⟨Nat.le_of_ble_eq_true rfl, Nat.le_of_ble_eq_true rfl⟩ rfl rfl rfl (Nat.le_of_ble_eq_true rfl) ⟨Nat.le_of_ble_eq_true rfl, Nat.le_of_ble_eq_true rfl⟩ dX9_walker_5 (fun H locs G => ?_)
  refine lv_if_ne (tgt := 21) hx hb dX9_walker_8 (by decide) (fun c => ?_) (fun c => ?_)
  · rcases hk with ⟨_, h⟩ | ⟨_, _, c0, c1, c2, c3, c4, c5, c6⟩
    · exact absurd h (by decide)
    refine lv_iload_n hx hb dX9_walker_21 rfl (lv_at hl 2 rfl) ?_
    have hks : ∀ z ∈ ([0, 1, 2, 3, 4, 5, 6] : List Int), (x2).toInt ≠ z := by
      intro z hz
      simp only [List.mem_cons, List.not_mem_nil, or_false] at hz
      rcases hz with rfl | rfl | rfl | rfl | rfl | rfl | rfl
      · exact x_toInt_ne 0 c0 (by decide)
      · exact x_toInt_ne 1 c1 (by decide)
      · exact x_toInt_ne 2 c2 (by decide)
      · exact x_toInt_ne 3 c3 (by decide)
      · exact x_toInt_ne 4 c4 (by decide)
      · exact x_toInt_ne 5 c5 (by decide)
      · exact x_toInt_ne 6 c6 (by decide)
    refine xr_tabD (tgt := 134) [0, 1, 2, 3, 4, 5, 6] hx hb dX9_walker_22 hks (by decide) (by decide) (by decide) ?_
    exact xt_throw (pc := 134) (own := RX9) (cls := xNS) (text := "no such what") (Y := "java/lang/RuntimeException") (ix := 13) (rx := prog_29_method_4_code) (names := ["java/lang/Exception"]) (ik := 154) (is := 156) (ic := 158) (sa := t2) (A := A) hx hb hlt S.2.2.2.1 (by decide +kernel) (by decide +kernel) (by decide +kernel) (by decide +kernel) (by decide +kernel) (by decide +kernel) (by decide +kernel) (ht _ kw_1138) (ht _ kw_23) hs2 (fun w hw => xE_words hE ht w (List.mem_append_right _ hw)) xat2_ot hU hN G.2.2 (hl.1.trans S.2.2.1.symm)
      dX9_walker_134 dX9_walker_137 dX9_walker_138 dX9_walker_140 dX9_walker_143 (fun x hx => (htab x hx).elim) (by decide) (by decide) (by decide) (by decide) S.2.2.2.2.2.2.2.1 (xX_of G S.2.2.2.2.2.1) G.2.2.2.2 (by decide) (by decide)
  · rcases hk with ⟨_, h⟩ | ⟨h, _⟩
    · exact absurd h (by decide)
    · exact absurd c h

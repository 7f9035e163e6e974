/-! THE TEXT OF THE LANGUAGE'S WORDS: String.length, String.charAt of it -/
def xch (i : Int32) : Option Int32 := if i < 0 ∨ 104 ≤ i.toNatClampNeg then none else some (xBYT.getD i.toNatClampNeg 0)
section XST
variable {p : Program} {l : Launch} {e : Env} {R : Room} {s : State} {m : MethodId} {args : Array Value} {below : List Frame} {meth : Method} {c : Code} {H : Heap} {locs : List Loc} {cells slots : Nat} {Q : State → Prop}
variable {cc : ByteArray} {pc nL : Nat} {ls : Array Slot} {rest : List Value} {D : va_G} {cid : FieldType → ClassId} {b : Nat} {ex : Bool} {A : Nat → Prop} {sh sh' : List xSh} {d d' : xD} {own : String} {n0 sa sv B0 : Nat}
theorem xr_nret {v : Int32} {ty : FieldType} (S : xM p s m args meth c cc nL own D cid A b ex n0 sa sv B0) (G : xG D cid b A sh d s H locs) (hn : ex = true → sh.length = n0 + cells) (hr : meth.sig.returnType = some ty) (hz : narrow ty (.int v) = .int v) (hdg : decode cc pc = .ok (.ireturn, 1)) :
    W p l e R s m args below meth c H locs cells slots (MQ below (xQ D cid b ex A (some (.int v)) sh d) args s cells slots A) (F0 m pc ls [.int v]) :=
  W.size fun hz2 => W.zret S.1 S.2.1 hr hz (fun t ht hW => xr_fin S G hn hz2 _ t ht hW) G.2.2.2.2 hdg (hlocks := S.2.2.2.2.2.2.2.1)
/-- a call of an instance's method, the receiver known otherwise -/
theorem xr_callU {y : MethodName} {bytes : ByteArray} {maxL dp mc ms index a n : Nat} {C : String} {ret : Option FieldType} {o : Option Value} {st0 As st1 : List Value} (S : xM p s m args meth c cc nL own D cid A b ex n0 sa sv B0) (G : xG D cid b A sh d s H locs) (hl : ls.size = nL) (hn : ex = true → sh.length = n0 + cells)
    (hM : xMet l y bytes maxL ret dp mc ms D cid b ex sa sv B0 (.ref a :: As) sh d o sh' d') (hrc : ∃ cell : Cell, H[a]? = some cell ∧ cell.vm.isStatics = false ∧ s.vm.findClass C = some cell.cls)
    (h1 : Cond.methodLink own index y ∈ xTB) (h2 : Cond.instanceMethod y ∈ xTB) (h3 : Cond.selects C y y ∈ xTB) (h4 : Cond.initialized C ∈ xTB) (h5 : Cond.code y bytes maxL ret ∈ xTB)
    (hd : y.cls = C ∧ y.cls ≠ "java/lang/invoke/MethodHandle" ∧ y.cls ≠ "java/lang/invoke/VarHandle" ∧ (parseMethodDescriptor y.desc).map (fun d => d.parameters.length) = some n) (hR : dp + 1 ≤ R.frames ∧ 8 + (maxL + 11) + 40 * dp ≤ R.locals) (hAs : As.length = n) (hst1 : o.toList ++ rest = st1) (hst : st0 = As.reverse ++ .ref a :: rest) (hW : (rest.map fun v => v.category).sum ≤ 8) (hf : cells + mc ≤ R.cells ∧ slots + ms ≤ R.slots) (hdg : decode cc pc = .ok (.invokevirtual index, 3))
    (kk : ∀ (H : Heap) (locs : List Loc), xG D cid b A sh' d' s H locs → W p l e R s m args below meth c H locs (cells + mc) (slots + ms) Q (F0 m (pc + 3) ls st1)) : W p l e R s m args below meth c H locs cells slots Q (F0 m pc ls st0) := by
  subst hst1
  refine W.size fun hz => ?_
  exact xr_run S G (va_runV (Ts := xTB) (C := C) ⟨S.1, S.2.1, S.2.2.1, S.2.2.2.1, S.2.2.2.2.1⟩ (hM H.size) (cwV n S.2.2.2.2.1 (x_goodV (x_goodC h5) h1 h2 h3 h4) rfl rfl rfl hd hR) ⟨xPc_blind, hrc, fun U hU hW => xr_pre S G hn hz _ U hU hW⟩ rfl hAs hl hst (by show 2 * 0 + _ ≤ 8; omega) hdg hf) kk
theorem xS_K (S : xM p s m args meth c cc nL own D cid A b ex n0 sa sv B0) : vk_S 1 [104] [xBYT] (fun _ => sa) (fun _ => sv) A s s.heap := S.2.2.2.2.2.2.2.2.1.2.2.1.narrow S.2.2.2.2.2.2.2.2.2.1
theorem xS_Z (S : xM p s m args meth c cc nL own D cid A b ex n0 sa sv B0) : va_Z "java/lang/String" "COMPACT_STRINGS" "Z" (.int 1) A s s.heap := S.2.2.2.2.2.2.2.2.1.2.2.2.1.narrow S.2.2.2.2.2.2.2.2.2.1
theorem xS_F (S : xM p s m args meth c cc nL own D cid A b ex n0 sa sv B0) : va_Zq "jdk/internal/util/Preconditions" "SIOOBE_FORMATTER" "Ljava/util/function/BiFunction;" A s s.heap := S.2.2.2.2.2.2.2.2.1.2.2.2.2.1.narrow S.2.2.2.2.2.2.2.2.2.1
end XST
theorem dJ0_isLatin1_aae02_0 : decode cJ0_isLatin1_aae02 0 = .ok (.getstatic 38, 3) := by decide +kernel
theorem dJ0_isLatin1_aae02_3 : decode cJ0_isLatin1_aae02 3 = .ok (.ifCond .eq 14, 3) := by decide +kernel
theorem dJ0_isLatin1_aae02_6 : decode cJ0_isLatin1_aae02 6 = .ok (.aload_n 0, 1) := by decide +kernel
theorem dJ0_isLatin1_aae02_7 : decode cJ0_isLatin1_aae02 7 = .ok (.getfield 15, 3) := by decide +kernel
theorem dJ0_isLatin1_aae02_10 : decode cJ0_isLatin1_aae02 10 = .ok (.ifCond .ne 7, 3) := by decide +kernel
theorem dJ0_isLatin1_aae02_13 : decode cJ0_isLatin1_aae02 13 = .ok (.iconst 1, 1) := by decide +kernel
theorem dJ0_isLatin1_aae02_14 : decode cJ0_isLatin1_aae02 14 = .ok (.goto 4, 3) := by decide +kernel
theorem dJ0_isLatin1_aae02_17 : decode cJ0_isLatin1_aae02 17 = .ok (.iconst 0, 1) := by decide +kernel
theorem dJ0_isLatin1_aae02_18 : decode cJ0_isLatin1_aae02 18 = .ok (.ireturn, 1) := by decide +kernel
theorem dJ0_coder_7d493_0 : decode cJ0_coder_7d493 0 = .ok (.getstatic 38, 3) := by decide +kernel
theorem dJ0_coder_7d493_3 : decode cJ0_coder_7d493 3 = .ok (.ifCond .eq 10, 3) := by decide +kernel
theorem dJ0_coder_7d493_6 : decode cJ0_coder_7d493 6 = .ok (.aload_n 0, 1) := by decide +kernel
theorem dJ0_coder_7d493_7 : decode cJ0_coder_7d493 7 = .ok (.getfield 15, 3) := by decide +kernel
theorem dJ0_coder_7d493_10 : decode cJ0_coder_7d493 10 = .ok (.goto 4, 3) := by decide +kernel
theorem dJ0_coder_7d493_13 : decode cJ0_coder_7d493 13 = .ok (.iconst 1, 1) := by decide +kernel
theorem dJ0_coder_7d493_14 : decode cJ0_coder_7d493 14 = .ok (.ireturn, 1) := by decide +kernel
theorem dJ0_length_8abf5_0 : decode cJ0_length_8abf5 0 = .ok (.aload_n 0, 1) := by decide +kernel
theorem dJ0_length_8abf5_1 : decode cJ0_length_8abf5 1 = .ok (.getfield 9, 3) := by decide +kernel
theorem dJ0_length_8abf5_4 : decode cJ0_length_8abf5 4 = .ok (.arraylength, 1) := by decide +kernel
theorem dJ0_length_8abf5_5 : decode cJ0_length_8abf5 5 = .ok (.aload_n 0, 1) := by decide +kernel
theorem dJ0_length_8abf5_6 : decode cJ0_length_8abf5 6 = .ok (.invokevirtual 335, 3) := by decide +kernel
theorem dJ0_length_8abf5_9 : decode cJ0_length_8abf5 9 = .ok (.ishr, 1) := by decide +kernel
theorem dJ0_length_8abf5_10 : decode cJ0_length_8abf5 10 = .ok (.ireturn, 1) := by decide +kernel
theorem dJ3_checkIndex_8e157_0 : decode cJ3_checkIndex_8e157 0 = .ok (.iload_n 0, 1) := by decide +kernel
theorem dJ3_checkIndex_8e157_1 : decode cJ3_checkIndex_8e157 1 = .ok (.ifCond .lt 8, 3) := by decide +kernel
theorem dJ3_checkIndex_8e157_4 : decode cJ3_checkIndex_8e157 4 = .ok (.iload_n 0, 1) := by decide +kernel
theorem dJ3_checkIndex_8e157_5 : decode cJ3_checkIndex_8e157 5 = .ok (.iload_n 1, 1) := by decide +kernel
theorem dJ3_checkIndex_8e157_6 : decode cJ3_checkIndex_8e157 6 = .ok (.if_icmp .lt 10, 3) := by decide +kernel
theorem dJ3_checkIndex_8e157_9 : decode cJ3_checkIndex_8e157 9 = .ok (.aload_n 2, 1) := by decide +kernel
theorem dJ3_checkIndex_8e157_10 : decode cJ3_checkIndex_8e157 10 = .ok (.iload_n 0, 1) := by decide +kernel
theorem dJ3_checkIndex_8e157_11 : decode cJ3_checkIndex_8e157 11 = .ok (.iload_n 1, 1) := by decide +kernel
theorem dJ3_checkIndex_8e157_12 : decode cJ3_checkIndex_8e157 12 = .ok (.invokestatic 95, 3) := by decide +kernel
theorem dJ3_checkIndex_8e157_15 : decode cJ3_checkIndex_8e157 15 = .ok (.athrow, 1) := by decide +kernel
theorem dJ3_checkIndex_8e157_16 : decode cJ3_checkIndex_8e157 16 = .ok (.iload_n 0, 1) := by decide +kernel
theorem dJ3_checkIndex_8e157_17 : decode cJ3_checkIndex_8e157 17 = .ok (.ireturn, 1) := by decide +kernel
theorem dJ0_checkIndex_df160_0 : decode cJ0_checkIndex_df160 0 = .ok (.iload_n 0, 1) := by decide +kernel
theorem dJ0_checkIndex_df160_1 : decode cJ0_checkIndex_df160 1 = .ok (.iload_n 1, 1) := by decide +kernel
theorem dJ0_checkIndex_df160_2 : decode cJ0_checkIndex_df160 2 = .ok (.getstatic 1053, 3) := by decide +kernel
theorem dJ0_checkIndex_df160_5 : decode cJ0_checkIndex_df160 5 = .ok (.invokestatic 1059, 3) := by decide +kernel
theorem dJ0_checkIndex_df160_8 : decode cJ0_checkIndex_df160 8 = .ok (.pop, 1) := by decide +kernel
theorem dJ0_checkIndex_df160_9 : decode cJ0_checkIndex_df160 9 = .ok (.return_, 1) := by decide +kernel
theorem dJ1_charAt_3b067_0 : decode cJ1_charAt_3b067 0 = .ok (.iload_n 1, 1) := by decide +kernel
theorem dJ1_charAt_3b067_1 : decode cJ1_charAt_3b067 1 = .ok (.aload_n 0, 1) := by decide +kernel
theorem dJ1_charAt_3b067_2 : decode cJ1_charAt_3b067 2 = .ok (.arraylength, 1) := by decide +kernel
theorem dJ1_charAt_3b067_3 : decode cJ1_charAt_3b067 3 = .ok (.invokestatic 9, 3) := by decide +kernel
theorem dJ1_charAt_3b067_6 : decode cJ1_charAt_3b067 6 = .ok (.aload_n 0, 1) := by decide +kernel
theorem dJ1_charAt_3b067_7 : decode cJ1_charAt_3b067 7 = .ok (.iload_n 1, 1) := by decide +kernel
theorem dJ1_charAt_3b067_8 : decode cJ1_charAt_3b067 8 = .ok (.baload, 1) := by decide +kernel
theorem dJ1_charAt_3b067_9 : decode cJ1_charAt_3b067 9 = .ok (.sipush 255, 3) := by decide +kernel
theorem dJ1_charAt_3b067_12 : decode cJ1_charAt_3b067 12 = .ok (.iand, 1) := by decide +kernel
theorem dJ1_charAt_3b067_13 : decode cJ1_charAt_3b067 13 = .ok (.i2c, 1) := by decide +kernel
theorem dJ1_charAt_3b067_14 : decode cJ1_charAt_3b067 14 = .ok (.ireturn, 1) := by decide +kernel
theorem dJ0_charAt_5068e_0 : decode cJ0_charAt_5068e 0 = .ok (.aload_n 0, 1) := by decide +kernel
theorem dJ0_charAt_5068e_1 : decode cJ0_charAt_5068e 1 = .ok (.invokevirtual 492, 3) := by decide +kernel
theorem dJ0_charAt_5068e_4 : decode cJ0_charAt_5068e 4 = .ok (.ifCond .eq 12, 3) := by decide +kernel
theorem dJ0_charAt_5068e_7 : decode cJ0_charAt_5068e 7 = .ok (.aload_n 0, 1) := by decide +kernel
theorem dJ0_charAt_5068e_8 : decode cJ0_charAt_5068e 8 = .ok (.getfield 9, 3) := by decide +kernel
theorem dJ0_charAt_5068e_11 : decode cJ0_charAt_5068e 11 = .ok (.iload_n 1, 1) := by decide +kernel
theorem dJ0_charAt_5068e_12 : decode cJ0_charAt_5068e 12 = .ok (.invokestatic 495, 3) := by decide +kernel
theorem dJ0_charAt_5068e_15 : decode cJ0_charAt_5068e 15 = .ok (.ireturn, 1) := by decide +kernel
theorem dJ0_charAt_5068e_16 : decode cJ0_charAt_5068e 16 = .ok (.aload_n 0, 1) := by decide +kernel
theorem dJ0_charAt_5068e_17 : decode cJ0_charAt_5068e 17 = .ok (.getfield 9, 3) := by decide +kernel
theorem dJ0_charAt_5068e_20 : decode cJ0_charAt_5068e 20 = .ok (.iload_n 1, 1) := by decide +kernel
theorem dJ0_charAt_5068e_21 : decode cJ0_charAt_5068e 21 = .ok (.invokestatic 498, 3) := by decide +kernel
theorem dJ0_charAt_5068e_24 : decode cJ0_charAt_5068e 24 = .ok (.ireturn, 1) := by decide +kernel
section XSU
variable (l : Launch) (D : va_G) (cid : FieldType → ClassId) (b : Nat) (ex : Bool) (sa sv B0 : Nat) (sh : List xSh) (d : xD)
set_option maxHeartbeats 4000000 in
theorem mt_J0_isLatin1 : xMet l yJ0_isLatin1_aae02 cJ0_isLatin1_aae02 1 (some .boolean) 0 0 0 D cid b ex sa sv B0 [.ref sa] sh d (some (.int 1)) sh d := by
  refine xMet.of (by decide) (Nat.le_of_ble_eq_true rfl) ?_
  intro p e s m below meth c ls A S hr hin G hl
  have hl : lv_has ls 1 [(0, .ref sa)] := hl
  generalize ([.ref sa] : List Value).toArray = av at S ⊢
  have hx := S.1
  have hb := S.2.1
  have hown := S.2.2.2.1
  have hts := S.2.2.2.2.1
  refine va_gets (own := "java/lang/String") hx hb (xS_Z S) G.2.2 hown (hts _ kw_186) (fun _ h => h) dJ0_isLatin1_aae02_0 ?_
  refine lv_if_eq (tgt := 17) hx hb dJ0_isLatin1_aae02_3 (by decide) (fun c => absurd c (by decide)) (fun c => ?_)
  refine lv_aload_n hx hb dJ0_isLatin1_aae02_6 rfl (lv_at hl 0 rfl) ?_
  refine vk_getf (own := "java/lang/String") hx hb ((xS_K S).1 0 (by decide)).2.1 G.2.2 hown (hts _ kw_1808) (fun _ h => h) dJ0_isLatin1_aae02_7 ?_
  refine lv_if_ne (tgt := 17) hx hb dJ0_isLatin1_aae02_10 (by decide) (fun c => absurd rfl c) (fun c => ?_)
  refine lv_iconst (v := (1 : Int32)) hx hb dJ0_isLatin1_aae02_13 (by decide) ?_
  refine lv_goto (tgt := 18) hx hb dJ0_isLatin1_aae02_14 (by decide) ?_
  exact xr_nret S G (fun _ => rfl) hr rfl dJ0_isLatin1_aae02_18
set_option maxHeartbeats 4000000 in
theorem mt_J0_coder : xMet l yJ0_coder_7d493 cJ0_coder_7d493 1 (some .byte) 0 0 0 D cid b ex sa sv B0 [.ref sa] sh d (some (.int 0)) sh d := by
  refine xMet.of (by decide) (Nat.le_of_ble_eq_true rfl) ?_
  intro p e s m below meth c ls A S hr hin G hl
  have hl : lv_has ls 1 [(0, .ref sa)] := hl
  generalize ([.ref sa] : List Value).toArray = av at S ⊢
  have hx := S.1
  have hb := S.2.1
  have hown := S.2.2.2.1
  have hts := S.2.2.2.2.1
  refine va_gets (own := "java/lang/String") hx hb (xS_Z S) G.2.2 hown (hts _ kw_186) (fun _ h => h) dJ0_coder_7d493_0 ?_
  refine lv_if_eq (tgt := 13) hx hb dJ0_coder_7d493_3 (by decide) (fun c => absurd c (by decide)) (fun c => ?_)
  refine lv_aload_n hx hb dJ0_coder_7d493_6 rfl (lv_at hl 0 rfl) ?_
  refine vk_getf (own := "java/lang/String") hx hb ((xS_K S).1 0 (by decide)).2.1 G.2.2 hown (hts _ kw_1808) (fun _ h => h) dJ0_coder_7d493_7 ?_
  refine lv_goto (tgt := 14) hx hb dJ0_coder_7d493_10 (by decide) ?_
  exact xr_nret S G (fun _ => rfl) hr rfl dJ0_coder_7d493_14
set_option maxHeartbeats 4000000 in
theorem mt_J0_length : xMet l yJ0_length_8abf5 cJ0_length_8abf5 1 (some .int) 1 0 0 D cid b ex sa sv B0 [.ref sa] sh d (some (.int 104)) sh d := by
  refine xMet.of (by decide) (Nat.le_of_ble_eq_true rfl) ?_
  intro p e s m below meth c ls A S hr hin G hl
  have hl : lv_has ls 1 [(0, .ref sa)] := hl
  generalize ([.ref sa] : List Value).toArray = av at S ⊢
  have hx := S.1
  have hb := S.2.1
  have hown := S.2.2.2.1
  have hts := S.2.2.2.2.1
  refine lv_aload_n hx hb dJ0_length_8abf5_0 rfl (lv_at hl 0 rfl) ?_
  refine vk_getf (own := "java/lang/String") hx hb ((xS_K S).1 0 (by decide)).2.2.1 G.2.2 hown (hts _ kw_1807) (fun _ h => h) dJ0_length_8abf5_1 ?_
  refine va_tlen (v := (104 : Int32)) hx hb ((xS_K S).1 0 (by decide)).2.2.2 G.2.2 (by decide) dJ0_length_8abf5_4 ?_
  refine lv_aload_n hx hb dJ0_length_8abf5_5 rfl (lv_at hl 0 rfl) ?_
  refine xr_callU (C := "java/lang/String") (As := []) (rest := [.int 104]) (st1 := [.int 0, .int 104]) S G hl.1 (fun _ => rfl) (mt_J0_coder l D cid b ex sa sv B0 sh d) (vk_recv (xS_K S) (i := 0) (by decide) G.2.2) kw_182 kw_183 kw_184 kw_6 kw_185 (by decide +kernel) ⟨Nat.le_of_ble_eq_true rfl, Nat.le_of_ble_eq_true rfl⟩ rfl rfl rfl (Nat.le_of_ble_eq_true rfl) ⟨Nat.le_of_ble_eq_true rfl, Nat.le_of_ble_eq_true rfl⟩ dJ0_length_8abf5_6 (fun H locs G => ?_)
  refine lv_ishr hx hb dJ0_length_8abf5_9 ?_
  exact xr_iret S G (fun _ => rfl) hr dJ0_length_8abf5_10
set_option maxHeartbeats 4000000 in
theorem mt_J3_checkIndex (i n : Int32) (v : Value) (hv : v = .null ∨ ∃ t, v = .ref t) (h0 : ¬ i < 0) (h1 : i < n) : xMet l yJ3_checkIndex_8e157 cJ3_checkIndex_8e157 3 (some .int) 0 0 0 D cid b ex sa sv B0 [.int i, .int n, v] sh d (some (.int i)) sh d := by
  refine xMet.of (by decide) (by rcases hv with rfl | ⟨t, rfl⟩ <;> exact Nat.le_of_ble_eq_true rfl) ?_
  intro p e s m below meth c ls A S hr hin G hl
  have hl : lv_has ls 3 [(0, .int i), (1, .int n), (2, v)] := hl
  generalize ([.int i, .int n, v] : List Value).toArray = av at S ⊢
  have hx := S.1
  have hb := S.2.1
  have hown := S.2.2.2.1
  have hts := S.2.2.2.2.1
  refine lv_iload_n hx hb dJ3_checkIndex_8e157_0 rfl (lv_at hl 0 rfl) ?_
  refine lv_if_lt (tgt := 9) hx hb dJ3_checkIndex_8e157_1 (by decide) (fun c => absurd c h0) (fun c => ?_)
  refine lv_iload_n hx hb dJ3_checkIndex_8e157_4 rfl (lv_at hl 0 rfl) ?_
  refine lv_iload_n hx hb dJ3_checkIndex_8e157_5 rfl (lv_at hl 1 rfl) ?_
  refine lv_icmp_lt (tgt := 16) hx hb dJ3_checkIndex_8e157_6 (by decide) (fun c => ?_) (fun c => absurd h1 c)
  refine lv_iload_n hx hb dJ3_checkIndex_8e157_16 rfl (lv_at hl 0 rfl) ?_
  exact xr_iret S G (fun _ => rfl) hr dJ3_checkIndex_8e157_17
set_option maxHeartbeats 4000000 in
theorem mt_J0_checkIndex (i n : Int32) (h0 : ¬ i < 0) (h1 : i < n) : xMet l yJ0_checkIndex_df160 cJ0_checkIndex_df160 2 none 1 0 0 D cid b ex sa sv B0 [.int i, .int n] sh d none sh d := by
  refine xMet.of (by decide) (Nat.le_of_ble_eq_true rfl) ?_
  intro p e s m below meth c ls A S hr hin G hl
  have hl : lv_has ls 2 [(0, .int i), (1, .int n)] := hl
  generalize ([.int i, .int n] : List Value).toArray = av at S ⊢
  have hx := S.1
  have hb := S.2.1
  have hown := S.2.2.2.1
  have hts := S.2.2.2.2.1
  refine lv_iload_n hx hb dJ0_checkIndex_df160_0 rfl (lv_at hl 0 rfl) ?_
  refine lv_iload_n hx hb dJ0_checkIndex_df160_1 rfl (lv_at hl 1 rfl) ?_
  have hc : Cond.code yJ3_checkIndex_8e157 cJ3_checkIndex_8e157 3 (some .int) ∈ xTB := kw_206
  have hdd : yJ3_checkIndex_8e157.cls ≠ "java/lang/invoke/MethodHandle" ∧ yJ3_checkIndex_8e157.cls ≠ "java/lang/invoke/VarHandle" ∧ (parseMethodDescriptor yJ3_checkIndex_8e157.desc).map (fun d => d.parameters.length) = some 3 := by decide +kernel
  rcases xS_F S with hZ | ⟨t, hZ⟩
  · refine va_gets (own := "java/lang/String") hx hb hZ G.2.2 hown (hts _ kw_202) (fun _ h => h) dJ0_checkIndex_df160_2 ?_
    refine xr_callS (As := [.int i, .int n, .null]) (rest := []) (st1 := [.int i]) S G hl.1 (fun _ => rfl) (mt_J3_checkIndex l D cid b ex sa sv B0 sh d i n .null (Or.inl rfl) h0 h1) kw_204 kw_205 kw_8 hc hdd ⟨Nat.le_of_ble_eq_true rfl, Nat.le_of_ble_eq_true rfl⟩ rfl rfl rfl (Nat.le_of_ble_eq_true rfl) ⟨Nat.le_of_ble_eq_true rfl, Nat.le_of_ble_eq_true rfl⟩ dJ0_checkIndex_df160_5 (fun H locs G => ?_)
    refine lv_pop hx hb dJ0_checkIndex_df160_8 rfl ?_
    exact xr_vret S G (fun _ => rfl) hr dJ0_checkIndex_df160_9
  · refine va_gets (own := "java/lang/String") hx hb hZ G.2.2 hown (hts _ kw_202) (fun _ h => h) dJ0_checkIndex_df160_2 ?_
    refine xr_callS (As := [.int i, .int n, .ref t]) (rest := []) (st1 := [.int i]) S G hl.1 (fun _ => rfl) (mt_J3_checkIndex l D cid b ex sa sv B0 sh d i n (.ref t) (Or.inr ⟨t, rfl⟩) h0 h1) kw_204 kw_205 kw_8 hc hdd ⟨Nat.le_of_ble_eq_true rfl, Nat.le_of_ble_eq_true rfl⟩ rfl rfl rfl (Nat.le_of_ble_eq_true rfl) ⟨Nat.le_of_ble_eq_true rfl, Nat.le_of_ble_eq_true rfl⟩ dJ0_checkIndex_df160_5 (fun H locs G => ?_)
    refine lv_pop hx hb dJ0_checkIndex_df160_8 rfl ?_
    exact xr_vret S G (fun _ => rfl) hr dJ0_checkIndex_df160_9
theorem xBYT_ok : ∀ i, i < 104 → (((xBYT.getD i 0) &&& 255).toUInt32 % 65536).toInt32 = xBYT.getD i 0 ∧ narrow .char (.int (xBYT.getD i 0)) = .int (xBYT.getD i 0) := by decide +kernel
theorem xch_of {i v : Int32} (h : xch i = some v) : ¬ i < 0 ∧ i < 104 ∧ i.toNatClampNeg < 104 ∧ xBYT.getD i.toNatClampNeg 0 = v := by
  unfold xch at h
  split at h
  · cases h
  · rename_i hc
    have h1 : ¬ i < 0 := fun q => hc (Or.inl q)
    have h2 : i.toNatClampNeg < 104 := Nat.not_le.mp fun q => hc (Or.inr q)
    refine ⟨h1, ?_, h2, Option.some.inj h⟩
    obtain ⟨j, hj, rfl⟩ := nI_of h1
    rw [nI_clamp hj] at h2
    exact nI_lt h2 (by decide)
set_option maxHeartbeats 4000000 in
theorem mt_J1_charAt (i v : Int32) (hv : xch i = some v) : xMet l yJ1_charAt_3b067 cJ1_charAt_3b067 2 (some .char) 2 0 0 D cid b ex sa sv B0 [.ref sv, .int i] sh d (some (.int v)) sh d := by
  obtain ⟨h0, h1, h2, rfl⟩ := xch_of hv
  refine xMet.of (by decide) (Nat.le_of_ble_eq_true rfl) ?_
  intro p e s m below meth c ls A S hr hin G hl
  have hl : lv_has ls 2 [(0, .ref sv), (1, .int i)] := hl
  generalize ([.ref sv, .int i] : List Value).toArray = av at S ⊢
  have hx := S.1
  have hb := S.2.1
  have hown := S.2.2.2.1
  have hts := S.2.2.2.2.1
  refine lv_iload_n hx hb dJ1_charAt_3b067_0 rfl (lv_at hl 1 rfl) ?_
  refine lv_aload_n hx hb dJ1_charAt_3b067_1 rfl (lv_at hl 0 rfl) ?_
  refine va_tlen (v := (104 : Int32)) hx hb ((xS_K S).1 0 (by decide)).2.2.2 G.2.2 (by decide) dJ1_charAt_3b067_2 ?_
  have hdd : yJ0_checkIndex_df160.cls ≠ "java/lang/invoke/MethodHandle" ∧ yJ0_checkIndex_df160.cls ≠ "java/lang/invoke/VarHandle" ∧ (parseMethodDescriptor yJ0_checkIndex_df160.desc).map (fun d => d.parameters.length) = some 2 := by decide +kernel
  refine xr_callS (As := [.int i, .int 104]) (rest := []) (st1 := []) S G hl.1 (fun _ => rfl) (mt_J0_checkIndex l D cid b ex sa sv B0 sh d i 104 h0 h1) kw_199 kw_200 kw_6 kw_201 hdd ⟨Nat.le_of_ble_eq_true rfl, Nat.le_of_ble_eq_true rfl⟩ rfl rfl rfl (Nat.le_of_ble_eq_true rfl) ⟨Nat.le_of_ble_eq_true rfl, Nat.le_of_ble_eq_true rfl⟩ dJ1_charAt_3b067_3 (fun H locs G => ?_)
  refine lv_aload_n hx hb dJ1_charAt_3b067_6 rfl (lv_at hl 0 rfl) ?_
  refine lv_iload_n hx hb dJ1_charAt_3b067_7 rfl (lv_at hl 1 rfl) ?_
  refine va_tb (v := .int (xBYT.getD i.toNatClampNeg 0)) hx hb ((xS_K S).1 0 (by decide)).2.2.2 G.2.2 (i := i) (fun q => q.elim h0 (fun q => absurd h2 (Nat.not_lt.mpr q))) rfl dJ1_charAt_3b067_8 ?_
  refine lv_sipush (v := (255 : Int32)) hx hb dJ1_charAt_3b067_9 (by decide) ?_
  refine lv_iand hx hb dJ1_charAt_3b067_12 ?_
  refine lv_i2c (v := xBYT.getD i.toNatClampNeg 0) hx hb dJ1_charAt_3b067_13 (xBYT_ok _ h2).1 ?_
  exact xr_nret S G (fun _ => rfl) hr (xBYT_ok _ h2).2 dJ1_charAt_3b067_14
set_option maxHeartbeats 4000000 in
theorem mt_J0_charAt (i v : Int32) (hv : xch i = some v) : xMet l yJ0_charAt_5068e cJ0_charAt_5068e 2 (some .char) 3 0 0 D cid b ex sa sv B0 [.ref sa, .int i] sh d (some (.int v)) sh d := by
  refine xMet.of (by decide) (Nat.le_of_ble_eq_true rfl) ?_
  intro p e s m below meth c ls A S hr hin G hl
  have hl : lv_has ls 2 [(0, .ref sa), (1, .int i)] := hl
  generalize ([.ref sa, .int i] : List Value).toArray = av at S ⊢
  have hx := S.1
  have hb := S.2.1
  have hown := S.2.2.2.1
  have hts := S.2.2.2.2.1
  refine lv_aload_n hx hb dJ0_charAt_5068e_0 rfl (lv_at hl 0 rfl) ?_
  refine xr_callU (C := "java/lang/String") (As := []) (rest := []) (st1 := [.int 1]) S G hl.1 (fun _ => rfl) (mt_J0_isLatin1 l D cid b ex sa sv B0 sh d) (vk_recv (xS_K S) (i := 0) (by decide) G.2.2) kw_192 kw_193 kw_194 kw_6 kw_195 (by decide +kernel) ⟨Nat.le_of_ble_eq_true rfl, Nat.le_of_ble_eq_true rfl⟩ rfl rfl rfl (Nat.le_of_ble_eq_true rfl) ⟨Nat.le_of_ble_eq_true rfl, Nat.le_of_ble_eq_true rfl⟩ dJ0_charAt_5068e_1 (fun H locs G => ?_)
  refine lv_if_eq (tgt := 16) hx hb dJ0_charAt_5068e_4 (by decide) (fun c => absurd c (by decide)) (fun c => ?_)
  refine lv_aload_n hx hb dJ0_charAt_5068e_7 rfl (lv_at hl 0 rfl) ?_
  refine vk_getf (own := "java/lang/String") hx hb ((xS_K S).1 0 (by decide)).2.2.1 G.2.2 hown (hts _ kw_1807) (fun _ h => h) dJ0_charAt_5068e_8 ?_
  refine lv_iload_n hx hb dJ0_charAt_5068e_11 rfl (lv_at hl 1 rfl) ?_
  have hdd : yJ1_charAt_3b067.cls ≠ "java/lang/invoke/MethodHandle" ∧ yJ1_charAt_3b067.cls ≠ "java/lang/invoke/VarHandle" ∧ (parseMethodDescriptor yJ1_charAt_3b067.desc).map (fun d => d.parameters.length) = some 2 := by decide +kernel
  refine xr_callS (As := [.ref sv, .int i]) (rest := []) (st1 := [.int v]) S G hl.1 (fun _ => rfl) (mt_J1_charAt l D cid b ex sa sv B0 sh d i v hv) kw_196 kw_197 kw_7 kw_198 hdd ⟨Nat.le_of_ble_eq_true rfl, Nat.le_of_ble_eq_true rfl⟩ rfl rfl rfl (Nat.le_of_ble_eq_true rfl) ⟨Nat.le_of_ble_eq_true rfl, Nat.le_of_ble_eq_true rfl⟩ dJ0_charAt_5068e_12 (fun H locs G => ?_)
  obtain ⟨-, -, h2, rfl⟩ := xch_of hv
  exact xr_nret S G (fun _ => rfl) hr (xBYT_ok _ h2).2 dJ0_charAt_5068e_15
end XSU
section XSV
variable {p : Program} {l : Launch} {e : Env} {R : Room} {s : State} {m : MethodId} {args : Array Value} {below : List Frame} {meth : Method} {c : Code} {H : Heap} {locs : List Loc} {cells slots : Nat} {Q : State → Prop}
variable {cc : ByteArray} {pc nL : Nat} {ls : Array Slot} {rest : List Value} {D : va_G} {cid : FieldType → ClassId} {b : Nat} {ex : Bool} {A : Nat → Prop} {sh sh' : List xSh} {d d' : xD} {own : String} {n0 sa sv B0 : Nat}
theorem xr_strlen {index : Nat} (S : xM p s m args meth c cc nL own D cid A b ex n0 sa sv B0) (G : xG D cid b A sh d s H locs) (hl : ls.size = nL) (hn : ex = true → sh.length = n0 + cells) (h1 : Cond.methodLink own index yJ0_length_8abf5 ∈ xTB) (hR : 2 ≤ R.frames ∧ 60 ≤ R.locals) (hW : (rest.map fun v => v.category).sum ≤ 8) (hc : cells ≤ R.cells ∧ slots ≤ R.slots) (hdg : decode cc pc = .ok (.invokevirtual index, 3))
    (kk : ∀ (H : Heap) (locs : List Loc), xG D cid b A sh d s H locs → W p l e R s m args below meth c H locs cells slots Q (F0 m (pc + 3) ls (.int 104 :: rest))) : W p l e R s m args below meth c H locs cells slots Q (F0 m pc ls (.ref sa :: rest)) :=
  xr_callU (C := "java/lang/String") (n := 0) (As := []) (rest := rest) (st1 := .int 104 :: rest) S G hl hn (mt_J0_length l D cid b ex sa sv B0 sh d) (vk_recv (xS_K S) (i := 0) (by decide) G.2.2) h1 kw_179 kw_180 kw_6 kw_181 (by decide +kernel) ⟨hR.1, by have := hR.2; omega⟩ rfl rfl rfl hW hc hdg kk
theorem xr_charAt {index : Nat} {i v : Int32} (S : xM p s m args meth c cc nL own D cid A b ex n0 sa sv B0) (G : xG D cid b A sh d s H locs) (hl : ls.size = nL) (hn : ex = true → sh.length = n0 + cells) (hv : xch i = some v) (h1 : Cond.methodLink own index yJ0_charAt_5068e ∈ xTB) (hR : 4 ≤ R.frames ∧ 150 ≤ R.locals) (hW : (rest.map fun v => v.category).sum ≤ 8) (hc : cells ≤ R.cells ∧ slots ≤ R.slots) (hdg : decode cc pc = .ok (.invokevirtual index, 3))
    (kk : ∀ (H : Heap) (locs : List Loc), xG D cid b A sh d s H locs → W p l e R s m args below meth c H locs cells slots Q (F0 m (pc + 3) ls (.int v :: rest))) : W p l e R s m args below meth c H locs cells slots Q (F0 m pc ls (.int i :: .ref sa :: rest)) :=
  xr_callU (C := "java/lang/String") (n := 1) (As := [.int i]) (rest := rest) (st1 := .int v :: rest) S G hl hn (mt_J0_charAt l D cid b ex sa sv B0 sh d i v hv) (vk_recv (xS_K S) (i := 0) (by decide) G.2.2) h1 kw_189 kw_190 kw_6 kw_191 (by decide +kernel) ⟨hR.1, by have := hR.2; omega⟩ rfl rfl rfl hW hc hdg kk
end XSV

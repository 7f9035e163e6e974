/-! THE LAW'S WORLD: the class's pure heap at b1, the reference's at b2, the row of one long at oo -/
def xZD : xD := (fun _ _ => 0, fun _ _ => 0, fun _ _ => none)
def shC : List xSh := sx_X9_init_98 [.inl 9]
def shM : List xSh := sx_X10_init_39 [.inl 10]
theorem shC_len : shC.length = 99 := by unfold shC; rw [sx_X9_init_98_len]; rfl
theorem shM_len : shM.length = 40 := by unfold shM; rw [sx_X10_init_39_len]; rfl
theorem shC_0 : shC[0]? = some (.inl 9) := by decide +kernel
theorem shM_0 : shM[0]? = some (.inl 10) := by decide +kernel
theorem xw_D {A : Nat → Prop} {cid : FieldType → ClassId} {b : Nat} {sh : List xSh} {d : xD} (hA : ∀ q, b ≤ q → A q) : va_D A (xw cid b sh d) := by
  refine ⟨fun i j p q hi hj e => ?_, fun k q hk => ?_⟩
  · have h1 := (List.getElem?_eq_some_iff.mp hi).1
    have h2 := (List.getElem?_eq_some_iff.mp hj).1
    rw [xw_len] at h1 h2
    rw [xw_get cid b sh d h1] at hi
    rw [xw_get cid b sh d h2] at hj
    cases hi; cases hj
    have : b + i = b + j := e
    omega
  · have h1 := (List.getElem?_eq_some_iff.mp hk).1
    rw [xw_len] at h1
    rw [xw_get cid b sh d h1] at hk
    cases hk
    exact hA _ (Nat.le_add_right _ _)
theorem xw_A {cid : FieldType → ClassId} {b : Nat} {sh : List xSh} {d : xD} {sz a : Nat} (h : va_A (xw cid b sh d) sz a) : (b ≤ a ∧ a < b + sh.length) ∨ sz ≤ a := by
  rcases h with ⟨k, e, hk⟩ | h
  · have h1 := (List.getElem?_eq_some_iff.mp hk).1
    rw [xw_len] at h1
    rw [xw_get cid b sh d h1] at hk
    have h2 : b + k = a := congrArg Prod.fst (Option.some.inj hk)
    exact Or.inl ⟨by omega, by omega⟩
  · exact Or.inr h
section XLW
variable {p : Program} {l : Launch} {e : Env} {R : Room} {s : State} {m : MethodId} {args : Array Value} {below : List Frame} {meth : Method} {c : Code} {H : Heap} {locs : List Loc} {cells slots : Nat} {Q : State → Prop}
variable {cc : ByteArray} {pc nL : Nat} {ls : Array Slot} {rest : List Value} {D : va_G} {cid : FieldType → ClassId} {b : Nat} {ex : Bool} {A : Nat → Prop} {sh sh' : List xSh} {d d' : xD} {own : String} {n0 sa sv B0 : Nat}
theorem xr_runF {mc ms : Nat} {o : Option Value} {st0 : List Value} {a : Array Value} (S : xM p s m args meth c cc nL own D cid A b ex n0 sa sv B0) (G : xG D cid b A sh d s H locs)
    (hr : va_Run p l e R s m args below meth c H locs cells slots mc ms (F0 m pc ls st0) rest (xQ D cid b ex (va_A (xw cid b sh d) H.size) o sh' d' a) (va_A (xw cid b sh d) H.size))
    (kk : ∀ (H1 : Heap) (locs : List Loc), xG D cid b A sh' d' s H1 locs → (ex = true → H1.size = b + sh'.length) → H.size ≤ H1.size → (∀ q : Nat, q < H.size → ¬ va_A (xw cid b sh d) H.size q → H1[q]? = H[q]?) → W p l e R s m args below meth c H1 locs (cells + mc) (slots + ms) Q (F0 m (pc + 3) ls (o.toList ++ rest))) : W p l e R s m args below meth c H locs cells slots Q (F0 m pc ls st0) := by
  have hA := xA_sub S G
  intro T hT X
  obtain ⟨v, st₀, t, T', L, h0, X', hL, e1, e2, ⟨hv, ⟨hP, hD, hex, hK⟩, hz, hk⟩, st⟩ := hr T hT X
  cases hv
  rw [h0] at hz hk
  obtain ⟨t2, a1, b1⟩ := kk T'.heap (locs ++ L) ⟨by rw [e1]; exact hP, ⟨hD.1, fun k q hq => hA _ (hD.2 k q hq)⟩, Nat.le_trans G.2.2.1 (by rw [e1]; exact hz), fun q h1 h2 => by rw [e1, hk q (Nat.lt_of_lt_of_le h1 G.2.2.1) (fun z => h2 (hA q z))]; exact G.2.2.2.1 q h1 h2, fun q hq => by
      rcases List.mem_append.mp hq with h | h
      · exact G.2.2.2.2 q h
      · exact hA _ (hL q h)⟩ (fun he => by rw [e1]; exact hex he) (by rw [e1]; exact hz) (fun q h1 h2 => by rw [e1]; exact hk q h1 h2) T' rfl X'
  exact ⟨t2, st t2 a1, b1⟩
/-- what a callee finds, where the size is known otherwise -/
theorem xr_preE (S : xM p s m args meth c cc nL own D cid A b ex n0 sa sv B0) (G : xG D cid b A sh d s H locs) (hE : ex = true → H.size = b + sh.length) (av : List Value) (U : State) (hU : U.heap = H) (hW : s.WarmedH U.vm) : xPc D cid b ex sa sv B0 H.size sh d av av.toArray U := by
  have h9 := S.2.2.2.2.2.2.2.2.1
  have hB := S.2.2.2.2.2.2.2.2.2.1
  have hk : ∀ a : Nat, a < s.heap.size → ¬ B0 ≤ a → H[a]? = s.heap[a]? := fun a ha hna => G.2.2.2.1 a ha (fun hA => hna (hB a hA))
  refine ⟨rfl, by rw [hU], ⟨by rw [hU]; exact G.1, ⟨G.2.1.1, fun _ _ _ => trivial⟩, fun he => by rw [hU]; exact hE he, va_K.moved hW.alike S.2.2.2.2.2.1⟩, ⟨vk_R.warm hW h9.1, vk_R.warm hW h9.2.1, ?_, ?_, ?_, xnest_warm hW h9.2.2.2.2.2.1, ?_⟩, S.2.2.2.2.2.2.2.2.2.2.1⟩
  · rw [hU]; exact (vk_S.moved hW.alike h9.2.2.1).kept hk
  · rw [hU]; exact (va_Z.moved hW.alike h9.2.2.2.1).kept hk
  · rw [hU]; exact (va_Zq.moved hW.alike h9.2.2.2.2.1).kept hk
  · rw [hU]; exact Nat.le_trans h9.2.2.2.2.2.2 G.2.2.1
theorem xr_callVF {y : MethodName} {bytes : ByteArray} {maxL dp mc ms index ci q n : Nat} {ret : Option FieldType} {o : Option Value} {st0 As st1 : List Value} (S : xM p s m args meth c cc nL own D cid A b ex n0 sa sv B0) (G : xG D cid b A sh d s H locs) (hl : ls.size = nL) (hE : ex = true → H.size = b + sh.length)
    (hM : xMet l y bytes maxL ret dp mc ms D cid b ex sa sv B0 (.ref (b + q) :: As) sh d o sh' d') (hq : sh[q]? = some (.inl ci)) (hci : ci < 11)
    (h1 : Cond.methodLink own index y ∈ xTB) (h2 : Cond.instanceMethod y ∈ xTB) (h3 : Cond.selects (xCn ci) y y ∈ xTB) (h4 : Cond.initialized (xCn ci) ∈ xTB) (h5 : Cond.code y bytes maxL ret ∈ xTB)
    (hd : y.cls = xCn ci ∧ y.cls ≠ "java/lang/invoke/MethodHandle" ∧ y.cls ≠ "java/lang/invoke/VarHandle" ∧ (parseMethodDescriptor y.desc).map (fun d => d.parameters.length) = some n) (hR : dp + 1 ≤ R.frames ∧ 8 + (maxL + 11) + 40 * dp ≤ R.locals) (hAs : As.length = n) (hst1 : o.toList ++ rest = st1) (hst : st0 = As.reverse ++ .ref (b + q) :: rest) (hW : (rest.map fun v => v.category).sum ≤ 8) (hf : cells + mc ≤ R.cells ∧ slots + ms ≤ R.slots) (hdg : decode cc pc = .ok (.invokevirtual index, 3))
    (kk : ∀ (H1 : Heap) (locs : List Loc), xG D cid b A sh' d' s H1 locs → (ex = true → H1.size = b + sh'.length) → H.size ≤ H1.size → (∀ q : Nat, q < H.size → ¬ va_A (xw cid b sh d) H.size q → H1[q]? = H[q]?) → W p l e R s m args below meth c H1 locs (cells + mc) (slots + ms) Q (F0 m (pc + 3) ls st1)) : W p l e R s m args below meth c H locs cells slots Q (F0 m pc ls st0) := by
  subst hst1
  have hr := va_recv S.2.2.2.2.2.1 G.1 (x_cl hci) (xw_ob (cid := cid) (b := b) (d := d) hq)
  exact xr_runF S G (va_runV (Ts := xTB) (C := xCn ci) ⟨S.1, S.2.1, S.2.2.1, S.2.2.2.1, S.2.2.2.2.1⟩ (hM H.size) (cwV n S.2.2.2.2.1 (x_goodV (x_goodC h5) h1 h2 h3 h4) rfl rfl rfl hd hR) ⟨xPc_blind, hr, fun U hU hW => xr_preE S G hE _ U hU hW⟩ rfl hAs hl hst (by show 2 * 0 + _ ≤ 8; omega) hdg hf) kk
theorem xr_callIF {y : MethodName} {bytes : ByteArray} {maxL dp mc ms index q n : Nat} {st0 As st1 : List Value} (S : xM p s m args meth c cc nL own D cid A b ex n0 sa sv B0) (G : xG D cid b A sh d s H locs) (hl : ls.size = nL) (hE : ex = true → H.size = b + sh.length)
    (hM : xMet l y bytes maxL none dp mc ms D cid b ex sa sv B0 (.ref (b + q) :: As) sh d none sh' d')
    (h1 : Cond.methodLink own index y ∈ xTB) (h2 : Cond.instanceMethod y ∈ xTB) (h4 : Cond.initialized y.cls ∈ xTB) (h5 : Cond.code y bytes maxL none ∈ xTB) (hy : y.name = "<init>")
    (hd : y.cls ≠ "java/lang/invoke/MethodHandle" ∧ y.cls ≠ "java/lang/invoke/VarHandle" ∧ (parseMethodDescriptor y.desc).map (fun d => d.parameters.length) = some n) (hR : dp + 1 ≤ R.frames ∧ 8 + (maxL + 11) + 40 * dp ≤ R.locals) (hAs : As.length = n) (hst1 : rest = st1) (hst : st0 = As.reverse ++ .ref (b + q) :: rest) (hW : (rest.map fun v => v.category).sum ≤ 8) (hf : cells + mc ≤ R.cells ∧ slots + ms ≤ R.slots) (hdg : decode cc pc = .ok (.invokespecial index, 3))
    (kk : ∀ (H1 : Heap) (locs : List Loc), xG D cid b A sh' d' s H1 locs → (ex = true → H1.size = b + sh'.length) → H.size ≤ H1.size → (∀ q : Nat, q < H.size → ¬ va_A (xw cid b sh d) H.size q → H1[q]? = H[q]?) → W p l e R s m args below meth c H1 locs (cells + mc) (slots + ms) Q (F0 m (pc + 3) ls st1)) : W p l e R s m args below meth c H locs cells slots Q (F0 m pc ls st0) := by
  subst hst1
  exact xr_runF S G (va_runI (Ts := xTB) ⟨S.1, S.2.1, S.2.2.1, S.2.2.2.1, S.2.2.2.2.1⟩ (hM H.size) (cwI n S.2.2.2.2.1 (x_goodC h5) rfl rfl rfl (S.2.2.2.2.1 _ h4) (S.2.2.2.2.1 _ h1) (S.2.2.2.2.1 _ h2) hy hd hR) ⟨xPc_blind, fun U hU hW => xr_preE S G hE _ U hU hW⟩ rfl hAs hl hst (by show 2 * 0 + _ ≤ 8; omega) hdg hf) kk
/-- the first cell of a pure heap of its own, at the heap's end -/
theorem xr_new0 {ci index : Nat} (S : xM p s m args meth c cc nL own D cid A b ex n0 sa sv B0) (hS : va_S A s.heap H locs) (hE : H.size = b) (hAb : ∀ q, b ≤ q → A q) (hci : ci < 11)
    (h1 : Cond.classLink own index (xCn ci) ∈ xTB) (h2 : Cond.instantiable (xCn ci) (xN ci) ∈ xTB) (h3 : Cond.initialized (xCn ci) ∈ xTB) (hc : cells + 1 ≤ R.cells) (hsl : slots + xN ci ≤ R.slots) (hdg : decode cc pc = .ok (.new index, 3))
    (kk : ∀ (H1 : Heap), xG D cid b A [.inl ci] xZD s H1 locs → H1.size = b + 1 → (∀ q : Nat, q < H.size → H1[q]? = H[q]?) → W p l e R s m args below meth c H1 locs (cells + 1) (slots + xN ci) Q (F0 m (pc + 3) ls (.ref (b + 0) :: rest))) : W p l e R s m args below meth c H locs cells slots Q (F0 m pc ls rest) := by
  have hKn := S.2.2.2.2.2.1.1 ci _ (x_cl hci)
  refine W.newcK (n := xN ci) S.1 S.2.1 S.2.2.2.1 (S.2.2.2.2.1 _ h1) (S.2.2.2.2.1 _ h2) (S.2.2.2.2.1 _ h3) rfl hdg hc hsl hKn.2.1 hE fun H1 kC hkC e1 z1 o1 => ?_
  refine kk H1 ⟨?_, xw_D hAb, Nat.le_trans hS.1 (by omega), fun x g1 g2 => (o1 x (by have := hS.1; omega)).trans (hS.2.1 x g1 g2), hS.2.2⟩ z1 (fun q hq => o1 q (by omega))
  intro k x hx
  have hz : k < 1 := by have := (List.getElem?_eq_some_iff.mp hx).1; rw [xw_len] at this; exact this
  rw [show k = 0 by omega] at hx
  rw [xw_ob (ci := ci) rfl] at hx
  cases hx
  refine ⟨_, x_cl hci, (u_born (xTy ci) S.2.2.2.2.1 (x_in hci) hKn hkC e1 (x_ty hci)).to (fun j hj => ?_)⟩
  have hv : vp_V (xfs b xZD 0 ci) j = xval b (xTy ci j) 0 0 none := by
    simp only [vp_V, List.getD_eq_getElem?_getD, xfs_get hj, Option.getD_some, xZD]
  rw [hv]
  have hkd := x_kinds ci hci j hj
  generalize xTy ci j = ty at hkd
  cases ty <;> first | rfl | (simp [xisI, xisR] at hkd)
end XLW

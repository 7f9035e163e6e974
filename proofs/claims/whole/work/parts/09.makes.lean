/-! MAKINGS: new objects and arrays behind the pure heap's last cell (ex = true), constructors' calls -/
theorem x_kinds : ∀ ci, ci < 11 → ∀ k, k < xN ci → (xisI (xTy ci k) || decide (xTy ci k = .long) || xisR (xTy ci k)) = true := by decide +kernel
theorem xnw_off {d : xD} {q j : Nat} (h : j ≠ q) : (xnw d q).1 j = d.1 j ∧ (xnw d q).2.1 j = d.2.1 j ∧ (xnw d q).2.2 j = d.2.2 j := by simp [xnw, xur, h]
theorem xnw_at {d : xD} {q : Nat} : (xnw d q).1 q = (fun _ => 0) ∧ (xnw d q).2.1 q = (fun _ => 0) ∧ (xnw d q).2.2 q = (fun _ => none) := by simp [xnw, xur]
theorem xw_push {cid : FieldType → ClassId} {b : Nat} {sh : List xSh} {d : xD} {e : xSh} : xw cid b (sh ++ [e]) (xnw d sh.length) = xw cid b sh d ++ [(b + sh.length, xe cid b (sh ++ [e]) (xnw d sh.length) sh.length)] := by
  apply List.ext_getElem?
  intro j
  rcases Nat.lt_trichotomy j sh.length with hj | hj | hj
  · rw [xw_get _ _ _ _ (by simp; omega), List.getElem?_append_left (by rw [xw_len]; exact hj), xw_get _ _ _ _ hj]
    obtain ⟨h1, h2, h3⟩ := xnw_off (d := d) (q := sh.length) (j := j) (by omega)
    simp only [xe, xar, xfs, h1, h2, h3, List.getElem?_append_left hj]
  · subst hj
    rw [xw_get _ _ _ _ (by simp), List.getElem?_append_right (by rw [xw_len]; exact Nat.le_refl _)]
    simp [xw_len]
  · rw [List.getElem?_eq_none (by rw [xw_len]; simp; omega), List.getElem?_eq_none (by rw [List.length_append, xw_len]; simp; omega)]
theorem x_pos0 {sh L : List xSh} (h : 0 < sh.length) : 0 < (sh ++ L).length := by rw [List.length_append]; omega
section XMK
variable {p : Program} {l : Launch} {e : Env} {R : Room} {s : State} {m : MethodId} {args : Array Value} {below : List Frame} {meth : Method} {c : Code} {H : Heap} {locs : List Loc} {cells slots : Nat} {Q : State → Prop}
variable {cc : ByteArray} {pc nL : Nat} {ls : Array Slot} {rest : List Value} {D : va_G} {cid : FieldType → ClassId} {b : Nat} {A : Nat → Prop} {sh sh' : List xSh} {d d' : xD} {own : String} {n0 sa sv B0 : Nat}
theorem x_end (S : xM p s m args meth c cc nL own D cid A b true n0 sa sv B0) (G : xG D cid b A sh d s H locs) (hn : sh.length = n0 + cells) (hz : H.size ≤ s.heap.size + cells) (h0 : 0 < sh.length) : H.size = b + sh.length := by
  have h1 := S.2.2.2.2.2.2.2.2.2.2.2 rfl
  have h4 := G.size h0
  omega
theorem xr_new {ci index q : Nat} (S : xM p s m args meth c cc nL own D cid A b true n0 sa sv B0) (G : xG D cid b A sh d s H locs) (hn : sh.length = n0 + cells) (h0 : 0 < sh.length) (hci : ci < 11) (hq : sh.length = q) (hs : sh ++ [.inl ci] = sh')
    (h1 : Cond.classLink own index (xCn ci) ∈ xTB) (h2 : Cond.instantiable (xCn ci) (xN ci) ∈ xTB) (h3 : Cond.initialized (xCn ci) ∈ xTB) (hc : cells + 1 ≤ R.cells) (hsl : slots + xN ci ≤ R.slots) (hdg : decode cc pc = .ok (.new index, 3))
    (kk : ∀ (H : Heap), xG D cid b A sh' (xnw d q) s H locs → W p l e R s m args below meth c H locs (cells + 1) (slots + xN ci) Q (F0 m (pc + 3) ls (.ref (b + q) :: rest))) : W p l e R s m args below meth c H locs cells slots Q (F0 m pc ls rest) := by
  subst hq
  subst hs
  refine W.size fun hz => ?_
  have hE := x_end S G hn hz h0
  have hKn := S.2.2.2.2.2.1.1 ci _ (x_cl hci)
  refine W.newcK (n := xN ci) S.1 S.2.1 S.2.2.2.1 (S.2.2.2.2.1 _ h1) (S.2.2.2.2.1 _ h2) (S.2.2.2.2.1 _ h3) rfl hdg hc hsl hKn.2.1 hE fun H1 kC hkC e1 z1 o1 => ?_
  have hk : ∀ (k : Nat) (x : Nat × va_E), (xw cid b sh d)[k]? = some x → H1[x.1]? = H[x.1]? := fun k x hx => o1 x.1 (by have := (G.1 k x hx).lt; omega)
  refine kk H1 ⟨?_, ?_, Nat.le_trans G.2.2.1 (by omega), fun x g1 g2 => (o1 x (by have := G.2.2.1; omega)).trans (G.2.2.2.1 x g1 g2), G.2.2.2.2⟩
  · rw [xw_push]
    refine (G.1.kept hk).app (fun k x hx => ?_)
    have hz : k < 1 := (List.getElem?_eq_some_iff.mp hx).1
    rw [show k = 0 by omega] at hx
    cases hx
    have he : xe cid b (sh ++ [.inl ci]) (xnw d sh.length) sh.length = .inr (ci, xfs b (xnw d sh.length) sh.length ci) := by simp [xe]
    rw [he]
    refine ⟨_, x_cl hci, (u_born (xTy ci) S.2.2.2.2.1 (x_in hci) hKn hkC e1 (x_ty hci)).to (fun j hj => ?_)⟩
    have hv : vp_V (xfs b (xnw d sh.length) sh.length ci) j = xval b (xTy ci j) 0 0 none := by
      obtain ⟨a1, a2, a3⟩ := xnw_at (d := d) (q := sh.length)
      simp only [vp_V, List.getD_eq_getElem?_getD, xfs_get hj, a1, a2, a3, Option.getD_some]
    rw [hv]
    have hkd := x_kinds ci hci j hj
    generalize xTy ci j = ty at hkd
    cases ty <;> first | rfl | (simp [xisI, xisR] at hkd)
  · rw [xw_push]
    exact G.2.1.push G.1 hE.symm (S.2.2.2.2.2.2.1 _ (by have h9 := S.2.2.2.2.2.2.2.2.2.2.2 rfl; omega))
theorem xr_newa {atype : ArrayType} {ty : FieldType} {q N : Nat} {n : Int32} (t0 : Nat) (S : xM p s m args meth c cc nL own D cid A b true n0 sa sv B0) (G : xG D cid b A sh d s H locs) (hn : sh.length = n0 + cells) (h0 : 0 < sh.length) (hty : newarray.typeOf atype = ty) (ht0 : (xtys cid)[t0]? = some (cid ty, ty)) (hq : sh.length = q) (hs : sh ++ [.inr (ty, N)] = sh')
    (h1 : Cond.arrayClass ty ∈ xTB) (hn0 : ¬ n < 0) (hN : n.toNatClampNeg = N) (hby : N * componentBytes ty ≤ 536870912) (hc : cells + 1 ≤ R.cells) (hsl : slots + N ≤ R.slots) (hdg : decode cc pc = .ok (.newarray atype, 2))
    (kk : ∀ (H : Heap), xG D cid b A sh' (xnw d q) s H locs → W p l e R s m args below meth c H locs (cells + 1) (slots + N) Q (F0 m (pc + 2) ls (.ref (b + q) :: rest))) : W p l e R s m args below meth c H locs cells slots Q (F0 m pc ls (.int n :: rest)) := by
  subst hq
  subst hs
  subst hty
  refine W.size fun hz => ?_
  have hE := x_end S G hn hz h0
  refine va_newaK S.1 S.2.1 (S.2.2.2.2.1 _ h1) rfl hdg rfl hn0 hN hby hc hsl hE fun H1 cA e1 z1 o1 hAr hNm => ?_
  have hRA := (S.2.2.2.2.2.1.2 t0 _ ht0).2
  have hcA : cA = cid (newarray.typeOf atype) := by
    have h2 : s.vm.findClass ("[" ++ (newarray.typeOf atype).toString) = some (cid (newarray.typeOf atype)) := by
      cases atype <;> exact hRA
    exact Option.some.inj (hNm.symm.trans h2)
  subst hcA
  have hk : ∀ (k : Nat) (x : Nat × va_E), (xw cid b sh d)[k]? = some x → H1[x.1]? = H[x.1]? := fun k x hx => o1 x.1 (by have := (G.1 k x hx).lt; omega)
  refine kk H1 ⟨?_, ?_, Nat.le_trans G.2.2.1 (by omega), fun x g1 g2 => (o1 x (by have := G.2.2.1; omega)).trans (G.2.2.2.1 x g1 g2), G.2.2.2.2⟩
  · rw [xw_push]
    refine (G.1.kept hk).app (fun k x hx => ?_)
    have hz : k < 1 := (List.getElem?_eq_some_iff.mp hx).1
    rw [show k = 0 by omega] at hx
    cases hx
    obtain ⟨a1, a2, a3⟩ := xnw_at (d := d) (q := sh.length)
    have he : xe cid b (sh ++ [.inr (newarray.typeOf atype, N)]) (xnw d sh.length) sh.length = xar cid (xnw d sh.length) sh.length (newarray.typeOf atype) N := by simp [xe]
    rw [he]
    unfold xar
    rw [a1, a2]
    have ht1 : t0 = 0 ∨ t0 = 1 ∨ t0 = 2 ∨ t0 = 3 := by
      have := (List.getElem?_eq_some_iff.mp ht0).1
      simp at this
      omega
    rcases ht1 with rfl | rfl | rfl | rfl <;> (have ht2 := Option.some.inj ht0; have ht3 := congrArg Prod.snd ht2; dsimp only at ht3; rw [← ht3] at e1 ⊢; exact e1)
  · rw [xw_push]
    exact G.2.1.push G.1 hE.symm (S.2.2.2.2.2.2.1 _ (by have h9 := S.2.2.2.2.2.2.2.2.2.2.2 rfl; omega))
/-- a constructor's call -/
theorem xr_callI {ex : Bool} {y : MethodName} {bytes : ByteArray} {maxL dp mc ms index q n : Nat} {st0 As st1 : List Value} (S : xM p s m args meth c cc nL own D cid A b ex n0 sa sv B0) (G : xG D cid b A sh d s H locs) (hl : ls.size = nL) (hn : ex = true → sh.length = n0 + cells)
    (hM : xMet l y bytes maxL none dp mc ms D cid b ex sa sv B0 (.ref (b + q) :: As) sh d none sh' d')
    (h1 : Cond.methodLink own index y ∈ xTB) (h2 : Cond.instanceMethod y ∈ xTB) (h4 : Cond.initialized y.cls ∈ xTB) (h5 : Cond.code y bytes maxL none ∈ xTB) (hy : y.name = "<init>")
    (hd : y.cls ≠ "java/lang/invoke/MethodHandle" ∧ y.cls ≠ "java/lang/invoke/VarHandle" ∧ (parseMethodDescriptor y.desc).map (fun d => d.parameters.length) = some n) (hR : dp + 1 ≤ R.frames ∧ 8 + (maxL + 11) + 40 * dp ≤ R.locals) (hAs : As.length = n) (hst1 : rest = st1) (hst : st0 = As.reverse ++ .ref (b + q) :: rest) (hW : (rest.map fun v => v.category).sum ≤ 8) (hf : cells + mc ≤ R.cells ∧ slots + ms ≤ R.slots) (hdg : decode cc pc = .ok (.invokespecial index, 3))
    (kk : ∀ (H : Heap) (locs : List Loc), xG D cid b A sh' d' s H locs → W p l e R s m args below meth c H locs (cells + mc) (slots + ms) Q (F0 m (pc + 3) ls st1)) : W p l e R s m args below meth c H locs cells slots Q (F0 m pc ls st0) := by
  subst hst1
  refine W.size fun hz => ?_
  exact xr_run S G (va_runI (Ts := xTB) ⟨S.1, S.2.1, S.2.2.1, S.2.2.2.1, S.2.2.2.2.1⟩ (hM H.size) (cwI n S.2.2.2.2.1 (x_goodC h5) rfl rfl rfl (S.2.2.2.2.1 _ h4) (S.2.2.2.2.1 _ h1) (S.2.2.2.2.1 _ h2) hy hd hR) ⟨xPc_blind, fun U hU hW => xr_pre S G hn hz _ U hU hW⟩ rfl hAs hl hst (by show 2 * 0 + _ ≤ 8; omega) hdg hf) kk
/-- a nest mate's constructor's call -/
theorem xr_callIN {ex : Bool} {y : MethodName} {bytes : ByteArray} {maxL dp mc ms index q n : Nat} {host : String} {st0 As st1 : List Value} (S : xM p s m args meth c cc nL own D cid A b ex n0 sa sv B0) (G : xG D cid b A sh d s H locs) (hl : ls.size = nL) (hn : ex = true → sh.length = n0 + cells)
    (hM : xMet l y bytes maxL none dp mc ms D cid b ex sa sv B0 (.ref (b + q) :: As) sh d none sh' d')
    (h1 : va_Nw (.methodLinkNest own index y host) s) (h2 : Cond.instanceMethod y ∈ xTB) (h4 : Cond.initialized y.cls ∈ xTB) (h5 : Cond.code y bytes maxL none ∈ xTB) (hy : y.name = "<init>")
    (hd : y.cls ≠ "java/lang/invoke/MethodHandle" ∧ y.cls ≠ "java/lang/invoke/VarHandle" ∧ (parseMethodDescriptor y.desc).map (fun d => d.parameters.length) = some n) (hR : dp + 1 ≤ R.frames ∧ 8 + (maxL + 11) + 40 * dp ≤ R.locals) (hAs : As.length = n) (hst1 : rest = st1) (hst : st0 = As.reverse ++ .ref (b + q) :: rest) (hW : (rest.map fun v => v.category).sum ≤ 8) (hf : cells + mc ≤ R.cells ∧ slots + ms ≤ R.slots) (hdg : decode cc pc = .ok (.invokespecial index, 3))
    (kk : ∀ (H : Heap) (locs : List Loc), xG D cid b A sh' d' s H locs → W p l e R s m args below meth c H locs (cells + mc) (slots + ms) Q (F0 m (pc + 3) ls st1)) : W p l e R s m args below meth c H locs cells slots Q (F0 m pc ls st0) := by
  subst hst1
  refine W.size fun hz => ?_
  exact xr_run S G (va_runIN (Ts := xTB) ⟨S.1, S.2.1, S.2.2.1, S.2.2.2.1, S.2.2.2.2.1⟩ (hM H.size) ⟨va_cnB n S.2.2.2.2.1 (x_goodC h5) rfl rfl rfl h1 (S.2.2.2.2.1 _ h4) hd hR, hy, S.2.2.2.2.1 _ h2⟩ ⟨xPc_blind, fun U hU hW => xr_pre S G hn hz _ U hU hW⟩ rfl hAs hl hst (by show 2 * 0 + _ ≤ 8; omega) hdg hf) kk
end XMK
section XNE
variable {p : Program} {s : State} {m : MethodId} {args : Array Value} {meth : Method} {c : Code} {cc : ByteArray} {nL : Nat} {D : va_G} {cid : FieldType → ClassId} {b : Nat} {ex : Bool} {A : Nat → Prop} {own : String} {n0 sa sv B0 : Nat}
theorem xS_nest41 (S : xM p s m args meth c cc nL own D cid A b ex n0 sa sv B0) : va_Nw (Cond.methodLinkNest "HalfLandings$Plan" 72 ⟨"HalfLandings$Laws", "<init>", "()V"⟩ "HalfLandings") s := S.2.2.2.2.2.2.2.2.1.2.2.2.2.2.1.1
theorem xS_nest309 (S : xM p s m args meth c cc nL own D cid A b ex n0 sa sv B0) : va_Nw (Cond.methodLinkNest "HalfLandings" 55 ⟨"HalfLandings$Scene", "<init>", "()V"⟩ "HalfLandings") s := S.2.2.2.2.2.2.2.2.1.2.2.2.2.2.1.2.1
theorem xS_nest420 (S : xM p s m args meth c cc nL own D cid A b ex n0 sa sv B0) : va_Nw (Cond.methodLinkNest "HalfLandings" 81 ⟨"HalfLandings$Undone", "<init>", "()V"⟩ "HalfLandings") s := S.2.2.2.2.2.2.2.2.1.2.2.2.2.2.1.2.2.1
theorem xS_nest437 (S : xM p s m args meth c cc nL own D cid A b ex n0 sa sv B0) : va_Nw (Cond.methodLinkNest "HalfLandings" 88 ⟨"HalfLandings$Seen", "<init>", "()V"⟩ "HalfLandings") s := S.2.2.2.2.2.2.2.2.1.2.2.2.2.2.1.2.2.2
end XNE

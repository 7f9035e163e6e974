/-! THE LAW'S OWN walker -/
theorem xE_warm2 {B0 : Nat} {s U : State} (h : xE B0 s) (hW : s.WarmedH U.vm) (hq : U.heap = s.heap) : xE B0 U := by
  obtain ⟨h1, ⟨x, h2⟩, ⟨y, h3⟩, h4, h5, h6⟩ := h
  exact ⟨fun w hw => xcd_warm (xCDs_is hw) hW (h1 w hw), ⟨x, vk_R.warm hW h2⟩, ⟨y, vk_R.warm hW h3⟩, vx_Zq.moved hW.alike (by rw [hq]; exact h4), vx_Zq.moved hW.alike (by rw [hq]; exact h5), va_Nc.moved hW.alike h6⟩
section XLW
variable {p : Program} {l : Launch} {e : Env} {R : Room} {s : State} {m : MethodId} {args : Array Value} {below : List Frame} {meth : Method} {c : Code} {H : Heap} {locs : List Loc} {cells slots : Nat} {Q : State → Prop}
variable {cc : ByteArray} {pc nL : Nat} {ls : Array Slot} {rest : List Value} {D : va_G} {cid : FieldType → ClassId} {b : Nat} {A : Nat → Prop} {sh sh' : List xSh} {d d' : xD} {own : String} {n0 sa sv B0 : Nat}
theorem xr_runX {mc ms : Nat} {cls : String} {Qa : State → Outcome → State → Prop} {st0 : List Value} (S : xM p s m args meth c cc nL own D cid A b false n0 sa sv B0) (G : xG D cid b A sh d s H locs)
    (hr : vx_Run p l e R s m args below meth c H locs cells slots mc ms (F0 m pc ls st0) rest Qa (xXC D cid b cls sh' d' (va_A (xw cid b sh d) H.size)) (va_A (xw cid b sh d) H.size)) (hno : ∀ st v t, ¬ Qa st (.returned v) t)
    (kk : ∀ (q : Addr) (ce : Cell) (H : Heap) (locs : List Loc), xG D cid b A sh' d' s H locs → H[q]? = some ce → ce.vm = .none → s.vm.findClass cls = some ce.cls → vx_W p l e R s m args below meth c H locs (cells + mc) (slots + ms) Q (F0 m pc ls rest) q) : W p l e R s m args below meth c H locs cells slots Q (F0 m pc ls st0) := by
  have hA := xA_sub S G
  intro T hT X
  rcases hr T hT X with ⟨v, st₀, t, T', L, h0, X', hL, e1, e2, hq, st⟩ | ⟨q, st₀, t, T', L, E, ce, h0, X', hL, e1, e2, ⟨u, -, ⟨hcE, hP, hD, hex, hK⟩, hz, hk⟩, hce, hcv, hcl, st⟩
  · exact absurd hq (hno _ _ _)
  · subst hcE
    rw [h0] at hz hk
    obtain ⟨t2, a1, b1⟩ := kk q ce T'.heap (locs ++ L) ⟨by rw [e1]; exact hP, ⟨hD.1, fun k q hq => hA _ (hD.2 k q hq)⟩, Nat.le_trans G.2.2.1 (by rw [e1]; exact hz), fun q h1 h2 => by rw [e1, hk q (Nat.lt_of_lt_of_le h1 G.2.2.1) (fun z => h2 (hA q z))]; exact G.2.2.2.1 q h1 h2, fun q hq => by
      rcases List.mem_append.mp hq with h | h
      · exact G.2.2.2.2 q h
      · exact hA _ (hL q h)⟩ (by rw [e1]; exact hce) hcv hcl T' rfl X'
    exact ⟨t2, st.trans a1, b1⟩
theorem xr_callX {cls : String} {q0 : Nat} {x1 x2 : Int32} {st0 : List Value} (S : xM p s m args meth c cc nL RL D cid A b false n0 sa sv B0) (G : xG D cid b A sh d s s.heap []) (hl : ls.size = nL) (hE : xE B0 s) (hq : sh[q0]? = some (.inl 9))
    (hM : ∀ sz : Nat, vx_Met l yX9_walker (xws yX9_walker cX9_walker 3 (some .int)) (xRm 6 1 6) (xPcX (xE B0) D cid b sa sv B0 sz sh d [.ref (b + q0), .int x1, .int x2]) (fun _ _ _ _ => False) (xXC D cid b cls sh d' (va_A (xw cid b sh d) sz)) 1 6 (va_A (xw cid b sh d) sz))
    (hR : 7 ≤ R.frames ∧ 262 ≤ R.locals) (hst : st0 = [Value.int x1, .int x2].reverse ++ .ref (b + q0) :: rest) (hW : (rest.map fun v => v.category).sum ≤ 8) (hf : 0 + 1 ≤ R.cells ∧ 0 + 6 ≤ R.slots) (hdg : decode cc pc = .ok (.invokevirtual 7, 3))
    (kk : ∀ (q : Addr) (ce : Cell) (H : Heap) (locs : List Loc), xG D cid b A sh d' s H locs → H[q]? = some ce → ce.vm = .none → s.vm.findClass cls = some ce.cls → vx_W p l e R s m args below meth c H locs (0 + 1) (0 + 6) Q (F0 m pc ls rest) q) : W p l e R s m args below meth c s.heap [] 0 0 Q (F0 m pc ls st0) := by
  have hrv := va_recv S.2.2.2.2.2.1 G.1 (x_cl (show 9 < 11 by decide)) (xw_ob (cid := cid) (b := b) (d := d) hq)
  refine xr_runX S G (vx_runV (Ts := xTB) (C := xCn 9) ⟨S.1, S.2.1, S.2.2.1, S.2.2.2.1, S.2.2.2.2.1⟩ (hM s.heap.size) (cwV 2 S.2.2.2.2.1 (x_goodV (x_goodC kw_1071) kw_1068 kw_1069 kw_1070 kw_1) rfl rfl rfl hd_X9_walker ⟨hR.1, by have := hR.2; show 8 + (3 + 11) + 240 ≤ _; omega⟩) ⟨?_, hrv, ?_⟩ rfl rfl hl hst (by show 2 * 0 + _ ≤ 8; omega) hdg hf) (fun _ _ _ h => h) kk
  · intro a U g mk q
    obtain ⟨q0, q1, ⟨qP, qD, qe, qK⟩, qS, qb, qE⟩ := q
    exact ⟨q0, q1, ⟨qP, qD, qe, va_K.moved (u := U) (U := U.calling g mk a) (Vm.Alike.refl U.vm) qK⟩, xstr_blind g mk a qS, qb, xE_blind U g mk a qE⟩
  · intro U hU hW
    obtain ⟨q0, q1, q2, q3, q4⟩ := xr_preE S G (fun h => by cases h) [.ref (b + q0), .int x1, .int x2] U hU hW
    exact ⟨q0, q1, q2, q3, q4, xE_warm2 hE hW hU⟩
end XLW
theorem xMw.of {l : Launch} {E : State → Prop} {D : va_G} {cid : FieldType → ClassId} {b : Nat} {sa sv B0 : Nat} {av : List Value} {sh : List xSh} {d d' : xD} {o : Option Value} (hn : (lg_sl av).length ≤ 5)
    (body : ∀ (p : Program) (e : Env) (s : State) (m : MethodId) (below : List Frame) (meth : Method) (c : Code) (ls : Array Slot) (A : Nat → Prop), xM p s m av.toArray meth c cL_walker 5 RL D cid A b false sh.length sa sv B0 → E s → c.exceptionTable.toList = tableOf [(0, 10, 13, 13), (0, 10, 17, 15)] → meth.sig.returnType = some .int → xG D cid b A sh d s s.heap [] → lv_has ls 5 (lv_args 0 av) →
      W p l e (xRm 7 1 6) s m av.toArray below meth c s.heap [] 0 0 (MQ below (xQ D cid b false A o sh d') av.toArray s 1 6 A) (F0 m 0 ls [])) : xMetW E l D cid b sa sv B0 av sh d o d' := by
  intro sz
  refine MetFree.of_bodyS (code := cL_walker) (maxLocals := 5) (ret := some .int) (by decide) ?_ ?_
  · intro args s m h hn
    obtain ⟨m9, meth, c, hn9, h1, h2, h3, h4, -, h5, h6, -⟩ := Cond.codeWith_spec (atoms_spec (ws := xwsW) h _ List.mem_cons_self)
    cases hn.symm.trans hn9
    exact ⟨meth, c, h1, h2, h3, h4, h5, h6⟩
  · intro p e s m args below meth c s₁ B hml hv _
    have hh0 : s₁.heap = s.heap := by rw [B.state]; rfl
    obtain ⟨rfl, hsz, ⟨hP, hD0, hex, hK⟩, hstr, hB0, hE⟩ := hv
    subst hsz
    have hts := atoms_spec (ws := xwsW) B.pre
    have hD : va_D (va_A (xw cid b sh d) s.heap.size) (xw cid b sh d) := hD0.self (sz := s.heap.size)
    have hl := lv_entry av (n := 5) hn
    have tb := vx_table (x := yL_walker) B (hts _ List.mem_cons_self)
    have key : W p l e (xRm 7 1 6) s m av.toArray below meth c s.heap [] 0 0 (MQ below (xQ D cid b false (va_A (xw cid b sh d) s.heap.size) o sh d') av.toArray s 1 6 (va_A (xw cid b sh d) s.heap.size)) (entryFrame m av.toArray 5) := by
      rw [lg_entry_eq]
      refine body p e s m below meth c _ (va_A (xw cid b sh d) s.heap.size) ⟨B.exec, B.bytes, hml, findClass_of_methodNamed B.named, fun w hw => hts w (List.mem_cons_of_mem _ hw), hK, fun q hq => Or.inr hq, B.notSynchronized, hstr, fun q hq => ?_, hB0, fun z => nomatch z⟩ hE tb B.returns ⟨hP, hD, va_S.rf⟩ hl
      rcases hq with ⟨k, e, hk⟩ | hq
      · have hk2 := List.mem_of_getElem? hk
        unfold xw at hk2
        obtain ⟨j, -, hj⟩ := List.mem_map.mp hk2
        have : b + j = q := congrArg Prod.fst hj
        omega
      · exact Nat.le_trans hstr.2.2.2.2.2.2 hq
    obtain ⟨t, a1, o, b1, b2, b3⟩ := key s₁ hh0 (Stand.of_body B)
    exact ⟨t, o, a1, b1, b2, b3⟩

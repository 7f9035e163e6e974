/-! A CONTRACT FOR WHAT THROWS -/
theorem xMx.of {l : Launch} {y : MethodName} {bytes : ByteArray} {maxL : Nat} {ret : Option FieldType} {dp mc ms : Nat} {D : va_G} {cid : FieldType → ClassId} {b : Nat} {sa sv B0 : Nat} {av : List Value} {sh : List xSh} {d : xD} {E : State → Prop} {Qc : (Nat → Prop) → Array Value → State → Outcome → State → Prop} {XC : (Nat → Prop) → String → State → State → Prop}
    (hpl : plainName y.cls = true) (hn : (lg_sl av).length ≤ maxL)
    (body : ∀ (p : Program) (e : Env) (s : State) (m : MethodId) (below : List Frame) (meth : Method) (c : Code) (ls : Array Slot) (A : Nat → Prop), xM p s m av.toArray meth c bytes maxL y.cls D cid A b false sh.length sa sv B0 → E s → (∀ x ∈ c.exceptionTable.toList, False) → xG D cid b A sh d s s.heap [] → lv_has ls maxL (lv_args 0 av) →
      W p l e (xRm dp mc ms) s m av.toArray below meth c s.heap [] 0 0 (vx_MQ below (Qc A) (XC A) av.toArray s mc ms A) (F0 m 0 ls [])) : ∀ sz : Nat, vx_Met l y (xws y bytes maxL ret) (xRm dp mc ms) (xPcX E D cid b sa sv B0 sz sh d av) (Qc (va_A (xw cid b sh d) sz)) (XC (va_A (xw cid b sh d) sz)) mc ms (va_A (xw cid b sh d) sz) := by
  intro sz
  refine vx_ofW (cc := bytes) (maxL := maxL) (ret := ret) hpl rfl ?_
  intro p e s m args below meth c s₁ B hml htab hv
  obtain ⟨rfl, hsz, ⟨hP, hD0, hex, hK⟩, hstr, hB0, hE⟩ := hv
  subst hsz
  have hts := atoms_spec (ws := xws y bytes maxL ret) B.pre
  have hD : va_D (va_A (xw cid b sh d) s.heap.size) (xw cid b sh d) := hD0.self (sz := s.heap.size)
  have hl := lv_entry av (n := maxL) hn
  rw [lg_entry_eq]
  refine body p e s m below meth c _ (va_A (xw cid b sh d) s.heap.size) ⟨B.exec, B.bytes, hml, findClass_of_methodNamed B.named, fun w hw => hts w (List.mem_cons_of_mem _ hw), hK, fun q hq => Or.inr hq, B.notSynchronized, hstr, fun q hq => ?_, hB0, fun z => nomatch z⟩ hE htab ⟨hP, hD, va_S.rf⟩ hl
  rcases hq with ⟨k, e, hk⟩ | hq
  · have hk2 := List.mem_of_getElem? hk
    unfold xw at hk2
    obtain ⟨j, -, hj⟩ := List.mem_map.mp hk2
    have : b + j = q := congrArg Prod.fst hj
    omega
  · exact Nat.le_trans hstr.2.2.2.2.2.2 hq

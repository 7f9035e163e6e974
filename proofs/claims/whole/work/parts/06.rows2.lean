section XR2
variable {p : Program} {l : Launch} {e : Env} {R : Room} {s : State} {m : MethodId} {args : Array Value} {below : List Frame} {meth : Method} {c : Code} {H : Heap} {locs : List Loc} {cells slots : Nat} {Q : State → Prop}
variable {cc : ByteArray} {pc nL : Nat} {ls : Array Slot} {rest : List Value} {D : va_G} {cid : FieldType → ClassId} {b : Nat} {ex : Bool} {A : Nat → Prop} {sh sh' : List xSh} {d d' : xD} {own : String} {n0 sa sv B0 : Nat}
-- arrays
theorem xaI_of {ty : FieldType} {q : Nat} {i v : Int32} (h : xaI ty sh d q i = some v) : ∃ n, sh[q]? = some (.inr (ty, n)) ∧ vp_in i n ∧ d.1 q i.toNatClampNeg = v := by
  obtain ⟨n, h1, h2⟩ := x_ob h
  split at h2
  · cases h2
  · rename_i hc
    exact ⟨n, xlen_of h1, hc, Option.some.inj h2⟩
theorem xaL_of {q : Nat} {i : Int32} {v : Int64} (h : xaL sh d q i = some v) : ∃ n, sh[q]? = some (.inr (.long, n)) ∧ vp_in i n ∧ d.2.1 q i.toNatClampNeg = v := by
  obtain ⟨n, h1, h2⟩ := x_ob h
  split at h2
  · cases h2
  · rename_i hc
    exact ⟨n, xlen_of h1, hc, Option.some.inj h2⟩
theorem xsI_of {ty : FieldType} {q : Nat} {i v : Int32} (h : xsI ty sh d q i v = some d') : ∃ n, sh[q]? = some (.inr (ty, n)) ∧ vp_in i n ∧ (xu d.1 q i.toNatClampNeg (vp_nar ty v), d.2.1, d.2.2) = d' := by
  obtain ⟨n, h1, h2⟩ := x_ob h
  split at h2
  · cases h2
  · rename_i hc
    exact ⟨n, xlen_of h1, hc, Option.some.inj h2⟩
theorem xsL_of {q : Nat} {i : Int32} {v : Int64} (h : xsL sh d q i v = some d') : ∃ n, sh[q]? = some (.inr (.long, n)) ∧ vp_in i n ∧ (d.1, xu d.2.1 q i.toNatClampNeg v, d.2.2) = d' := by
  obtain ⟨n, h1, h2⟩ := x_ob h
  split at h2
  · cases h2
  · rename_i hc
    exact ⟨n, xlen_of h1, hc, Option.some.inj h2⟩
theorem xr_iald {q : Nat} {i v : Int32} (S : xM p s m args meth c cc nL own D cid A b ex n0 sa sv B0) (G : xG D cid b A sh d s H locs) (hv : xaI .int sh d q i = some v) (hdg : decode cc pc = .ok (.iaload, 1))
    (kk : W p l e R s m args below meth c H locs cells slots Q (F0 m (pc + 1) ls (.int v :: rest))) : W p l e R s m args below meth c H locs cells slots Q (F0 m pc ls (.int i :: .ref (b + q) :: rest)) := by
  obtain ⟨n, h1, h2, rfl⟩ := xaI_of hv
  exact va_iald S.1 S.2.1 S.2.2.2.2.2.1 G.1 q 0 (xw_ar h1 (by decide)) rfl h2 hdg kk
theorem xr_bald {q : Nat} {i v : Int32} (S : xM p s m args meth c cc nL own D cid A b ex n0 sa sv B0) (G : xG D cid b A sh d s H locs) (hv : xaI .byte sh d q i = some v) (hdg : decode cc pc = .ok (.baload, 1))
    (kk : W p l e R s m args below meth c H locs cells slots Q (F0 m (pc + 1) ls (.int v :: rest))) : W p l e R s m args below meth c H locs cells slots Q (F0 m pc ls (.int i :: .ref (b + q) :: rest)) := by
  obtain ⟨n, h1, h2, rfl⟩ := xaI_of hv
  exact va_bald S.1 S.2.1 S.2.2.2.2.2.1 G.1 q 1 (xw_ar h1 (by decide)) rfl h2 hdg kk
theorem xr_zald {q : Nat} {i v : Int32} (S : xM p s m args meth c cc nL own D cid A b ex n0 sa sv B0) (G : xG D cid b A sh d s H locs) (hv : xaI .boolean sh d q i = some v) (hdg : decode cc pc = .ok (.baload, 1))
    (kk : W p l e R s m args below meth c H locs cells slots Q (F0 m (pc + 1) ls (.int v :: rest))) : W p l e R s m args below meth c H locs cells slots Q (F0 m pc ls (.int i :: .ref (b + q) :: rest)) := by
  obtain ⟨n, h1, h2, rfl⟩ := xaI_of hv
  exact va_zald S.1 S.2.1 S.2.2.2.2.2.1 G.1 q 2 (xw_ar h1 (by decide)) rfl h2 hdg kk
theorem xr_lald {q : Nat} {i : Int32} {v : Int64} (S : xM p s m args meth c cc nL own D cid A b ex n0 sa sv B0) (G : xG D cid b A sh d s H locs) (hv : xaL sh d q i = some v) (hdg : decode cc pc = .ok (.laload, 1))
    (kk : W p l e R s m args below meth c H locs cells slots Q (F0 m (pc + 1) ls (.long v :: rest))) : W p l e R s m args below meth c H locs cells slots Q (F0 m pc ls (.int i :: .ref (b + q) :: rest)) := by
  obtain ⟨n, h1, h2, rfl⟩ := xaL_of hv
  exact va_lald S.1 S.2.1 S.2.2.2.2.2.1 G.1 q 3 (xw_al h1) rfl h2 hdg kk
theorem xw_st {cid : FieldType → ClassId} {b : Nat} {sh : List xSh} {d : xD} {q n k : Nat} {ty : FieldType} {v : Int32} (hq : sh[q]? = some (.inr (ty, n))) (ht : ty ≠ .long) : (xw cid b sh d).set q (b + q, .inl (cid ty, n, .inl (upd (d.1 q) k v))) = xw cid b sh (xu d.1 q k v, d.2.1, d.2.2) := by
  refine xw_set (x_lt hq) ?_ (fun j hj => ?_)
  · simp only [xe, hq, xar, ht, if_false, xu_row]
    rfl
  · simp only [xe, xar, xfs, xu_off hj]
theorem xw_stl {cid : FieldType → ClassId} {b : Nat} {sh : List xSh} {d : xD} {q n k : Nat} {v : Int64} (hq : sh[q]? = some (.inr (.long, n))) : (xw cid b sh d).set q (b + q, .inl (cid .long, n, .inr (.inl (vp_updL (d.2.1 q) k v)))) = xw cid b sh (d.1, xu d.2.1 q k v, d.2.2) := by
  refine xw_set (x_lt hq) ?_ (fun j hj => ?_)
  · simp only [xe, hq, xar, if_true, xu_row]
    rfl
  · simp only [xe, xar, xfs, xu_off hj]
theorem xr_iast {q : Nat} {i v : Int32} (S : xM p s m args meth c cc nL own D cid A b ex n0 sa sv B0) (G : xG D cid b A sh d s H locs) (hv : xsI .int sh d q i v = some d') (hdg : decode cc pc = .ok (.iastore, 1))
    (kk : ∀ (H : Heap) (locs : List Loc), xG D cid b A sh d' s H locs → W p l e R s m args below meth c H locs cells slots Q (F0 m (pc + 1) ls rest)) : W p l e R s m args below meth c H locs cells slots Q (F0 m pc ls (.int v :: .int i :: .ref (b + q) :: rest)) := by
  obtain ⟨n, h1, h2, rfl⟩ := xsI_of hv
  refine va_iast S.1 S.2.1 S.2.2.2.2.2.1 G.1 G.2.1 G.2.2 q 0 (xw_ar h1 (by decide)) rfl h2 hdg (fun H1 locs1 hP hD hS => ?_)
  rw [xw_st h1 (by decide)] at hP hD
  exact kk H1 locs1 ⟨hP, hD, hS⟩
theorem xr_bast {q : Nat} {i v : Int32} (S : xM p s m args meth c cc nL own D cid A b ex n0 sa sv B0) (G : xG D cid b A sh d s H locs) (hv : xsI .byte sh d q i v = some d') (hdg : decode cc pc = .ok (.bastore, 1))
    (kk : ∀ (H : Heap) (locs : List Loc), xG D cid b A sh d' s H locs → W p l e R s m args below meth c H locs cells slots Q (F0 m (pc + 1) ls rest)) : W p l e R s m args below meth c H locs cells slots Q (F0 m pc ls (.int v :: .int i :: .ref (b + q) :: rest)) := by
  obtain ⟨n, h1, h2, rfl⟩ := xsI_of hv
  refine va_bast S.1 S.2.1 S.2.2.2.2.2.1 G.1 G.2.1 G.2.2 q 1 (xw_ar h1 (by decide)) rfl h2 hdg (fun H1 locs1 hP hD hS => ?_)
  rw [xw_st h1 (by decide)] at hP hD
  exact kk H1 locs1 ⟨hP, hD, hS⟩
theorem xr_zast {q : Nat} {i v : Int32} (S : xM p s m args meth c cc nL own D cid A b ex n0 sa sv B0) (G : xG D cid b A sh d s H locs) (hv : xsI .boolean sh d q i v = some d') (hdg : decode cc pc = .ok (.bastore, 1))
    (kk : ∀ (H : Heap) (locs : List Loc), xG D cid b A sh d' s H locs → W p l e R s m args below meth c H locs cells slots Q (F0 m (pc + 1) ls rest)) : W p l e R s m args below meth c H locs cells slots Q (F0 m pc ls (.int v :: .int i :: .ref (b + q) :: rest)) := by
  obtain ⟨n, h1, h2, rfl⟩ := xsI_of hv
  refine va_zast S.1 S.2.1 S.2.2.2.2.2.1 G.1 G.2.1 G.2.2 q 2 (xw_ar h1 (by decide)) rfl h2 hdg (fun H1 locs1 hP hD hS => ?_)
  rw [xw_st h1 (by decide)] at hP hD
  exact kk H1 locs1 ⟨hP, hD, hS⟩
theorem xr_last {q : Nat} {i : Int32} {v : Int64} (S : xM p s m args meth c cc nL own D cid A b ex n0 sa sv B0) (G : xG D cid b A sh d s H locs) (hv : xsL sh d q i v = some d') (hdg : decode cc pc = .ok (.lastore, 1))
    (kk : ∀ (H : Heap) (locs : List Loc), xG D cid b A sh d' s H locs → W p l e R s m args below meth c H locs cells slots Q (F0 m (pc + 1) ls rest)) : W p l e R s m args below meth c H locs cells slots Q (F0 m pc ls (.long v :: .int i :: .ref (b + q) :: rest)) := by
  obtain ⟨n, h1, h2, rfl⟩ := xsL_of hv
  refine va_last S.1 S.2.1 S.2.2.2.2.2.1 G.1 G.2.1 G.2.2 q 3 (xw_al h1) rfl h2 hdg (fun H1 locs1 hP hD hS => ?_)
  rw [xw_stl h1] at hP hD
  exact kk H1 locs1 ⟨hP, hD, hS⟩
theorem xr_ilen {q n : Nat} (S : xM p s m args meth c cc nL own D cid A b ex n0 sa sv B0) (G : xG D cid b A sh d s H locs) (hv : xlen .int sh q = some n) (hdg : decode cc pc = .ok (.arraylength, 1))
    (kk : W p l e R s m args below meth c H locs cells slots Q (F0 m (pc + 1) ls (.int (nI n) :: rest))) : W p l e R s m args below meth c H locs cells slots Q (F0 m pc ls (.ref (b + q) :: rest)) :=
  va_alen S.1 S.2.1 S.2.2.2.2.2.1 G.1 q 0 (xw_ar (xlen_of hv) (by decide)) rfl rfl hdg kk
theorem xr_blen {q n : Nat} (S : xM p s m args meth c cc nL own D cid A b ex n0 sa sv B0) (G : xG D cid b A sh d s H locs) (hv : xlen .byte sh q = some n) (hdg : decode cc pc = .ok (.arraylength, 1))
    (kk : W p l e R s m args below meth c H locs cells slots Q (F0 m (pc + 1) ls (.int (nI n) :: rest))) : W p l e R s m args below meth c H locs cells slots Q (F0 m pc ls (.ref (b + q) :: rest)) :=
  va_alen S.1 S.2.1 S.2.2.2.2.2.1 G.1 q 1 (xw_ar (xlen_of hv) (by decide)) rfl rfl hdg kk
-- System.arraycopy
theorem xr_copy {index q0 q1 : Nat} {sp dp n : Int32} (S : xM p s m args meth c cc nL own D cid A b ex n0 sa sv B0) (G : xG D cid b A sh d s H locs) (hl : ls.size = nL) (hv : xcp sh d q0 sp q1 dp n = some d') (hw : Cond.methodLink own index arraycopyName ∈ xTB)
    (hframes : 1 ≤ R.frames) (hlocals : (rest.map fun v => v.category).sum + (nativeFrameWords "java/lang/System" "arraycopy" 5 + 11) ≤ R.locals) (hdg : decode cc pc = .ok (.invokestatic index, 3))
    (kk : ∀ (H : Heap) (locs : List Loc), xG D cid b A sh d' s H locs → W p l e R s m args below meth c H locs cells slots Q (F0 m (pc + 3) ls rest)) : W p l e R s m args below meth c H locs cells slots Q (F0 m pc ls (.int n :: .int dp :: .ref (b + q1) :: .int sp :: .ref (b + q0) :: rest)) := by
  obtain ⟨m0, h0, hv⟩ := x_ob hv
  obtain ⟨m1, h1, hv⟩ := x_ob hv
  split at hv
  · cases hv
  · rename_i hc
    cases hv
    have g0 := xlen_of h0
    have g1 := xlen_of h1
    refine va_copyi (c0 := cid .int) (c1 := cid .int) (ty := .int) S.1 S.2.1 (S.2.2.1.trans hl.symm) S.2.2.2.1 (S.2.2.2.2.1 _ hw) (S.2.2.2.2.1 _ kw_476) (S.2.2.2.2.1 _ kw_475) (S.2.2.2.2.1 _ kw_16) S.2.2.2.2.2.1 G.1 G.2.1 G.2.2 q0 q1 0 0 (xw_ar g0 (by decide)) (xw_ar g1 (by decide)) rfl rfl rfl (fun h => hc (Or.inl h)) (fun h => hc (Or.inr (Or.inl h))) (fun h => hc (Or.inr (Or.inr (Or.inl h)))) (Nat.not_lt.mp fun h => hc (Or.inr (Or.inr (Or.inr (Or.inl h))))) (Nat.not_lt.mp fun h => hc (Or.inr (Or.inr (Or.inr (Or.inr h))))) (fun _ _ => rfl) hframes hlocals hdg (fun H1 locs1 hP hD hS => ?_)
    have hE : (xw cid b sh d).set q1 (b + q1, .inl (cid .int, m1, .inl (va_cpy (d.1 q0) (d.1 q1) sp.toNatClampNeg dp.toNatClampNeg n.toNatClampNeg))) = xw cid b sh (xur d.1 q1 (va_cpy (d.1 q0) (d.1 q1) sp.toNatClampNeg dp.toNatClampNeg n.toNatClampNeg), d.2.1, d.2.2) := by
      refine xw_set (x_lt g1) ?_ (fun j hj => ?_)
      · simp [xe, g1, xar, xur]
      · simp [xe, xar, xfs, xur, hj]
    rw [hE] at hP hD
    exact kk H1 locs1 ⟨hP, hD, hS⟩
-- calls
theorem x_good {w : Cond} (h : w ∈ xTB) : w ∈ xTB ∧ ((w.onTables && w.keeps) = true ∨ ∃ ty, w = .arrayClass ty) := ⟨h, good_of_word (xTB_good w h)⟩
theorem x_goodC {y : MethodName} {bytes : ByteArray} {maxL : Nat} {ret : Option FieldType} (h : Cond.code y bytes maxL ret ∈ xTB) : GoodIn xTB (xws y bytes maxL ret) := fun w hw => x_good ((List.mem_cons.mp hw).elim (fun e => by rw [e]; exact h) id)
theorem x_goodV {index : Nat} {C : String} {y : MethodName} {ws : List Cond} (h : GoodIn xTB ws) (h1 : Cond.methodLink own index y ∈ xTB) (h2 : Cond.instanceMethod y ∈ xTB) (h3 : Cond.selects C y y ∈ xTB) (h4 : Cond.initialized C ∈ xTB) : GoodIn xTB (wsV own index C y ws) := by
  intro w hw
  rcases List.mem_append.mp hw with q | q
  · simp only [List.mem_cons, List.not_mem_nil, or_false] at q
    rcases q with rfl | rfl | rfl | rfl
    · exact x_good h1
    · exact x_good h2
    · exact x_good h3
    · exact x_good h4
  · exact h w q
theorem x_goodS {index : Nat} {y : MethodName} {ws : List Cond} (h : GoodIn xTB ws) (h1 : Cond.methodLink own index y ∈ xTB) (h2 : Cond.static y ∈ xTB) (h4 : Cond.initialized y.cls ∈ xTB) : GoodIn xTB (va_wsS own index y ws) := by
  intro w hw
  rcases List.mem_append.mp hw with q | q
  · simp only [List.mem_cons, List.not_mem_nil, or_false] at q
    rcases q with rfl | rfl | rfl
    · exact x_good h1
    · exact x_good h2
    · exact x_good h4
  · exact h w q
theorem xA_sub (S : xM p s m args meth c cc nL own D cid A b ex n0 sa sv B0) (G : xG D cid b A sh d s H locs) : ∀ q, va_A (xw cid b sh d) H.size q → A q := by
  intro q hq
  rcases hq with ⟨k, e, hk⟩ | hq
  · exact G.2.1.2 k _ hk
  · exact S.2.2.2.2.2.2.1 q (Nat.le_trans G.2.2.1 hq)
/-- what a callee finds -/
theorem xr_pre (S : xM p s m args meth c cc nL own D cid A b ex n0 sa sv B0) (G : xG D cid b A sh d s H locs) (hn : ex = true → sh.length = n0 + cells) (hz : H.size ≤ s.heap.size + cells) (av : List Value) (U : State) (hU : U.heap = H) (hW : s.WarmedH U.vm) : xPc D cid b ex sa sv B0 H.size sh d av av.toArray U := by
  have h9 := S.2.2.2.2.2.2.2.2.1
  have hB := S.2.2.2.2.2.2.2.2.2.1
  refine ⟨rfl, by rw [hU], ⟨by rw [hU]; exact G.1, ⟨G.2.1.1, fun _ _ _ => trivial⟩, fun he => ?_, va_K.moved hW.alike S.2.2.2.2.2.1⟩, ⟨vk_R.warm hW h9.1, vk_R.warm hW h9.2.1, ?_, ?_, ?_, xnest_warm hW h9.2.2.2.2.2.1, ?_⟩, S.2.2.2.2.2.2.2.2.2.2.1⟩
  · rw [hU]
    have h1 := S.2.2.2.2.2.2.2.2.2.2.2 he
    have h2 := hn he
    rcases Nat.eq_zero_or_pos sh.length with h3 | h3
    · have h4 := G.2.2.1
      omega
    · have h4 := G.size h3
      omega
  · have h1 := vk_S.moved hW.alike h9.2.2.1
    have h2 : vk_S 1 [104] [xBYT] (fun _ => sa) (fun _ => sv) (fun q => B0 ≤ q) U H := h1.kept (fun a ha hna => G.2.2.2.1 a ha (fun hA => hna (hB a hA)))
    rw [hU]
    exact h2
  · have h1 := va_Z.moved hW.alike h9.2.2.2.1
    have h2 := h1.kept (H1 := H) (fun a ha hna => G.2.2.2.1 a ha (fun hA => hna (hB a hA)))
    rw [hU]
    exact h2
  · have h1 := va_Zq.moved hW.alike h9.2.2.2.2.1
    have h2 := h1.kept (H1 := H) (fun a ha hna => G.2.2.2.1 a ha (fun hA => hna (hB a hA)))
    rw [hU]
    exact h2
  · rw [hU]
    exact Nat.le_trans h9.2.2.2.2.2.2 G.2.2.1
theorem xr_run {mc ms : Nat} {o : Option Value} {st0 : List Value} {a : Array Value} (S : xM p s m args meth c cc nL own D cid A b ex n0 sa sv B0) (G : xG D cid b A sh d s H locs)
    (hr : va_Run p l e R s m args below meth c H locs cells slots mc ms (F0 m pc ls st0) rest (xQ D cid b ex (va_A (xw cid b sh d) H.size) o sh' d' a) (va_A (xw cid b sh d) H.size))
    (kk : ∀ (H : Heap) (locs : List Loc), xG D cid b A sh' d' s H locs → W p l e R s m args below meth c H locs (cells + mc) (slots + ms) Q (F0 m (pc + 3) ls (o.toList ++ rest))) : W p l e R s m args below meth c H locs cells slots Q (F0 m pc ls st0) := by
  have hA := xA_sub S G
  intro T hT X
  obtain ⟨v, st₀, t, T', L, h0, X', hL, e1, e2, ⟨hv, ⟨hP, hD, hex, hK⟩, hz, hk⟩, st⟩ := hr T hT X
  cases hv
  rw [h0] at hz hk
  obtain ⟨t2, a1, b1⟩ := kk T'.heap (locs ++ L) ⟨by rw [e1]; exact hP, ⟨hD.1, fun k q hq => hA _ (hD.2 k q hq)⟩, Nat.le_trans G.2.2.1 (by rw [e1]; exact hz), fun q h1 h2 => by rw [e1, hk q (Nat.lt_of_lt_of_le h1 G.2.2.1) (fun z => h2 (hA q z))]; exact G.2.2.2.1 q h1 h2, fun q hq => by
      rcases List.mem_append.mp hq with h | h
      · exact G.2.2.2.2 q h
      · exact hA _ (hL q h)⟩ T' rfl X'
  exact ⟨t2, st t2 a1, b1⟩
theorem xon_of {ci q : Nat} {α : Type} {x : Option α} {v : α} (h : xon ci sh q x = some v) : sh[q]? = some (.inl ci) ∧ x = some v := by
  unfold xon at h
  split at h
  · rename_i h1
    exact ⟨h1, h⟩
  · cases h
/-- a call of an instance's method -/
theorem xr_callV {y : MethodName} {bytes : ByteArray} {maxL dp mc ms index ci q n : Nat} {ret : Option FieldType} {o : Option Value} {st0 As st1 : List Value} (S : xM p s m args meth c cc nL own D cid A b ex n0 sa sv B0) (G : xG D cid b A sh d s H locs) (hl : ls.size = nL) (hn : ex = true → sh.length = n0 + cells)
    (hM : xMet l y bytes maxL ret dp mc ms D cid b ex sa sv B0 (.ref (b + q) :: As) sh d o sh' d') (hq : sh[q]? = some (.inl ci)) (hci : ci < 11)
    (h1 : Cond.methodLink own index y ∈ xTB) (h2 : Cond.instanceMethod y ∈ xTB) (h3 : Cond.selects (xCn ci) y y ∈ xTB) (h4 : Cond.initialized (xCn ci) ∈ xTB) (h5 : Cond.code y bytes maxL ret ∈ xTB)
    (hd : y.cls = xCn ci ∧ y.cls ≠ "java/lang/invoke/MethodHandle" ∧ y.cls ≠ "java/lang/invoke/VarHandle" ∧ (parseMethodDescriptor y.desc).map (fun d => d.parameters.length) = some n) (hR : dp + 1 ≤ R.frames ∧ 8 + (maxL + 11) + 40 * dp ≤ R.locals) (hAs : As.length = n) (hst1 : o.toList ++ rest = st1) (hst : st0 = As.reverse ++ .ref (b + q) :: rest) (hW : (rest.map fun v => v.category).sum ≤ 8) (hf : cells + mc ≤ R.cells ∧ slots + ms ≤ R.slots) (hdg : decode cc pc = .ok (.invokevirtual index, 3))
    (kk : ∀ (H : Heap) (locs : List Loc), xG D cid b A sh' d' s H locs → W p l e R s m args below meth c H locs (cells + mc) (slots + ms) Q (F0 m (pc + 3) ls st1)) : W p l e R s m args below meth c H locs cells slots Q (F0 m pc ls st0) := by
  subst hst1
  refine W.size fun hz => ?_
  have hr := va_recv S.2.2.2.2.2.1 G.1 (x_cl hci) (xw_ob (cid := cid) (b := b) (d := d) hq)
  exact xr_run S G (va_runV (Ts := xTB) (C := xCn ci) ⟨S.1, S.2.1, S.2.2.1, S.2.2.2.1, S.2.2.2.2.1⟩ (hM H.size) (cwV n S.2.2.2.2.1 (x_goodV (x_goodC h5) h1 h2 h3 h4) rfl rfl rfl hd hR) ⟨xPc_blind, hr, fun U hU hW => xr_pre S G hn hz _ U hU hW⟩ rfl hAs hl hst (by show 2 * 0 + _ ≤ 8; omega) hdg hf) kk
/-- a call of a class's method -/
theorem xr_callS {y : MethodName} {bytes : ByteArray} {maxL dp mc ms index n : Nat} {ret : Option FieldType} {o : Option Value} {st0 As st1 : List Value} (S : xM p s m args meth c cc nL own D cid A b ex n0 sa sv B0) (G : xG D cid b A sh d s H locs) (hl : ls.size = nL) (hn : ex = true → sh.length = n0 + cells)
    (hM : xMet l y bytes maxL ret dp mc ms D cid b ex sa sv B0 As sh d o sh' d')
    (h1 : Cond.methodLink own index y ∈ xTB) (h2 : Cond.static y ∈ xTB) (h4 : Cond.initialized y.cls ∈ xTB) (h5 : Cond.code y bytes maxL ret ∈ xTB)
    (hd : y.cls ≠ "java/lang/invoke/MethodHandle" ∧ y.cls ≠ "java/lang/invoke/VarHandle" ∧ (parseMethodDescriptor y.desc).map (fun d => d.parameters.length) = some n) (hR : dp + 1 ≤ R.frames ∧ 8 + (maxL + 11) + 40 * dp ≤ R.locals) (hAs : As.length = n) (hst1 : o.toList ++ rest = st1) (hst : st0 = As.reverse ++ rest) (hW : (rest.map fun v => v.category).sum ≤ 8) (hf : cells + mc ≤ R.cells ∧ slots + ms ≤ R.slots) (hdg : decode cc pc = .ok (.invokestatic index, 3))
    (kk : ∀ (H : Heap) (locs : List Loc), xG D cid b A sh' d' s H locs → W p l e R s m args below meth c H locs (cells + mc) (slots + ms) Q (F0 m (pc + 3) ls st1)) : W p l e R s m args below meth c H locs cells slots Q (F0 m pc ls st0) := by
  subst hst1
  refine W.size fun hz => ?_
  exact xr_run S G (va_runS (Ts := xTB) ⟨S.1, S.2.1, S.2.2.1, S.2.2.2.1, S.2.2.2.2.1⟩ (hM H.size) (va_cwS n S.2.2.2.2.1 (x_goodS (x_goodC h5) h1 h2 h4) rfl rfl rfl hd hR) ⟨xPc_blind, fun U hU hW => xr_pre S G hn hz _ U hU hW⟩ rfl hAs hl hst (by show 2 * 0 + _ ≤ 8; omega) hdg hf) kk
end XR2
/-- a loop: from its head on, at most so many times -/
def xloop {F : Type} (z : F) (body : F → F) : Nat → F
  | 0 => z
  | n + 1 => body (xloop z body n)
def xF : Nat := 1000000
theorem x_toInt_ne {x k : Int32} (z : Int) (h : ¬ x = k) (hk : k.toInt = z) : x.toInt ≠ z := fun e => h (Int32.toInt_inj.mp (e.trans hk.symm))
section XSW
variable {p : Program} {l : Launch} {e : Env} {R : Room} {s : State} {m : MethodId} {args : Array Value} {below : List Frame} {meth : Method} {c : Code} {H : Heap} {locs : List Loc} {cells slots : Nat} {Q : State → Prop} {cc : ByteArray} {pc : Nat} {ls : Array Slot} {rest : List Value}
/-- a table, at a known number -/
theorem xr_tab {dflt lo hi : Int} {offs : Array Int} {len : Nat} {x k : Int32} {off : Int} {tgt : Nat} (hexec : p.tables.exec = Jvm.exec) (hb : c.code = cc) (hx : x = k) (hdg : decode cc pc = .ok (.tableswitch dflt lo hi offs, len)) (h1 : ¬ k.toInt < lo) (h2 : ¬ hi < k.toInt) (ho : offs[(k.toInt - lo).toNat]? = some off) (ht : (pc : Int) + off = (tgt : Int))
    (kk : W p l e R s m args below meth c H locs cells slots Q (F0 m tgt ls rest)) : W p l e R s m args below meth c H locs cells slots Q (F0 m pc ls (.int x :: rest)) := by
  subst hx
  exact lv_tableIn hexec hb hdg h1 h2 ho ht kk
/-- a table, at a number of none of its rows but such as go to the default -/
theorem xr_tabD {dflt lo hi : Int} {offs : Array Int} {len : Nat} {x : Int32} {tgt : Nat} (ks : List Int) (hexec : p.tables.exec = Jvm.exec) (hb : c.code = cc) (hdg : decode cc pc = .ok (.tableswitch dflt lo hi offs, len)) (hk : ∀ z ∈ ks, x.toInt ≠ z) (hall : ((List.range offs.size).all fun i => decide (offs[i]? = some dflt) || ks.contains (lo + (i : Int))) = true) (hsz : (offs.size : Int) = hi - lo + 1) (ht : (pc : Int) + dflt = (tgt : Int))
    (kk : W p l e R s m args below meth c H locs cells slots Q (F0 m tgt ls rest)) : W p l e R s m args below meth c H locs cells slots Q (F0 m pc ls (.int x :: rest)) := by
  by_cases h1 : x.toInt < lo
  · exact lv_tableOut hexec hb hdg (Or.inl h1) ht kk
  · by_cases h2 : hi < x.toInt
    · exact lv_tableOut hexec hb hdg (Or.inr h2) ht kk
    · have hi : (x.toInt - lo).toNat < offs.size := by omega
      have h3 := List.all_eq_true.mp hall _ (List.mem_range.mpr hi)
      rw [Bool.or_eq_true] at h3
      rcases h3 with h3 | h3
      · exact lv_tableIn hexec hb hdg h1 h2 (of_decide_eq_true h3) ht kk
      · have h4 : lo + (((x.toInt - lo).toNat : Nat) : Int) = x.toInt := by omega
        rw [h4] at h3
        exact absurd rfl (hk _ (List.contains_iff_mem.mp h3))
end XSW
section XDV
variable {p : Program} {l : Launch} {e : Env} {R : Room} {s : State} {m : MethodId} {args : Array Value} {below : List Frame} {meth : Method} {c : Code} {H : Heap} {locs : List Loc} {cells slots : Nat} {Q : State → Prop} {cc : ByteArray} {pc : Nat} {ls : Array Slot} {rest : List Value}
theorem xr_idiv {x y v : Int32} (hexec : p.tables.exec = Jvm.exec) (hb : c.code = cc) (hv : xdI x y = some v) (hdg : decode cc pc = .ok (.idiv, 1)) (kk : W p l e R s m args below meth c H locs cells slots Q (F0 m (pc + 1) ls (.int v :: rest))) : W p l e R s m args below meth c H locs cells slots Q (F0 m pc ls (.int y :: .int x :: rest)) := by
  unfold xdI at hv
  split at hv
  · cases hv
  · rename_i h; cases hv; exact lv_idiv hexec hb hdg h kk
theorem xr_irem {x y v : Int32} (hexec : p.tables.exec = Jvm.exec) (hb : c.code = cc) (hv : xmI x y = some v) (hdg : decode cc pc = .ok (.irem, 1)) (kk : W p l e R s m args below meth c H locs cells slots Q (F0 m (pc + 1) ls (.int v :: rest))) : W p l e R s m args below meth c H locs cells slots Q (F0 m pc ls (.int y :: .int x :: rest)) := by
  unfold xmI at hv
  split at hv
  · cases hv
  · rename_i h; cases hv; exact lv_irem hexec hb hdg h kk
theorem xr_ldiv {x y v : Int64} (hexec : p.tables.exec = Jvm.exec) (hb : c.code = cc) (hv : xdL x y = some v) (hdg : decode cc pc = .ok (.ldiv, 1)) (kk : W p l e R s m args below meth c H locs cells slots Q (F0 m (pc + 1) ls (.long v :: rest))) : W p l e R s m args below meth c H locs cells slots Q (F0 m pc ls (.long y :: .long x :: rest)) := by
  unfold xdL at hv
  split at hv
  · cases hv
  · rename_i h; cases hv; exact lv_ldiv hexec hb hdg h kk
theorem xr_lrem {x y v : Int64} (hexec : p.tables.exec = Jvm.exec) (hb : c.code = cc) (hv : xmL x y = some v) (hdg : decode cc pc = .ok (.lrem, 1)) (kk : W p l e R s m args below meth c H locs cells slots Q (F0 m (pc + 1) ls (.long v :: rest))) : W p l e R s m args below meth c H locs cells slots Q (F0 m pc ls (.long y :: .long x :: rest)) := by
  unfold xmL at hv
  split at hv
  · cases hv
  · rename_i h; cases hv; exact lv_lrem hexec hb hdg h kk
end XDV

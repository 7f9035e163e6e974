/-! ROWS OVER PURE HEAPS: one contract form (xMet), its entry, its ends, calls, fields, arrays, makings -/
abbrev xtys (cid : FieldType → ClassId) : List (ClassId × FieldType) := [(cid .int, .int), (cid .byte, .byte), (cid .boolean, .boolean), (cid .long, .long)]
def xTXT : String := "stair bench walker rest piano call seed law sits talk wear or and not pace up step worn full sat minute "
def xBYT : List Int32 := xTXT.toList.map (fun c => Int32.ofNat c.toNat)
def xnest (U : State) : Prop := va_Nw (Cond.methodLinkNest "HalfLandings$Plan" 72 ⟨"HalfLandings$Laws", "<init>", "()V"⟩ "HalfLandings") U ∧ va_Nw (Cond.methodLinkNest "HalfLandings" 55 ⟨"HalfLandings$Scene", "<init>", "()V"⟩ "HalfLandings") U ∧ va_Nw (Cond.methodLinkNest "HalfLandings" 81 ⟨"HalfLandings$Undone", "<init>", "()V"⟩ "HalfLandings") U ∧ va_Nw (Cond.methodLinkNest "HalfLandings" 88 ⟨"HalfLandings$Seen", "<init>", "()V"⟩ "HalfLandings") U
theorem xnest_same {u U : State} (h : u.vm = U.vm) (q : xnest u) : xnest U := ⟨va_Nw.same rfl h q.1, va_Nw.same rfl h q.2.1, va_Nw.same rfl h q.2.2.1, va_Nw.same rfl h q.2.2.2⟩
theorem xnest_warm {s U : State} (hW : s.WarmedH U.vm) (q : xnest s) : xnest U := ⟨va_Nw.warmM hW q.1, va_Nw.warmM hW q.2.1, va_Nw.warmM hW q.2.2.1, va_Nw.warmM hW q.2.2.2⟩
def xstr (sa sv B0 : Nat) (U : State) : Prop := vk_R "HalfLandings$Tokens" 41 xTXT sa U ∧ vk_R "HalfLandingsModel" 188 xTXT sa U ∧ vk_S 1 [104] [xBYT] (fun _ => sa) (fun _ => sv) (fun q => B0 ≤ q) U U.heap ∧ va_Z "java/lang/String" "COMPACT_STRINGS" "Z" (.int 1) (fun q => B0 ≤ q) U U.heap ∧ va_Zq "jdk/internal/util/Preconditions" "SIOOBE_FORMATTER" "Ljava/util/function/BiFunction;" (fun q => B0 ≤ q) U U.heap ∧ xnest U ∧ B0 ≤ U.heap.size
def xM (p : Program) (s : State) (m : MethodId) (args : Array Value) (meth : Method) (c : Code) (cc : ByteArray) (nL : Nat) (own : String) (D : va_G) (cid : FieldType → ClassId) (A : Nat → Prop) (b : Nat) (ex : Bool) (n0 sa sv B0 : Nat) : Prop :=
  p.tables.exec = Jvm.exec ∧ c.code = cc ∧ c.maxLocals = nL ∧ s.vm.findClass own = some m.cls ∧ (∀ w ∈ xTB, w.before args s = true) ∧ va_K D vwCl (xtys cid) s ∧ (∀ q, s.heap.size ≤ q → A q) ∧ meth.locks = false ∧ xstr sa sv B0 s ∧ (∀ q, A q → B0 ≤ q) ∧ B0 ≤ b ∧ (ex = true → s.heap.size = b + n0)
def xG (D : va_G) (cid : FieldType → ClassId) (b : Nat) (A : Nat → Prop) (sh : List xSh) (d : xD) (s : State) (H : Heap) (locs : List Loc) : Prop := va_P D vwCl (xw cid b sh d) H ∧ va_D A (xw cid b sh d) ∧ va_S A s.heap H locs
def xB (D : va_G) (cid : FieldType → ClassId) (b : Nat) (ex : Bool) (A : Nat → Prop) (sh : List xSh) (d : xD) (t : State) : Prop := va_P D vwCl (xw cid b sh d) t.heap ∧ va_D A (xw cid b sh d) ∧ (ex = true → t.heap.size = b + sh.length) ∧ va_K D vwCl (xtys cid) t
def xQ (D : va_G) (cid : FieldType → ClassId) (b : Nat) (ex : Bool) (A : Nat → Prop) (o : Option Value) (sh' : List xSh) (d' : xD) : Array Value → State → Outcome → State → Prop := fun _ st oc t => oc = .returned o ∧ xB D cid b ex A sh' d' t ∧ va_F A st t
def xPc (D : va_G) (cid : FieldType → ClassId) (b : Nat) (ex : Bool) (sa sv B0 sz : Nat) (sh : List xSh) (d : xD) (av : List Value) : Array Value → State → Prop := va_Pc av (fun U => U.heap.size = sz ∧ xB D cid b ex (fun _ => True) sh d U ∧ xstr sa sv B0 U ∧ B0 ≤ b)
def xRm (dp mc ms : Nat) : Room := { frames := dp, cells := mc, slots := ms, locals := 40 * dp }
/-- THE CONTRACT: from every state that holds the pure heap, the method returns o, and holds the pure heap that comes -/
def xMet (l : Launch) (y : MethodName) (bytes : ByteArray) (maxL : Nat) (ret : Option FieldType) (dp mc ms : Nat) (D : va_G) (cid : FieldType → ClassId) (b : Nat) (ex : Bool) (sa sv B0 : Nat) (av : List Value) (sh : List xSh) (d : xD) (o : Option Value) (sh' : List xSh) (d' : xD) : Prop :=
  ∀ sz : Nat, Met l y (xws y bytes maxL ret) (xRm dp mc ms) (xPc D cid b ex sa sv B0 sz sh d av) (xQ D cid b ex (va_A (xw cid b sh d) sz) o sh' d') mc ms (va_A (xw cid b sh d) sz)
theorem xstr_blind {sa sv B0 : Nat} {U : State} (g : JFrame) (mk : MethodId) (a : Array Value) (h : xstr sa sv B0 U) : xstr sa sv B0 (U.calling g mk a) :=
  ⟨vk_R.same (u := U) rfl h.1, vk_R.same (u := U) rfl h.2.1, vk_S.moved (u := U) (U := U.calling g mk a) (Vm.Alike.refl U.vm) h.2.2.1, va_Z.moved (u := U) (U := U.calling g mk a) (Vm.Alike.refl U.vm) h.2.2.2.1, va_Zq.moved (u := U) (U := U.calling g mk a) (Vm.Alike.refl U.vm) h.2.2.2.2.1, xnest_same (u := U) rfl h.2.2.2.2.2.1, h.2.2.2.2.2.2⟩
theorem xPc_blind {D : va_G} {cid : FieldType → ClassId} {b : Nat} {ex : Bool} {sa sv B0 sz : Nat} {sh : List xSh} {d : xD} {av : List Value} : FrameBlind (xPc D cid b ex sa sv B0 sz sh d av) := by
  intro a U g mk q
  obtain ⟨q0, q1, ⟨qP, qD, qe, qK⟩, qS, qb⟩ := q
  exact ⟨q0, q1, ⟨qP, qD, qe, va_K.moved (u := U) (U := U.calling g mk a) (Vm.Alike.refl U.vm) qK⟩, xstr_blind g mk a qS, qb⟩
theorem xMet.of {l : Launch} {y : MethodName} {bytes : ByteArray} {maxL : Nat} {ret : Option FieldType} {dp mc ms : Nat} {D : va_G} {cid : FieldType → ClassId} {b : Nat} {ex : Bool} {sa sv B0 : Nat} {av : List Value} {sh sh' : List xSh} {d d' : xD} {o : Option Value}
    (hpl : plainName y.cls = true) (hn : (lg_sl av).length ≤ maxL)
    (body : ∀ (p : Program) (e : Env) (s : State) (m : MethodId) (below : List Frame) (meth : Method) (c : Code) (ls : Array Slot) (A : Nat → Prop), xM p s m av.toArray meth c bytes maxL y.cls D cid A b ex sh.length sa sv B0 → meth.sig.returnType = ret → (y.name = "<init>" → meth.name = "<init>") → xG D cid b A sh d s s.heap [] → lv_has ls maxL (lv_args 0 av) →
      W p l e (xRm dp mc ms) s m av.toArray below meth c s.heap [] 0 0 (MQ below (xQ D cid b ex A o sh' d') av.toArray s mc ms A) (F0 m 0 ls [])) : xMet l y bytes maxL ret dp mc ms D cid b ex sa sv B0 av sh d o sh' d' := by
  intro sz
  refine Met.ofW (cc := bytes) (maxL := maxL) (ret := ret) hpl rfl ?_
  intro p e s m args below meth c s₁ B hml hv
  obtain ⟨rfl, hsz, ⟨hP, hD0, hex, hK⟩, hstr, hB0⟩ := hv
  subst hsz
  have hts := atoms_spec (ws := xws y bytes maxL ret) B.pre
  have hD : va_D (va_A (xw cid b sh d) s.heap.size) (xw cid b sh d) := hD0.self (sz := s.heap.size)
  have hl := lv_entry av (n := maxL) hn
  rw [lg_entry_eq]
  refine body p e s m below meth c _ (va_A (xw cid b sh d) s.heap.size) ⟨B.exec, B.bytes, hml, findClass_of_methodNamed B.named, fun w hw => hts w (List.mem_cons_of_mem _ hw), hK, fun q hq => Or.inr hq, B.notSynchronized, hstr, fun q hq => ?_, hB0, hex⟩ B.returns (fun hi => by rw [← hi]; exact (name_of_methodNamed B.named B.method).1) ⟨hP, hD, va_S.rf⟩ hl
  rcases hq with ⟨k, e, hk⟩ | hq
  · have hk2 := List.mem_of_getElem? hk
    unfold xw at hk2
    obtain ⟨j, -, hj⟩ := List.mem_map.mp hk2
    have : b + j = q := congrArg Prod.fst hj
    omega
  · exact Nat.le_trans hstr.2.2.2.2.2.2 hq
section XR
variable {p : Program} {l : Launch} {e : Env} {R : Room} {s : State} {m : MethodId} {args : Array Value} {below : List Frame} {meth : Method} {c : Code} {H : Heap} {locs : List Loc} {cells slots : Nat} {Q : State → Prop}
variable {cc : ByteArray} {pc nL : Nat} {ls : Array Slot} {rest : List Value} {D : va_G} {cid : FieldType → ClassId} {b : Nat} {ex : Bool} {A : Nat → Prop} {sh sh' : List xSh} {d d' : xD} {own : String} {n0 sa sv B0 : Nat}
theorem W.size {g : JFrame} (k : H.size ≤ s.heap.size + cells → W p l e R s m args below meth c H locs cells slots Q g) : W p l e R s m args below meth c H locs cells slots Q g := by
  intro T hT X
  exact k (by rw [← hT]; exact X.same.2.2.1) T hT X
theorem xG.size (G : xG D cid b A sh d s H locs) (h0 : 0 < sh.length) : b + sh.length ≤ H.size := by
  have h1 := (G.1 (sh.length - 1) _ (xw_get cid b sh d (by omega))).lt
  have h2 : b + (sh.length - 1) < H.size := h1
  omega
-- ends
theorem xr_fin (S : xM p s m args meth c cc nL own D cid A b ex n0 sa sv B0) (G : xG D cid b A sh d s H locs) (hn : ex = true → sh.length = n0 + cells) (hz : H.size ≤ s.heap.size + cells) (o : Option Value) (t : State) (ht : t.heap = H) (hW : s.WarmedH t.vm) : xQ D cid b ex A o sh d args s (.returned o) t := by
  refine ⟨rfl, ⟨by rw [ht]; exact G.1, G.2.1, fun he => ?_, va_K.moved hW.alike S.2.2.2.2.2.1⟩, G.2.2.F ht⟩
  rw [ht]
  have h1 := S.2.2.2.2.2.2.2.2.2.2.2 he
  have h2 := hn he
  rcases Nat.eq_zero_or_pos sh.length with h3 | h3
  · have h4 := G.2.2.1
    omega
  · have h4 := G.size h3
    omega
theorem xr_iret {v : Int32} (S : xM p s m args meth c cc nL own D cid A b ex n0 sa sv B0) (G : xG D cid b A sh d s H locs) (hn : ex = true → sh.length = n0 + cells) (hr : meth.sig.returnType = some .int) (hdg : decode cc pc = .ok (.ireturn, 1)) :
    W p l e R s m args below meth c H locs cells slots (MQ below (xQ D cid b ex A (some (.int v)) sh d) args s cells slots A) (F0 m pc ls [.int v]) :=
  W.size fun hz => W.iret S.1 S.2.1 hr (fun t ht hW => xr_fin S G hn hz _ t ht hW) G.2.2.2.2 hdg (hlocks := S.2.2.2.2.2.2.2.1)
theorem xr_zret {v w : Int32} (S : xM p s m args meth c cc nL own D cid A b ex n0 sa sv B0) (G : xG D cid b A sh d s H locs) (hn : ex = true → sh.length = n0 + cells) (hr : meth.sig.returnType = some .boolean) (hz : xz v = some w) (hdg : decode cc pc = .ok (.ireturn, 1)) :
    W p l e R s m args below meth c H locs cells slots (MQ below (xQ D cid b ex A (some (.int w)) sh d) args s cells slots A) (F0 m pc ls [.int v]) := by
  unfold xz at hz
  split at hz
  · rename_i h1
    cases hz
    refine W.size fun hz => W.zret S.1 S.2.1 hr ?_ (fun t ht hW => xr_fin S G hn hz _ t ht hW) G.2.2.2.2 hdg (hlocks := S.2.2.2.2.2.2.2.1)
    rcases h1 with rfl | rfl <;> rfl
  · cases hz
theorem xr_lret {v : Int64} (S : xM p s m args meth c cc nL own D cid A b ex n0 sa sv B0) (G : xG D cid b A sh d s H locs) (hn : ex = true → sh.length = n0 + cells) (hr : meth.sig.returnType = some .long) (hdg : decode cc pc = .ok (.lreturn, 1)) :
    W p l e R s m args below meth c H locs cells slots (MQ below (xQ D cid b ex A (some (.long v)) sh d) args s cells slots A) (F0 m pc ls [.long v]) :=
  W.size fun hz => W.lret S.1 S.2.1 hr (fun t ht hW => xr_fin S G hn hz _ t ht hW) G.2.2.2.2 hdg (hlocks := S.2.2.2.2.2.2.2.1)
theorem xr_vret (S : xM p s m args meth c cc nL own D cid A b ex n0 sa sv B0) (G : xG D cid b A sh d s H locs) (hn : ex = true → sh.length = n0 + cells) (hr : meth.sig.returnType = none) (hdg : decode cc pc = .ok (.return_, 1)) :
    W p l e R s m args below meth c H locs cells slots (MQ below (xQ D cid b ex A none sh d) args s cells slots A) (F0 m pc ls []) :=
  W.size fun hz => W.vret S.1 S.2.1 hr (fun t ht hW => xr_fin S G hn hz _ t ht hW) G.2.2.2.2 hdg (hlocks := S.2.2.2.2.2.2.2.1)
-- fields
def xisI (ty : FieldType) : Bool := match ty with
  | .int => true
  | .boolean => true
  | _ => false
def xisR (ty : FieldType) : Bool := match ty with
  | .object _ => true
  | .array _ => true
  | _ => false
theorem xval_I {b : Nat} {ty : FieldType} (h : xisI ty = true) (i : Int32) (l : Int64) (r : Option Nat) : xval b ty i l r = .int i := by
  cases ty <;> first | rfl | cases h
theorem xval_R {b : Nat} {ty : FieldType} (h : xisR ty = true) (i : Int32) (l : Int64) (r : Option Nat) : xval b ty i l r = va_rf (r.map (fun k => b + k)) := by
  cases ty <;> first | rfl | cases h
abbrev xlk (own : String) (index ci k : Nat) : Cond := Cond.fieldLink own index (xCT ci k).1 (xCT ci k).2.1 (xCT ci k).2.2.1
theorem xr_getI {index ci k q : Nat} {v : Int32} (S : xM p s m args meth c cc nL own D cid A b ex n0 sa sv B0) (G : xG D cid b A sh d s H locs) (hv : xgI ci sh d q k = some v) (hd : (decide (ci < 11) && decide (k < xN ci) && xisI (xTy ci k)) = true) (hw : xlk own index ci k ∈ xTB) (hdg : decode cc pc = .ok (.getfield index, 3))
    (kk : W p l e R s m args below meth c H locs cells slots Q (F0 m (pc + 3) ls (.int v :: rest))) : W p l e R s m args below meth c H locs cells slots Q (F0 m pc ls (.ref (b + q) :: rest)) := by
  simp only [Bool.and_eq_true, decide_eq_true_eq] at hd
  obtain ⟨⟨hci, hk⟩, hty⟩ := hd
  unfold xgI at hv
  split at hv
  · rename_i hq
    cases hv
    exact va_get (C := xCn ci) (T := xCT ci) (N := xN ci) (ref := (xCT ci k).1) S.1 S.2.1 S.2.2.2.2.1 (x_in hci) S.2.2.2.1 S.2.2.2.2.2.1 G.1 q (xw_ob hq) (x_cl hci) k hk (S.2.2.2.2.1 _ hw) (fun _ h9 => h9) (by rw [xfs_get hk, xval_I hty]) hdg kk
  · cases hv
theorem xr_getL {index ci k q : Nat} {v : Int64} (S : xM p s m args meth c cc nL own D cid A b ex n0 sa sv B0) (G : xG D cid b A sh d s H locs) (hv : xgL ci sh d q k = some v) (hd : (decide (ci < 11) && decide (k < xN ci) && decide (xTy ci k = .long)) = true) (hw : xlk own index ci k ∈ xTB) (hdg : decode cc pc = .ok (.getfield index, 3))
    (kk : W p l e R s m args below meth c H locs cells slots Q (F0 m (pc + 3) ls (.long v :: rest))) : W p l e R s m args below meth c H locs cells slots Q (F0 m pc ls (.ref (b + q) :: rest)) := by
  simp only [Bool.and_eq_true, decide_eq_true_eq] at hd
  obtain ⟨⟨hci, hk⟩, hty⟩ := hd
  unfold xgL at hv
  split at hv
  · rename_i hq
    cases hv
    exact va_get (C := xCn ci) (T := xCT ci) (N := xN ci) (ref := (xCT ci k).1) S.1 S.2.1 S.2.2.2.2.1 (x_in hci) S.2.2.2.1 S.2.2.2.2.2.1 G.1 q (xw_ob hq) (x_cl hci) k hk (S.2.2.2.2.1 _ hw) (fun _ h9 => h9) (by rw [xfs_get hk, hty]; rfl) hdg kk
  · cases hv
theorem xr_getR {index ci k q r : Nat} (S : xM p s m args meth c cc nL own D cid A b ex n0 sa sv B0) (G : xG D cid b A sh d s H locs) (hv : xgR ci sh d q k = some r) (hd : (decide (ci < 11) && decide (k < xN ci) && xisR (xTy ci k)) = true) (hw : xlk own index ci k ∈ xTB) (hdg : decode cc pc = .ok (.getfield index, 3))
    (kk : W p l e R s m args below meth c H locs cells slots Q (F0 m (pc + 3) ls (.ref (b + r) :: rest))) : W p l e R s m args below meth c H locs cells slots Q (F0 m pc ls (.ref (b + q) :: rest)) := by
  simp only [Bool.and_eq_true, decide_eq_true_eq] at hd
  obtain ⟨⟨hci, hk⟩, hty⟩ := hd
  unfold xgR at hv
  split at hv
  · rename_i hq
    exact va_get (C := xCn ci) (T := xCT ci) (N := xN ci) (ref := (xCT ci k).1) S.1 S.2.1 S.2.2.2.2.1 (x_in hci) S.2.2.2.1 S.2.2.2.2.2.1 G.1 q (xw_ob hq) (x_cl hci) k hk (S.2.2.2.2.1 _ hw) (fun _ h9 => h9) (by rw [xfs_get hk, xval_R hty, hv]; rfl) hdg kk
  · cases hv
theorem xw_put {cid : FieldType → ClassId} {b : Nat} {sh : List xSh} {d d' : xD} {q ci k : Nat} {v : Value} (hq : sh[q]? = some (.inl ci)) (hk : k < xN ci) (hv : xval b (xTy ci k) (d'.1 q k) (d'.2.1 q k) (d'.2.2 q k) = v)
    (ho : ∀ j, j ≠ k → xval b (xTy ci j) (d'.1 q j) (d'.2.1 q j) (d'.2.2 q j) = xval b (xTy ci j) (d.1 q j) (d.2.1 q j) (d.2.2 q j)) (h1 : ∀ j, j ≠ q → d'.1 j = d.1 j) (h2 : ∀ j, j ≠ q → d'.2.1 j = d.2.1 j) (h3 : ∀ j, j ≠ q → d'.2.2 j = d.2.2 j) :
    (xw cid b sh d).set q (b + q, .inr (ci, (xfs b d q ci).set k v)) = xw cid b sh d' := by
  refine xw_set (x_lt hq) ?_ (fun j hj => ?_)
  · rw [xfs_set hk hv ho]
    simp [xe, hq]
  · simp only [xe, xar, xfs, h1 j hj, h2 j hj, h3 j hj]
theorem xr_putI {index ci k q : Nat} {v : Int32} (S : xM p s m args meth c cc nL own D cid A b ex n0 sa sv B0) (G : xG D cid b A sh d s H locs) (hv : xpI ci sh d q k v = some d') (hd : (decide (ci < 11) && decide (k < xN ci) && (!(xCT ci k).2.2.2)) = true) (hw : xlk own index ci k ∈ xTB) (hdg : decode cc pc = .ok (.putfield index, 3))
    (kk : ∀ (H : Heap) (locs : List Loc), xG D cid b A sh d' s H locs → W p l e R s m args below meth c H locs cells slots Q (F0 m (pc + 3) ls rest)) : W p l e R s m args below meth c H locs cells slots Q (F0 m pc ls (.int v :: .ref (b + q) :: rest)) := by
  simp only [Bool.and_eq_true, decide_eq_true_eq, Bool.not_eq_true'] at hd
  obtain ⟨⟨hci, hk⟩, hfin⟩ := hd
  unfold xpI at hv
  split at hv
  · rename_i hq
    obtain ⟨hq, hok⟩ := hq
    cases hv
    have hI : xisI (xTy ci k) = true := by
      unfold xok at hok
      split at hok
      · rename_i e; rw [e]; rfl
      · rename_i e; rw [e]; rfl
      · cases hok
    have hnf : narrow (xTy ci k) (.int v) = .int v ∧ fits (xTy ci k) (.int v) = true := by
      unfold xok at hok
      split at hok
      · rename_i e; rw [e]; exact ⟨rfl, rfl⟩
      · rename_i e; rw [e]
        simp only [Bool.or_eq_true, beq_iff_eq] at hok
        rcases hok with rfl | rfl <;> exact ⟨rfl, rfl⟩
      · cases hok
    refine va_put (C := xCn ci) (T := xCT ci) (N := xN ci) (ref := (xCT ci k).1) S.1 S.2.1 S.2.2.2.2.1 (x_in hci) (xTy ci) (x_ty hci) (x_nm hci) S.2.2.2.1 S.2.2.2.2.2.1 G.1 G.2.1 G.2.2 q (xw_ob hq) (x_cl hci) k hk (S.2.2.2.2.1 _ hw) (fun _ h9 => h9) hfin (x_ty hci k hk) hnf.1 hnf.2 (by rw [xfs_len]; exact hk) hdg (fun H1 locs1 hP hD hS => ?_)
    have hE := xw_put (cid := cid) (b := b) (sh := sh) (d := d) (d' := (xu d.1 q k v, d.2.1, d.2.2)) (v := .int v) hq hk (by rw [xval_I hI]; simp [xu]) (fun j hj => by simp [xu, hj]) (fun j hj => xu_off hj) (fun _ _ => rfl) (fun _ _ => rfl)
    rw [hE] at hP hD
    exact kk H1 locs1 ⟨hP, hD, hS⟩
  · cases hv
theorem xr_putL {index ci k q : Nat} {v : Int64} (S : xM p s m args meth c cc nL own D cid A b ex n0 sa sv B0) (G : xG D cid b A sh d s H locs) (hv : xpL ci sh d q k v = some d') (hd : (decide (ci < 11) && decide (k < xN ci) && decide (xTy ci k = .long) && (!(xCT ci k).2.2.2)) = true) (hw : xlk own index ci k ∈ xTB) (hdg : decode cc pc = .ok (.putfield index, 3))
    (kk : ∀ (H : Heap) (locs : List Loc), xG D cid b A sh d' s H locs → W p l e R s m args below meth c H locs cells slots Q (F0 m (pc + 3) ls rest)) : W p l e R s m args below meth c H locs cells slots Q (F0 m pc ls (.long v :: .ref (b + q) :: rest)) := by
  simp only [Bool.and_eq_true, decide_eq_true_eq, Bool.not_eq_true'] at hd
  obtain ⟨⟨⟨hci, hk⟩, hty⟩, hfin⟩ := hd
  unfold xpL at hv
  split at hv
  · rename_i hq
    cases hv
    refine va_put (C := xCn ci) (T := xCT ci) (N := xN ci) (ref := (xCT ci k).1) S.1 S.2.1 S.2.2.2.2.1 (x_in hci) (xTy ci) (x_ty hci) (x_nm hci) S.2.2.2.1 S.2.2.2.2.2.1 G.1 G.2.1 G.2.2 q (xw_ob hq) (x_cl hci) k hk (S.2.2.2.2.1 _ hw) (fun _ h9 => h9) hfin (x_ty hci k hk) (by rw [hty]; rfl) (by rw [hty]; rfl) (by rw [xfs_len]; exact hk) hdg (fun H1 locs1 hP hD hS => ?_)
    have hE := xw_put (cid := cid) (b := b) (sh := sh) (d := d) (d' := (d.1, xu d.2.1 q k v, d.2.2)) (v := .long v) hq hk (by rw [hty]; simp [xu, xval]) (fun j hj => by simp [xu, hj]) (fun _ _ => rfl) (fun j hj => xu_off hj) (fun _ _ => rfl)
    rw [hE] at hP hD
    exact kk H1 locs1 ⟨hP, hD, hS⟩
  · cases hv
theorem xr_putR {index ci k q v : Nat} (S : xM p s m args meth c cc nL own D cid A b ex n0 sa sv B0) (G : xG D cid b A sh d s H locs) (hv : xpR ci sh d q k v = some d') (hd : (decide (ci < 11) && decide (k < xN ci) && xisR (xTy ci k) && (!(xCT ci k).2.2.2)) = true) (hw : xlk own index ci k ∈ xTB) (hdg : decode cc pc = .ok (.putfield index, 3))
    (kk : ∀ (H : Heap) (locs : List Loc), xG D cid b A sh d' s H locs → W p l e R s m args below meth c H locs cells slots Q (F0 m (pc + 3) ls rest)) : W p l e R s m args below meth c H locs cells slots Q (F0 m pc ls (.ref (b + v) :: .ref (b + q) :: rest)) := by
  simp only [Bool.and_eq_true, decide_eq_true_eq, Bool.not_eq_true'] at hd
  obtain ⟨⟨⟨hci, hk⟩, hty⟩, hfin⟩ := hd
  unfold xpR at hv
  split at hv
  · rename_i hq
    cases hv
    refine va_put (C := xCn ci) (T := xCT ci) (N := xN ci) (ref := (xCT ci k).1) S.1 S.2.1 S.2.2.2.2.1 (x_in hci) (xTy ci) (x_ty hci) (x_nm hci) S.2.2.2.1 S.2.2.2.2.2.1 G.1 G.2.1 G.2.2 q (xw_ob hq) (x_cl hci) k hk (S.2.2.2.2.1 _ hw) (fun _ h9 => h9) hfin (x_ty hci k hk) (by generalize xTy ci k = ty at hty; cases ty <;> first | rfl | cases hty) (by generalize xTy ci k = ty at hty; cases ty <;> first | rfl | cases hty) (by rw [xfs_len]; exact hk) hdg (fun H1 locs1 hP hD hS => ?_)
    have hE := xw_put (cid := cid) (b := b) (sh := sh) (d := d) (d' := (d.1, d.2.1, xu d.2.2 q k (some v))) (v := .ref (b + v)) hq hk (by rw [xval_R hty]; simp [xu, va_rf]) (fun j hj => by simp [xu, hj]) (fun _ _ => rfl) (fun _ _ => rfl) (fun j hj => xu_off hj)
    rw [hE] at hP hD
    exact kk H1 locs1 ⟨hP, hD, hS⟩
  · cases hv
theorem xr_putRF {index ci k q v : Nat} (S : xM p s m args meth c cc nL own D cid A b ex n0 sa sv B0) (hin : meth.name = "<init>") (G : xG D cid b A sh d s H locs) (hv : xpR ci sh d q k v = some d') (hd : (decide (ci < 11) && decide (k < xN ci) && xisR (xTy ci k) && (xCT ci k).2.2.2) = true) (hdecl : (xCT ci k).1 = own) (hw : xlk own index ci k ∈ xTB) (hdg : decode cc pc = .ok (.putfield index, 3))
    (kk : ∀ (H : Heap) (locs : List Loc), xG D cid b A sh d' s H locs → W p l e R s m args below meth c H locs cells slots Q (F0 m (pc + 3) ls rest)) : W p l e R s m args below meth c H locs cells slots Q (F0 m pc ls (.ref (b + v) :: .ref (b + q) :: rest)) := by
  simp only [Bool.and_eq_true, decide_eq_true_eq] at hd
  obtain ⟨⟨⟨hci, hk⟩, hty⟩, hfin⟩ := hd
  unfold xpR at hv
  split at hv
  · rename_i hq
    cases hv
    refine va_putF (C := xCn ci) (T := xCT ci) (N := xN ci) (ref := (xCT ci k).1) S.1 S.2.1 S.2.2.2.2.1 (x_in hci) (xTy ci) (x_ty hci) (x_nm hci) S.2.2.2.1 S.2.2.2.2.2.1 G.1 G.2.1 G.2.2 q (xw_ob hq) (x_cl hci) k hk (S.2.2.2.2.1 _ hw) (fun _ h9 => h9) hfin hin hdecl (x_ty hci k hk) (by generalize xTy ci k = ty at hty; cases ty <;> first | rfl | cases hty) (by generalize xTy ci k = ty at hty; cases ty <;> first | rfl | cases hty) (by rw [xfs_len]; exact hk) hdg (fun H1 locs1 hP hD hS => ?_)
    have hE := xw_put (cid := cid) (b := b) (sh := sh) (d := d) (d' := (d.1, d.2.1, xu d.2.2 q k (some v))) (v := .ref (b + v)) hq hk (by rw [xval_R hty]; simp [xu, va_rf]) (fun j hj => by simp [xu, hj]) (fun _ _ => rfl) (fun _ _ => rfl) (fun j hj => xu_off hj)
    rw [hE] at hP hD
    exact kk H1 locs1 ⟨hP, hD, hS⟩
  · cases hv
end XR

/-! A THROW WITH A TEXT WHOSE CONSTRUCTOR LINKS ITS SUPERCLASS ANYWHERE -/
def xNSo (own : String) (ic : Nat) (X : String) : List Cond := [.methodLink own ic (Bundle.initS X), .instantiable X 6, .castable X X, .selects X Bundle.tFill0 Bundle.tFill0, .selects X Bundle.tFill Bundle.tFill, .lays X Bundle.tN "cause" "Ljava/lang/Throwable;", .lays X Bundle.tN "stackTrace" Bundle.steD, .lays X Bundle.tN "suppressedExceptions" Bundle.listD, .lays X Bundle.tN "detailMessage" "Ljava/lang/String;", .isRef (.static Bundle.tN "UNASSIGNED_STACK" Bundle.steD), .isRef (.static Bundle.tN "SUPPRESSED_SENTINEL" Bundle.listD), .fieldLink Bundle.tN 198 Bundle.tN "backtrace" "Ljava/lang/Object;", .lays Bundle.tN Bundle.tN "backtrace" "Ljava/lang/Object;", .lays X Bundle.tN "backtrace" "Ljava/lang/Object;"]
def xNSat (own : String) (ic : Nat) (X Y : String) (ix : Nat) (rx : ByteArray) (names : List String) : List Cond := Bundle.throwableAtoms ++ (Bundle.throwableSAtoms ++ (Bundle.passSAtoms X Y ix rx ++ (Bundle.chainSAtoms Y names ++ xNSo own ic X)))
section XNS
variable {p : Program} {l : Launch} {e : Env} {R : Room} {s : State} {m : MethodId} {args : Array Value} {below : List Frame} {meth : Method} {c : Code} {H : Heap} {locs : List Loc} {cells slots : Nat}
variable {mc ms : Nat} {free : Addr → Prop} {ls : Array Slot} {rest : List Value}
variable {Qc : Array Value → State → Outcome → State → Prop} {XC : String → State → State → Prop}
set_option maxHeartbeats 2000000 in
theorem xt_ctor {W : State} (X : Stand p l e R s m args below meth c W locs cells slots) (hexec : p.tables.exec = Jvm.exec) (htr : e.platform.stackTraces = false) {own cls Y : String} {ix : Nat} {rx : ByteArray} {names : List String} {ic : Nat}
    (hown : s.vm.findClass own = some m.cls) (hcls : Bundle.fit cls = true) (hY : Bundle.fit Y = true) (hnames : ∀ n ∈ names, Bundle.fit n = true)
    (x0 : decode rx 0 = .ok (.aload_n 0, 1)) (x1 : decode rx 1 = .ok (.aload_n 1, 1)) (x2 : decode rx 2 = .ok (.invokespecial ix, 3)) (x5 : decode rx 5 = .ok (.return_, 1))
    (h : ∀ a ∈ xNSat own ic cls Y ix rx names, a.before args s = true)
    (hlocs : ∀ x ∈ locs, ∀ cell, s.heap[x.base]? = some cell → cell.vm.isStatics = false)
    {a : Addr} {cX : ClassId} {kX : Class} (hfX : s.vm.findClass cls = some cX) (hkX : s.vm.classes[cX]? = some kX) (hcell : W.heap[a]? = some (freshCell cX kX)) (hnew : s.heap.size ≤ a)
    {msg : Value} (hmsg : msg.isRef = true)
    {g : JFrame} (hg : g.method = m) (hsize : g.locals.size = c.maxLocals) (hlocked : g.locked = none) (hentered : g.entered = []) {rest : List Value} (hstack : g.stack = msg :: .ref a :: .ref a :: rest)
    (hd6 : decode c.code g.pc = .ok (.invokespecial ic, 3)) (hd9 : decode c.code (g.pc + 3) = .ok (.athrow, 1)) (hout : ∀ x ∈ c.exceptionTable.toList, covers x (g.pc + 3) = false)
    (hRf : names.length + 4 < R.frames) (hRl : 2 * g.monitorRoom + ((Value.ref a :: rest).map fun v => v.category).sum + (13 * (names.length + 2) + 42) ≤ R.locals) (hlocks : meth.locks = false) :
    ∃ U : State, Steps p.tables e below (W.setTop g) U ∧ U.status = .running ∧ Ended U below (.threw a) ∧ s.WarmedH U.vm ∧ s.sameButNew ({ U with vm := s.vm } : State) locs cells slots ∧ ∃ ce, U.heap[a]? = some ce ∧ ce.vm = .none ∧ s.vm.findClass cls = some ce.cls := by
  have kM : e.platform.frameOwnsMonitors = true := by rw [X.admits.platform]
  have kF : e.platform.finalization = false := by rw [X.admits.platform]
  have kA : e.platform.magicAccessors = ({} : Platform).magicAccessors := by rw [X.admits.platform]
  have hO : ∀ z, z ∈ xNSo own ic cls → z.before args s = true := fun z hz => h z (by simp only [xNSat, List.mem_append]; exact Or.inr (Or.inr (Or.inr (Or.inr hz))))
  have hPa : ∀ z, z ∈ Bundle.passSAtoms cls Y ix rx → z.before args s = true := fun z hz => h z (by simp only [xNSat, List.mem_append]; exact Or.inr (Or.inr (Or.inl hz)))
  obtain ⟨T, Z0, LT, -, TY⟩ := ThrowableC.of_atoms (args := args) kM kF kA (fun z hz => h z (by simp only [xNSat, List.mem_append]; exact Or.inl hz))
  obtain ⟨Z, M, LZ, LM, hnZ⟩ := Init0T.ofS_atoms (args := args) kA LT TY (fun z hz => h z (by simp only [xNSat, List.mem_append]; exact Or.inr (Or.inl hz)))
  obtain ⟨P2, Ps, hlen, L2, hLs, hm2, hk2, hks⟩ := Bundle.chainS (args := args) kA hnZ names Y hY hnames (fun z hz => h z (by simp only [xNSat, List.mem_append]; exact Or.inr (Or.inr (Or.inr (Or.inl hz)))))
  obtain ⟨P1, L1, hm1, hs1⟩ := PassC.ofS_atoms (args := args) kA (Bundle.fit_spec hcls).1 (Bundle.fit_spec hY).2 x0 x1 x2 x5 hPa
  have hfound : s.vm.findClass cls = some P1.m.cls := findClass_of_methodNamed hm1
  cases Option.some.inj (hfX.symm.trans hfound)
  obtain ⟨c1, kX', hc1, hk, hord, -, -, hn6⟩ := Cond.instantiable_spec (hO (.instantiable cls 6) (by simp [xNSo]))
  cases Option.some.inj (hc1.symm.trans hfound)
  cases Option.some.inj (hkX.symm.trans hk)
  have sel : ∀ (y : MethodName) (i : MethodId), (y.cls ≠ "java/lang/invoke/MethodHandle" ∧ y.cls ≠ "java/lang/invoke/VarHandle") → s.methodNamed? y = some i → (Cond.selects cls y y).before args s = true → selectMethod e.platform s.vm P1.m.cls i = .method i := fun y i hy hi hz => by
    obtain ⟨c2, r2, m2, q1, q2, q3, q4, -⟩ := Cond.selects_spec hz
    cases Option.some.inj (q1.symm.trans hfound)
    cases Option.some.inj (q2.symm.trans (State.methodFound?_of_named hi hy))
    cases Option.some.inj (q3.symm.trans hi)
    rw [Launch.admits_selectMethod X.admits]; exact q4
  have s0 := sel Bundle.tFill0 T.fill0 (by decide) TY.fill0 (hO _ (by simp [xNSo]))
  have sF := sel Bundle.tFill T.fill (by decide) TY.fill (hO _ (by simp [xNSo]))
  obtain ⟨cS, hcS, hiS⟩ := TY.statics
  obtain ⟨u0, hu0⟩ := Cond.staticRefV TY.unassigned LT.unassignedStatic LT.statics hcS hiS (hO (.isRef (.static Bundle.tN "UNASSIGNED_STACK" Bundle.steD)) (by simp [xNSo]))
  obtain ⟨sen, hsen⟩ := Cond.staticRefV TY.sentinel LT.sentinelStatic LT.statics hcS hiS (hO (.isRef (.static Bundle.tN "SUPPRESSED_SENTINEL" Bundle.listD)) (by simp [xNSo]))
  obtain ⟨ci, ii, fB, b1, b2, b3, b4, -, nB, tB, fF⟩ := Cond.ownField (t := .object "java/lang/Object") TY.found LT.cls (by decide +kernel) (hO (.fieldLink Bundle.tN 198 Bundle.tN "backtrace" "Ljava/lang/Object;") (by simp [xNSo])) (hO (.lays Bundle.tN Bundle.tN "backtrace" "Ljava/lang/Object;") (by simp [xNSo])) e.platform kA
  obtain ⟨cS', hcS', heS, -, hkeep⟩ := X.same.2.2.2.2.2 T.aS cS hcS
  have hfree : ∀ i, (⟨T.aS, i⟩ : Loc) ∉ locs := fun i hmem => by
    have z := hlocs _ hmem cS hcS
    rw [hiS] at z; cases z
  have hknown : cS'.vm ≠ .unknown := by
    rw [heS]; intro hu
    rw [show cS.vm = .unknown from hu] at hiS
    cases hiS
  have hne : T.aS ≠ a := Nat.ne_of_lt (Nat.lt_of_lt_of_le (Array.getElem?_eq_some_iff.mp hcS).1 hnew)
  obtain ⟨iM, fM⟩ := TY.msg
  obtain ⟨yC, dC, eC, nC⟩ := Cond.laysAt hfound hk TY.cause (hO (.lays cls Bundle.tN "cause" "Ljava/lang/Throwable;") (by simp [xNSo]))
  obtain ⟨yS, dS, eS, nS⟩ := Cond.laysAt hfound hk TY.stack (hO (.lays cls Bundle.tN "stackTrace" Bundle.steD) (by simp [xNSo]))
  obtain ⟨yP, dP, eP, nP⟩ := Cond.laysAt hfound hk TY.supp (hO (.lays cls Bundle.tN "suppressedExceptions" Bundle.listD) (by simp [xNSo]))
  obtain ⟨yM, dM, eM, nM⟩ := Cond.laysAt hfound hk fM (hO (.lays cls Bundle.tN "detailMessage" "Ljava/lang/String;") (by simp [xNSo]))
  obtain ⟨yB, dB, eB, nB'⟩ := Cond.laysAt hfound hk fF (hO (.lays cls Bundle.tN "backtrace" "Ljava/lang/Object;") (by simp [xNSo]))
  have aC := Cond.laysApart eB eC nB' nC (by rw [nB, TY.causeName]; decide)
  have aS := Cond.laysApart eB eS nB' nS (by rw [nB, TY.stackName]; decide)
  have aP := Cond.laysApart eB eP nB' nP (by rw [nB, TY.suppName]; decide)
  have hskip : SkipFacts T e.platform s (fun u => u) u0 ((preparedCellV T.toThrowableT (freshCell P1.m.cls kX) a u0 sen).withEntry W.cur) := by
    refine ⟨{ ci198 := ci, i198 := ii, fBack := fB }, ⟨b1, b2, b3, b4⟩, ?_, fun _ _ => rfl⟩
    have z := fresh_default (c := P1.m.cls) yB
    rw [tB] at z
    simpa [preparedCellV, Cell.setSlot, Cell.withEntry, Array.getElem?_setIfInBounds, aC, aS, aP, aC.symm, aS.symm, aP.symm, defaultValue] using z
  obtain ⟨tm, -, -, -, vm1, hnC, -, -, -, -, -, -, -, hW1, st1⟩ := Steps.initColdS (tb := p.tables) (e := e) (below := below) (s := s) (U := W) X.here hexec X.warmed kA hown (t := Bundle.initS cls) rfl rfl (Bundle.fit_spec hcls).2
    (hO (.methodLink own ic (Bundle.initS cls)) (by simp [xNSo])) (hPa (.instanceMethod (Bundle.initS cls)) (by simp [Bundle.passSAtoms])) (bytes := rx) (maxL := 2) (hPa (.code (Bundle.initS cls) rx 2 none) (by simp [Bundle.passSAtoms]))
    (f := g) hg (a := a) (msg := msg) (rest := .ref a :: rest) hstack hd6
  cases Option.some.inj (hnC.symm.trans hm1)
  have X1 := X.noted hW1
  obtain ⟨vm2, X2, st2⟩ := X1.ctorMessageOffV hexec (g := { g with stack := .ref a :: rest }) hg hsize T LT Z LZ M LM (P1 :: P2 :: Ps)
    (fun Q hQ => by
      rcases List.mem_cons.mp hQ with rfl | hQ
      · exact L1
      · rcases List.mem_cons.mp hQ with rfl | hQ
        · exact L2
        · exact hLs Q hQ) ⟨Option.some.inj (hs1.symm.trans hm2), hk2, hks⟩ (u0 := u0) (sen := sen) (self := a) hmsg (cell := freshCell P1.m.cls kX) (cellS := cS')
    hcell (fun _ => by simp) (by simp) rfl rfl s0 sF hcS' hne hknown (by rw [hkeep _ (hfree _)]; exact hu0) (by rw [hkeep _ (hfree _)]; exact hsen)
    (Takes.of_laid hk hord yC (by rw [TY.causeType]; rfl)) (Takes.of_laid hk hord yS (by rw [TY.stackType]; exact fits_refV_array _ u0)) (Takes.of_laid hk hord yP (by rw [TY.suppType]; exact fits_refV_object _ sen))
    (Takes.of_laid hk hord yM (by rw [TY.msgType]; exact fits_refV_object _ ⟨msg, hmsg⟩)) TY.objLocals hskip htr [] hd6
    (by simp only [List.length_cons, hlen]; omega) (by simp only [List.length_cons, hlen]; exact hRl)
  obtain ⟨hwalk, hrun, hend, hWU, hsame⟩ := X2.athrowLeaves hexec (g := { g with stack := .ref a :: rest, pc := g.pc + 3 }) hg hlocked hentered hout (a := a) (rest := rest) rfl hd9
  have hlt : a < ((W.setVm vm1).setVm vm2).heap.size := (Array.getElem?_eq_some_iff.mp hcell).1
  have hU := heapAt_setCell_self (s := (W.setVm vm1).setVm vm2) (plainBareV T.toThrowableT (freshCell P1.m.cls kX) a u0 sen msg) hlt
  refine ⟨_, st1 _ (fun acts => ?_), hrun, hend, hWU, hsame.weaken (fun y hy hlt' => ?_) (Nat.le_refl _) (Nat.le_refl _), _, hU, rfl, hfound⟩
  · rw [doInvoke_state]
    exact st2 _ hwalk
  · rcases List.mem_append.mp hy with q | q
    · exact q
    · exfalso
      have hb : y.base = a := by
        simp only [List.mem_cons, List.not_mem_nil, or_false] at q
        rcases q with rfl | rfl | rfl | rfl | rfl <;> rfl
      rw [hb] at hlt'
      exact Nat.not_lt.mpr hnew hlt'
end XNS

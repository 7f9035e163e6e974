/-! WHAT THE THROWS OF walker NEED OF A STATE -/
def xIO : String := "java/lang/IndexOutOfBoundsException"
def xNS : String := "java/util/NoSuchElementException"
def xat1 : List Cond := vx_atS RX9 129 xIO ["java/lang/RuntimeException", "java/lang/Exception"]
def xat2 : List Cond := xNSf RX9 158 xNS "java/lang/RuntimeException" 13 prog_29_method_4_code ["java/lang/Exception"]
def xisCD (w : Cond) : Bool := match w with
  | .castable _ _ => true
  | .declares _ => true
  | _ => false
def xCDs : List Cond := (xat1 ++ xat2).filter (fun w => !goodWord w)
theorem xat_good : ∀ w ∈ (xat1 ++ xat2).filter goodWord, w ∈ xTB := by
  have h : (((xat1 ++ xat2).filter goodWord).all fun w => decide (w ∈ tables_1 ∨ w ∈ k2_sels lw_privs)) = true := by decide +kernel
  intro w hw
  have h1 := of_decide_eq_true (List.all_eq_true.mp h w hw)
  exact List.mem_filter.mpr ⟨List.mem_append.mpr h1.symm, (List.mem_filter.mp hw).2⟩
theorem xCDs_cd : xCDs.all xisCD = true := by decide +kernel
theorem xCDs_in : ∀ w ∈ xCDs, w ∈ tables_1 := by
  have h : (xCDs.all fun w => decide (w ∈ tables_1)) = true := by decide +kernel
  exact fun w hw => of_decide_eq_true (List.all_eq_true.mp h w hw)
theorem xat1_ot : ∀ w ∈ Cond.classLink RX9 125 xIO :: Cond.initialized xIO :: xat1, vx_ot w = true := by
  have h : ((Cond.classLink RX9 125 xIO :: Cond.initialized xIO :: xat1).all vx_ot) = true := by decide +kernel
  exact fun w hw => List.all_eq_true.mp h w hw
theorem xat2_ot : ∀ w ∈ Cond.classLink RX9 154 xNS :: Cond.initialized xNS :: xat2, vx_ot w = true := by
  have h : ((Cond.classLink RX9 154 xNS :: Cond.initialized xNS :: xat2).all vx_ot) = true := by decide +kernel
  exact fun w hw => List.all_eq_true.mp h w hw
theorem xcd_on {w : Cond} (hw : xisCD w = true) : w.onTables = true := by
  cases w <;> first | rfl | (exact absurd hw Bool.false_ne_true)
theorem xcd_warm {w : Cond} (hw : xisCD w = true) {s U : State} (hW : s.WarmedH U.vm) (h : va_Nw w s) : va_Nw w U := by
  cases w <;> first | exact va_Nw.warmC hW h | exact va_Nw.warmD hW h | (exact absurd hw Bool.false_ne_true)
theorem xCDs_is {w : Cond} (h : w ∈ xCDs) : xisCD w = true := List.all_eq_true.mp xCDs_cd w h
def xE (B0 : Nat) (U : State) : Prop := (∀ w ∈ xCDs, va_Nw w U) ∧ (∃ a, vk_R RX9 127 "no such walker" a U) ∧ (∃ a, vk_R RX9 156 "no such what" a U) ∧ vx_Zq Bundle.tN "UNASSIGNED_STACK" Bundle.steD (fun q => B0 ≤ q) U U.heap ∧ vx_Zq Bundle.tN "SUPPRESSED_SENTINEL" Bundle.listD (fun q => B0 ≤ q) U U.heap ∧ va_Nc xNS xIO U
theorem xE_blind {B0 : Nat} (U : State) (g : JFrame) (mk : MethodId) (a : Array Value) (h : xE B0 U) : xE B0 (U.calling g mk a) := by
  obtain ⟨h1, ⟨x, h2⟩, ⟨y, h3⟩, h4, h5, h6⟩ := h
  exact ⟨fun w hw => va_Nw.same (u := U) (xcd_on (xCDs_is hw)) rfl (h1 w hw), ⟨x, vk_R.same (u := U) rfl h2⟩, ⟨y, vk_R.same (u := U) rfl h3⟩, vx_Zq.moved (u := U) (U := U.calling g mk a) (Vm.Alike.refl U.vm) h4, vx_Zq.moved (u := U) (U := U.calling g mk a) (Vm.Alike.refl U.vm) h5, va_Nc.moved (u := U) (U := U.calling g mk a) (Vm.Alike.refl U.vm) h6⟩
theorem xE_warm {s U : State} (h : xE s.heap.size s) (hW : s.WarmedH U.vm) (hq : ∀ q : Nat, q < s.heap.size → U.heap[q]? = s.heap[q]?) : xE s.heap.size U := by
  obtain ⟨h1, ⟨x, h2⟩, ⟨y, h3⟩, h4, h5, h6⟩ := h
  exact ⟨fun w hw => xcd_warm (xCDs_is hw) hW (h1 w hw), ⟨x, vk_R.warm hW h2⟩, ⟨y, vk_R.warm hW h3⟩, vx_Zq.moved hW.alike (h4.kept (fun a ha _ => hq a ha)), vx_Zq.moved hW.alike (h5.kept (fun a ha _ => hq a ha)), va_Nc.moved hW.alike h6⟩
theorem xR_start {own text : String} {index : Nat} {args : Array Value} {s : State} (w : (Cond.stringRef own index text).before args s = true) : ∃ a, vk_R own index text a s := by
  cases hc : s.vm.findClass own with
  | none => simp [Cond.before, Cond.holds, Cond.value, hc] at w
  | some cc =>
    obtain ⟨k1, cf, i, a, hk, hcf, hp, -, hr, he⟩ := Cond.stringRef_spec hc w
    exact ⟨a, vk_R.of w he⟩
theorem xE_start {s : State} {bs : Nat} (hts : ∀ w ∈ lw_tbl, w.before #[Value.ref bs] s = true) (hgv : (Jvm.Cond.and given_1 narrow_1).before #[Value.ref bs] s = true) : xE s.heap.size s := by
  have hA : ∀ a : Nat, a < s.heap.size → ¬ (fun q => s.heap.size ≤ q) a := fun a h => Nat.not_le.mpr h
  refine ⟨fun w hw => va_Nw.of (xcd_on (xCDs_is hw)) (hts w (List.mem_append_right _ (xCDs_in w hw))), xR_start (lw_at hts 1112 (by decide +kernel)), xR_start (lw_at hts 1147 (by decide +kernel)), ?_, ?_, ?_⟩
  · exact vx_Zqof (lw_at hts 1099 (by decide +kernel)) (lw_at hts 19 (by decide +kernel)) (xfl hgv 9 (by decide +kernel)) hA
  · exact vx_Zqof (lw_at hts 1101 (by decide +kernel)) (lw_at hts 19 (by decide +kernel)) (xfl hgv 10 (by decide +kernel)) hA
  · exact va_Nc.of (xfl hgv 22 (by decide +kernel))
theorem xE_words {B0 : Nat} {U : State} {args : Array Value} (h : xE B0 U) (ht : ∀ w ∈ xTB, w.before args U = true) : ∀ w ∈ xat1 ++ xat2, w.before args U = true :=
  vx_hat (B := xCDs) (fun w hw => ht w (xat_good w hw)) (fun _ hw => hw) (fun w hw => va_Nw.use (xcd_on (xCDs_is hw)) (h.1 w hw))

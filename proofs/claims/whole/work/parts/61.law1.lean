/-! THE LAW over one pure heap: the class at 0, the reference at 99, the row of one long at 139 -/
/-- walker: 0 and its answer, or 1, 2: what it throws -/

def f_X9_walkerX (sh : List xSh) (q0 : Nat) (x1 : Int32) (x2 : Int32) (d : xD) : Option (Int32 × Int32 × xD) :=
  (xgR 9 sh d q0 4).bind fun v1 => (xon 3 sh v1 (f_X3_hasWalker sh v1 x1 d)).bind fun z2 => if z2.1 = 0 then (some ((1 : Int32), (0 : Int32), z2.2)) else (if x2 = (0 : Int32) then ((xgR 9 sh z2.2 q0 8).bind fun v4 => (xgR 4 sh z2.2 v4 5).bind fun v5 => (xaI .int sh z2.2 v5 x1).bind fun v6 => some ((0 : Int32), v6, z2.2)) else (if x2 = (1 : Int32) then ((xgR 9 sh z2.2 q0 8).bind fun v8 => (xgR 4 sh z2.2 v8 6).bind fun v9 => (xaI .int sh z2.2 v9 x1).bind fun v10 => some ((0 : Int32), v10, z2.2)) else (if x2 = (2 : Int32) then ((xgR 9 sh z2.2 q0 8).bind fun v12 => (xgR 4 sh z2.2 v12 7).bind fun v13 => (xaI .int sh z2.2 v13 x1).bind fun v14 => some ((0 : Int32), v14, z2.2)) else (if x2 = (3 : Int32) then ((xgR 9 sh z2.2 q0 8).bind fun v16 => (xgR 4 sh z2.2 v16 8).bind fun v17 => (xaI .int sh z2.2 v17 x1).bind fun v18 => some ((0 : Int32), v18, z2.2)) else (if x2 = (4 : Int32) then ((xgR 9 sh z2.2 q0 8).bind fun v20 => (xgR 4 sh z2.2 v20 9).bind fun v21 => (xaI .int sh z2.2 v21 x1).bind fun v22 => some ((0 : Int32), v22, z2.2)) else (if x2 = (5 : Int32) then ((xgR 9 sh z2.2 q0 8).bind fun v24 => (xgR 4 sh z2.2 v24 10).bind fun v25 => (xaI .int sh z2.2 v25 x1).bind fun v26 => some ((0 : Int32), v26, z2.2)) else (if x2 = (6 : Int32) then ((xgR 9 sh z2.2 q0 8).bind fun v28 => (xgR 4 sh z2.2 v28 11).bind fun v29 => (xaI .int sh z2.2 v29 x1).bind fun v30 => some ((0 : Int32), v30, z2.2)) else (some ((2 : Int32), (0 : Int32), z2.2)))))))))

/-- the law's own walker: what was thrown is told by a number, the answer goes into the row -/
def f_L_walker (sh : List xSh) (q0 : Nat) (x1 : Int32) (x2 : Int32) (q3 : Nat) (d : xD) : Option (Int32 × xD) :=
  (xon 9 sh q0 (f_X9_walkerX sh q0 x1 x2 d)).bind fun z => if z.1 = 0 then ((xsL sh z.2.2 q3 0 (z.2.1).toInt64).bind fun d2 => some ((0 : Int32), d2)) else some (z.1, z.2.2)
def shA : List xSh := sx_X10_init_39 (sx_X9_init_98 [.inl 9] ++ [.inl 10]) ++ [.inr (.long, 1)]
theorem shA_len : shA.length = 140 := by unfold shA; rw [List.length_append, sx_X10_init_39_len, List.length_append, sx_X9_init_98_len]; rfl
theorem shA_0 : shA[0]? = some (.inl 9) := by decide +kernel
theorem shA_99 : shA[99]? = some (.inl 10) := by decide +kernel
theorem shA_139 : shA[139]? = some (.inr (.long, 1)) := by decide +kernel
theorem kw_1065 : (Cond.codeWith ({ cls := "HalfLandingsLaw", name := "walker", desc := "(LHalfLandings;II[J)I" } : MethodName) method_3_code (5 : Nat) (Option.some FieldType.int) [((0 : Nat), (10 : Nat), (13 : Nat), (13 : Nat)), ((0 : Nat), (10 : Nat), (17 : Nat), (15 : Nat))]) ∈ xTB := tb_5 105 (by decide +kernel) (by decide +kernel)
theorem x_cmp (r : Int64) : lg_cmp r r = 0 := by simp [lg_cmp]
-- what the two sides owe one another, call by call (all of it is pure)
def L2_feed (Rel : xD → Prop) : Prop := ∀ (d : xD) (a1 a2 a3 a4 a5 : Int32), Rel d → ∃ (r : Int32) (d1 d2 : xD), f_X9_feed shA 0 a1 a2 a3 a4 a5 d = some (r, d1) ∧ f_X10_feed shA 99 a1 a2 a3 a4 a5 d1 = some (r, d2) ∧ Rel d2
def L2_text (Rel : xD → Prop) : Prop := ∀ (d : xD) (a1 : Int32), Rel d → ∃ (r : Int32) (d1 d2 : xD), f_X9_text shA 0 a1 d = some (r, d1) ∧ f_X10_text shA 99 a1 d1 = some (r, d2) ∧ Rel d2
def L2_fault (Rel : xD → Prop) : Prop := ∀ (d : xD) (a1 : Int32), Rel d → ∃ (r : Int32) (d1 d2 : xD), f_X9_fault shA 0 a1 d = some (r, d1) ∧ f_X10_fault shA 99 a1 d1 = some (r, d2) ∧ Rel d2
def L2_named (Rel : xD → Prop) : Prop := ∀ (d : xD) (a1 a2 : Int32), Rel d → ∃ (r : Int32) (d1 d2 : xD), f_X9_named shA 0 a1 a2 d = some (r, d1) ∧ f_X10_named shA 99 a1 a2 d1 = some (r, d2) ∧ Rel d2
def L2_walker (Rel : xD → Prop) : Prop := ∀ (d : xD) (a1 a2 : Int32), Rel d → ∃ (k r : Int32) (d1 d2 : xD), f_L_walker shA 0 a1 a2 139 d = some (k, d1) ∧ f_X10_walker shA 99 a1 a2 d1 = some (r, d2) ∧ f_X10_thrown shA 99 d2 = some (k, d2) ∧ (k = 0 → xaL shA d2 139 0 = some r.toInt64) ∧ Rel d2
def L2_bench (Rel : xD → Prop) : Prop := ∀ (d : xD) (a1 a2 : Int32), Rel d → ∃ (r : Int32) (d1 d2 : xD), f_X9_bench shA 0 a1 a2 d = some (r, d1) ∧ f_X10_bench shA 99 a1 a2 d1 = some (r, d2) ∧ Rel d2
def L2_restOf (Rel : xD → Prop) : Prop := ∀ (d : xD) (a1 a2 : Int32), Rel d → ∃ (r : Int32) (d1 d2 : xD), f_X9_restOf shA 0 a1 a2 d = some (r, d1) ∧ f_X10_restOf shA 99 a1 a2 d1 = some (r, d2) ∧ Rel d2
def L2_piano (Rel : xD → Prop) : Prop := ∀ (d : xD), Rel d → ∃ (r : Int32) (d1 d2 : xD), f_X9_piano shA 0 d = some (r, d1) ∧ f_X10_piano shA 99 d1 = some (r, d2) ∧ Rel d2
def L2_law (Rel : xD → Prop) : Prop := ∀ (d : xD) (a1 a2 a3 : Int32), Rel d → ∃ (r : Int64) (d1 d2 : xD), f_X9_law shA 0 a1 a2 a3 d = some (r, d1) ∧ f_X10_law shA 99 a1 a2 a3 d1 = some (r, d2) ∧ Rel d2
def L2_sit (Rel : xD → Prop) : Prop := ∀ (d : xD) (a1 a2 : Int32), Rel d → ∃ (r : Int32) (d1 d2 : xD), f_X9_sit shA 0 a1 a2 d = some (r, d1) ∧ f_X10_sit shA 99 a1 a2 d1 = some (r, d2) ∧ Rel d2
def L2_rise (Rel : xD → Prop) : Prop := ∀ (d : xD) (a1 : Int32), Rel d → ∃ (r : Int32) (d1 d2 : xD), f_X9_rise shA 0 a1 d = some (r, d1) ∧ f_X10_rise shA 99 a1 d1 = some (r, d2) ∧ Rel d2
def L2_push (Rel : xD → Prop) : Prop := ∀ (d : xD) (a1 : Int32), Rel d → ∃ (r : Int32) (d1 d2 : xD), f_X9_push shA 0 a1 d = some (r, d1) ∧ f_X10_push shA 99 a1 d1 = some (r, d2) ∧ Rel d2
def L2_go (Rel : xD → Prop) : Prop := ∀ (d : xD) (a1 : Int32), Rel d → ∃ (r : Int32) (d1 d2 : xD), f_X9_go shA 0 a1 d = some (r, d1) ∧ f_X10_go shA 99 a1 d1 = some (r, d2) ∧ Rel d2
def L2_ahead (Rel : xD → Prop) : Prop := ∀ (d : xD) (a1 a2 a3 : Int32), Rel d → ∃ (r : Int32) (d1 d2 : xD), f_X9_ahead shA 0 a1 a2 a3 d = some (r, d1) ∧ f_X10_ahead shA 99 a1 a2 a3 d1 = some (r, d2) ∧ Rel d2
def L2_meet (Rel : xD → Prop) : Prop := ∀ (d : xD) (a1 a2 : Int32), Rel d → ∃ (r : Int32) (d1 d2 : xD), f_X9_meet shA 0 a1 a2 d = some (r, d1) ∧ f_X10_meet shA 99 a1 a2 d1 = some (r, d2) ∧ Rel d2
def L2_pass (Rel : xD → Prop) : Prop := ∀ (d : xD) (a1 a2 : Int32), Rel d → ∃ (r : Int32) (d1 d2 : xD), f_X9_pass shA 0 a1 a2 d = some (r, d1) ∧ f_X10_pass shA 99 a1 a2 d1 = some (r, d2) ∧ Rel d2
def L2_out (Rel : xD → Prop) : Prop := ∀ (d : xD) (a1 : Int32), Rel d → ∃ (r : Int32) (d1 d2 : xD), f_X9_out shA 0 a1 d = some (r, d1) ∧ f_X10_out shA 99 a1 d1 = some (r, d2) ∧ Rel d2
def L2_best (Rel : xD → Prop) : Prop := ∀ (d : xD) (a1 a2 a3 : Int32), Rel d → ∃ (r : Int32) (d1 d2 : xD), f_X9_best shA 0 a1 a2 a3 d = some (r, d1) ∧ f_X10_best shA 99 a1 a2 a3 d1 = some (r, d2) ∧ Rel d2
def L2_cover (Rel : xD → Prop) : Prop := ∀ (d : xD) (a1 : Int32), Rel d → ∃ (r : Int32) (d1 d2 : xD), f_X9_cover shA 0 a1 d = some (r, d1) ∧ f_X10_cover shA 99 a1 d1 = some (r, d2) ∧ Rel d2
def L2_carry (Rel : xD → Prop) : Prop := ∀ (d : xD), Rel d → ∃ (r : Int32) (d1 d2 : xD), f_X9_carry shA 0 d = some (r, d1) ∧ f_X10_carry shA 99 d1 = some (r, d2) ∧ Rel d2
def L2_rests (Rel : xD → Prop) : Prop := ∀ (d : xD) (a1 a2 : Int32), Rel d → ∃ (r : Int32) (d1 d2 : xD), f_X9_rests shA 0 a1 a2 d = some (r, d1) ∧ f_X10_rests shA 99 a1 a2 d1 = some (r, d2) ∧ Rel d2
def L2_rest (Rel : xD → Prop) : Prop := ∀ (d : xD) (a1 a2 a3 : Int32), Rel d → ∃ (r : Int32) (d1 d2 : xD), f_X9_rest shA 0 a1 a2 a3 d = some (r, d1) ∧ f_X10_rest shA 99 a1 a2 a3 d1 = some (r, d2) ∧ Rel d2
def L2_quiet (Rel : xD → Prop) : Prop := ∀ (d : xD) (a1 a2 : Int32), Rel d → ∃ (r : Int64) (d1 d2 : xD), f_X9_quiet shA 0 a1 a2 d = some (r, d1) ∧ f_X10_quiet shA 99 a1 a2 d1 = some (r, d2) ∧ Rel d2
def L2_see (Rel : xD → Prop) : Prop := ∀ (d : xD) (a1 a2 a3 a4 : Int32), (a4 = 0 ∨ a4 = 1) → Rel d → ∃ (r : Int32) (d1 d2 : xD), f_X9_see shA 0 a1 a2 a3 a4 d = some (r, d1) ∧ f_X10_see shA 99 a1 a2 a3 a4 d1 = some (r, d2) ∧ Rel d2
def L2_strike (Rel : xD → Prop) : Prop := ∀ (d : xD) (a1 : Int32), Rel d → ∃ (r : Int32) (d1 d2 : xD), f_X9_strike shA 0 a1 d = some (r, d1) ∧ f_X10_strike shA 99 a1 d1 = some (r, d2) ∧ Rel d2
def L2_known (Rel : xD → Prop) : Prop := ∀ (d : xD) (a1 : Int32), Rel d → ∃ (r : Int32) (d1 d2 : xD), f_X9_known shA 0 a1 d = some (r, d1) ∧ f_X10_known shA 99 a1 d1 = some (r, d2) ∧ Rel d2
def L2_paces (Rel : xD → Prop) : Prop := ∀ (d : xD) (a1 : Int32), Rel d → ∃ (r : Int32) (d1 d2 : xD), f_X9_paces shA 0 a1 d = some (r, d1) ∧ f_X10_paces shA 99 a1 d1 = some (r, d2) ∧ Rel d2
def L2_chance (Rel : xD → Prop) : Prop := ∀ (d : xD) (a1 a2 a3 : Int32), Rel d → ∃ (r : Int32) (d1 d2 : xD), f_X9_chance shA 0 a1 a2 a3 d = some (r, d1) ∧ f_X10_chance shA 99 a1 a2 a3 d1 = some (r, d2) ∧ Rel d2
def L2_tried (Rel : xD → Prop) : Prop := ∀ (d : xD) (a1 a2 a3 : Int32), Rel d → ∃ (r : Int32) (d1 d2 : xD), f_X9_tried shA 0 a1 a2 a3 d = some (r, d1) ∧ f_X10_tried shA 99 a1 a2 a3 d1 = some (r, d2) ∧ Rel d2
def L2_undo (Rel : xD → Prop) : Prop := ∀ (d : xD), Rel d → ∃ (r : Int32) (d1 d2 : xD), f_X9_undo shA 0 d = some (r, d1) ∧ f_X10_undo shA 99 d1 = some (r, d2) ∧ Rel d2
def L2_keep (Rel : xD → Prop) : Prop := ∀ (d : xD), Rel d → ∃ (r : Int32) (d1 d2 : xD), f_X9_keep shA 0 d = some (r, d1) ∧ f_X10_keep shA 99 d1 = some (r, d2) ∧ Rel d2
def L2_back (Rel : xD → Prop) : Prop := ∀ (d : xD), Rel d → ∃ (r : Int32) (d1 d2 : xD), f_X9_back shA 0 d = some (r, d1) ∧ f_X10_back shA 99 d1 = some (r, d2) ∧ Rel d2
def L2_count (Rel : xD → Prop) : Prop := ∀ (d : xD) (a1 : Int32), Rel d → ∃ (r : Int32) (d1 d2 : xD), f_X9_count shA 0 a1 d = some (r, d1) ∧ f_X10_count shA 99 a1 d1 = some (r, d2) ∧ Rel d2
def L2_init (Rel : xD → Prop) : Prop := ∃ d1 d2 : xD, f_X9_init [.inl 9] 0 xZD = some d1 ∧ f_X10_init (sx_X9_init_98 [.inl 9] ++ [.inl 10]) 99 (xnw d1 99) = some d2 ∧ Rel (xnw d2 139)
def xL2 (Rel : xD → Prop) : Prop := L2_init Rel ∧ L2_feed Rel ∧ L2_text Rel ∧ L2_fault Rel ∧ L2_named Rel ∧ L2_walker Rel ∧ L2_bench Rel ∧ L2_restOf Rel ∧ L2_piano Rel ∧ L2_law Rel ∧ L2_sit Rel ∧ L2_rise Rel ∧ L2_push Rel ∧ L2_go Rel ∧ L2_ahead Rel ∧ L2_meet Rel ∧ L2_pass Rel ∧ L2_out Rel ∧ L2_best Rel ∧ L2_cover Rel ∧ L2_carry Rel ∧ L2_rests Rel ∧ L2_rest Rel ∧ L2_quiet Rel ∧ L2_see Rel ∧ L2_strike Rel ∧ L2_known Rel ∧ L2_paces Rel ∧ L2_chance Rel ∧ L2_tried Rel ∧ L2_undo Rel ∧ L2_keep Rel ∧ L2_back Rel ∧ L2_count Rel

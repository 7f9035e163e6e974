/-! THE CLAIM OUT OF ONE WALK OF THE LAW'S BODY. Your part is whole_start (and what it stands on); all else here is the same for every law, but numbers. -/
def R_law : String := "HalfLandingsLaw"
def lw_P (b : Addr) (xs : List Int32) (args : Array Value) (s : State) : Prop := args = #[.ref b] ∧ s.IntsAt b xs ∧ xs.length ≤ 3072 ∧ (Jvm.Cond.and given_1 narrow_1).before args s = true
def lw_Q (_ : Array Value) (s : State) (o : Outcome) (t : State) : Prop := o = .returned (some (.int 1)) ∧ Framed s o t [] 601024 7293034
def lw_Z (below : List Frame) (a : Array Value) (s : State) : State → Prop := fun t => ∃ o, t.status = .running ∧ Ended t below o ∧ lw_Q a s o t
/-- the law's own end, with 1 on the stack, nothing written that was there before, its room as the claim has it -/
theorem lw_ret {p : Program} {l : Launch} {e : Env} {s : State} {m : MethodId} {below : List Frame} {meth : Method} {c : Code} {b : Nat} (hx : p.tables.exec = Jvm.exec) (hb : c.code = code) (hr : meth.sig.returnType = ret) (hlocks : meth.locks = false) {pc : Nat} {H : Heap} {ls : Array Slot} (hdg : decode code pc = .ok (.ireturn, 1)) : W p l e room_1 s m #[Value.ref b] below meth c H [] 601024 7293034 (lw_Z below #[Value.ref b] s) (F0 m pc ls [.int 1]) := by
  intro T hT X
  obtain ⟨fs, hret, hrun, hended, hW, hframe⟩ := X.leave (v := some (.int 1)) (hlocks := hlocks) (fun h => by rw [hr] at h; cases h)
  have hmeth' : T.vm.method? m = some meth := X.method'
  refine ⟨T.setFrames fs, ?_, .returned (some (.int 1)), hrun, hended, rfl, ⟨_, rfl⟩, hW, hframe⟩
  jvm_step X.here [X.here.top, hx, hb, hdg, hmeth', hr, ret, narrow_b1]
  (try refine ⟨rfl, ?_⟩); (try refine ⟨rfl, ?_⟩)
  first | (intro acts; rw [hret _ acts rfl rfl rfl]) | rw [hret _ _ rfl rfl rfl]
  exact Steps.refl _
/-- what holds at the law's entry: the machine, the code, the tables' words (any of lw_tbl by 'hts w (by decide +kernel)'), the script of L ints xs at the cell b, what the Statement gives of the start (any of its parts by flat_of_before) -/
def lw_At (p : Program) (s : State) (m : MethodId) (meth : Method) (c : Code) (b L : Nat) (xs : Nat → Int32) : Prop :=
  p.tables.exec = Jvm.exec ∧ c.code = code ∧ meth.sig.returnType = ret ∧ c.maxLocals = 7 ∧ s.vm.findClass R_law = some m.cls ∧ (∀ w ∈ lw_tbl, w.before #[Value.ref b] s = true) ∧ va_X b L xs s s.heap ∧ b < s.heap.size ∧ meth.locks = false ∧ (Jvm.Cond.and given_1 narrow_1).before #[Value.ref b] s = true
def xPcX (E : State → Prop) (D : va_G) (cid : FieldType → ClassId) (b : Nat) (sa sv B0 sz : Nat) (sh : List xSh) (d : xD) (av : List Value) : Array Value → State → Prop := va_Pc av (fun U => U.heap.size = sz ∧ xB D cid b false (fun _ => True) sh d U ∧ xstr sa sv B0 U ∧ B0 ≤ b ∧ E U)
abbrev xwsW : List Cond := Cond.codeWith yL_walker cL_walker 5 (some .int) [(0, 10, 13, 13), (0, 10, 17, 15)] :: xTB
/-- the law's walker, as a contract -/
def xMetW (E : State → Prop) (l : Launch) (D : va_G) (cid : FieldType → ClassId) (b sa sv B0 : Nat) (av : List Value) (sh : List xSh) (d : xD) (o : Option Value) (d' : xD) : Prop :=
  ∀ sz : Nat, Met l yL_walker xwsW (xRm 7 1 6) (xPcX E D cid b sa sv B0 sz sh d av) (xQ D cid b false (va_A (xw cid b sh d) sz) o sh d') 1 6 (va_A (xw cid b sh d) sz)
section XLA
variable {p : Program} {l : Launch} {e : Env} {R : Room} {s : State} {m : MethodId} {args : Array Value} {below : List Frame} {meth : Method} {c : Code} {H : Heap} {locs : List Loc} {cells slots : Nat} {Q : State → Prop}
variable {cc : ByteArray} {pc nL : Nat} {ls : Array Slot} {rest : List Value} {D : va_G} {cid : FieldType → ClassId} {b : Nat} {A : Nat → Prop} {sh : List xSh} {d d' : xD} {own : String} {n0 sa sv B0 : Nat}
theorem xr_callW {E : State → Prop} {index : Nat} {o : Option Value} {st0 As st1 : List Value} (S : xM p s m args meth c cc nL own D cid A b false n0 sa sv B0) (G : xG D cid b A sh d s H locs) (hl : ls.size = nL)
    (hbl : ∀ (U : State) (g : JFrame) (mk : MethodId) (a : Array Value), E U → E (U.calling g mk a)) (hE : ∀ U : State, U.heap = H → s.WarmedH U.vm → E U)
    (hM : xMetW E l D cid b sa sv B0 As sh d o d') (h1 : Cond.methodLink own index yL_walker ∈ xTB) (h2 : Cond.static yL_walker ∈ xTB) (h4 : Cond.initialized yL_walker.cls ∈ xTB)
    (hR : 8 ≤ R.frames ∧ 304 ≤ R.locals) (hAs : As.length = 4) (hst1 : o.toList ++ rest = st1) (hst : st0 = As.reverse ++ rest) (hW : (rest.map fun v => v.category).sum ≤ 8) (hf : cells + 1 ≤ R.cells ∧ slots + 6 ≤ R.slots) (hdg : decode cc pc = .ok (.invokestatic index, 3))
    (kk : ∀ (H : Heap) (locs : List Loc), xG D cid b A sh d' s H locs → W p l e R s m args below meth c H locs (cells + 1) (slots + 6) Q (F0 m (pc + 3) ls st1)) : W p l e R s m args below meth c H locs cells slots Q (F0 m pc ls st0) := by
  subst hst1
  have hg : GoodIn xTB xwsW := fun w hw => x_good ((List.mem_cons.mp hw).elim (fun e => by rw [e]; exact kw_1065) id)
  refine xr_run S G (vx_runSW (Ts := xTB) (hh := [(0, 10, 13, 13), (0, 10, 17, 15)]) ⟨S.1, S.2.1, S.2.2.1, S.2.2.2.1, S.2.2.2.2.1⟩ (hM H.size) (vx_cwSW 4 S.2.2.2.2.1 (x_goodS hg h1 h2 h4) rfl rfl rfl (by decide +kernel) ⟨hR.1, by have := hR.2; show 8 + (5 + 11) + 280 ≤ _; omega⟩) ⟨?_, ?_⟩ rfl hAs hl hst (by show 2 * 0 + _ ≤ 8; omega) hdg hf) kk
  · intro a U g mk q
    obtain ⟨q0, q1, ⟨qP, qD, qe, qK⟩, qS, qb, qE⟩ := q
    exact ⟨q0, q1, ⟨qP, qD, qe, va_K.moved (u := U) (U := U.calling g mk a) (Vm.Alike.refl U.vm) qK⟩, xstr_blind g mk a qS, qb, hbl U g mk a qE⟩
  · intro U hU hW
    obtain ⟨q0, q1, q2, q3, q4⟩ := xr_preE S G (fun h => by cases h) As U hU hW
    exact ⟨q0, q1, q2, q3, q4, hE U hU hW⟩
end XLA
theorem x_sub6 {L i : Nat} (hL : L ≤ 3072) (hi : i ≤ L) (h : ¬ nI L - 6 < nI i) : i + 6 ≤ L := by
  have h1 : (nI L - 6).toInt = (L : Int) - 6 := pk_sub_toInt (a := L) (b := 6) (by omega) (by omega)
  have h2 : (nI i).toInt = (i : Int) := nI_toInt (by omega)
  have h3 : ¬ (nI L - 6).toInt < (nI i).toInt := fun q => h (Int32.lt_iff_toInt_lt.mpr q)
  rw [h1, h2] at h3
  omega
theorem x_vp {L i k : Nat} (hL : L ≤ 3072) (h : i + k < L) {kk : Int32} (hk : kk = nI k) : vp_in (nI i + kk) L := by
  rw [hk, nI_add]; exact vp_in_nI h (by omega)

theorem dL_law_0 : decode cL_law 0 = .ok (.new 8, 3) := by decide +kernel
theorem dL_law_3 : decode cL_law 3 = .ok (.dup, 1) := by decide +kernel
theorem dL_law_4 : decode cL_law 4 = .ok (.invokespecial 17, 3) := by decide +kernel
theorem dL_law_7 : decode cL_law 7 = .ok (.astore_n 1, 1) := by decide +kernel
theorem dL_law_8 : decode cL_law 8 = .ok (.new 18, 3) := by decide +kernel
theorem dL_law_11 : decode cL_law 11 = .ok (.dup, 1) := by decide +kernel
theorem dL_law_12 : decode cL_law 12 = .ok (.invokespecial 20, 3) := by decide +kernel
theorem dL_law_15 : decode cL_law 15 = .ok (.astore_n 2, 1) := by decide +kernel
theorem dL_law_16 : decode cL_law 16 = .ok (.iconst 1, 1) := by decide +kernel
theorem dL_law_17 : decode cL_law 17 = .ok (.newarray .long, 2) := by decide +kernel
theorem dL_law_19 : decode cL_law 19 = .ok (.astore_n 3, 1) := by decide +kernel
theorem dL_law_20 : decode cL_law 20 = .ok (.iconst 0, 1) := by decide +kernel
theorem dL_law_21 : decode cL_law 21 = .ok (.istore 4, 2) := by decide +kernel
theorem dL_law_23 : decode cL_law 23 = .ok (.iload 4, 2) := by decide +kernel
theorem dL_law_25 : decode cL_law 25 = .ok (.aload_n 0, 1) := by decide +kernel
theorem dL_law_26 : decode cL_law 26 = .ok (.arraylength, 1) := by decide +kernel
theorem dL_law_27 : decode cL_law 27 = .ok (.bipush 6, 2) := by decide +kernel
theorem dL_law_29 : decode cL_law 29 = .ok (.isub, 1) := by decide +kernel
theorem dL_law_30 : decode cL_law 30 = .ok (.if_icmp .gt 1314, 3) := by decide +kernel
theorem dL_law_33 : decode cL_law 33 = .ok (.aload_n 0, 1) := by decide +kernel
theorem dL_law_34 : decode cL_law 34 = .ok (.iload 4, 2) := by decide +kernel
theorem dL_law_36 : decode cL_law 36 = .ok (.iaload, 1) := by decide +kernel
theorem dL_law_37 : decode cL_law 37 = .ok (.bipush 63, 2) := by decide +kernel
theorem dL_law_39 : decode cL_law 39 = .ok (.iand, 1) := by decide +kernel
theorem dL_law_40 : decode cL_law 40 = .ok (.tableswitch 1298 0 32 #[148, 221, 246, 271, 308, 376, 413, 450, 463, 513, 550, 575, 600, 625, 674, 711, 748, 773, 822, 847, 860, 897, 946, 984, 1061, 1086, 1111, 1136, 1185, 1234, 1247, 1260, 1273], 148) := by decide +kernel
theorem dL_law_188 : decode cL_law 188 = .ok (.aload_n 1, 1) := by decide +kernel
theorem dL_law_189 : decode cL_law 189 = .ok (.aload_n 0, 1) := by decide +kernel
theorem dL_law_190 : decode cL_law 190 = .ok (.iload 4, 2) := by decide +kernel
theorem dL_law_192 : decode cL_law 192 = .ok (.iconst 1, 1) := by decide +kernel
theorem dL_law_193 : decode cL_law 193 = .ok (.iadd, 1) := by decide +kernel
theorem dL_law_194 : decode cL_law 194 = .ok (.iaload, 1) := by decide +kernel
theorem dL_law_195 : decode cL_law 195 = .ok (.aload_n 0, 1) := by decide +kernel
theorem dL_law_196 : decode cL_law 196 = .ok (.iload 4, 2) := by decide +kernel
theorem dL_law_198 : decode cL_law 198 = .ok (.iconst 2, 1) := by decide +kernel
theorem dL_law_199 : decode cL_law 199 = .ok (.iadd, 1) := by decide +kernel
theorem dL_law_200 : decode cL_law 200 = .ok (.iaload, 1) := by decide +kernel
theorem dL_law_201 : decode cL_law 201 = .ok (.aload_n 0, 1) := by decide +kernel
theorem dL_law_202 : decode cL_law 202 = .ok (.iload 4, 2) := by decide +kernel
theorem dL_law_204 : decode cL_law 204 = .ok (.iconst 3, 1) := by decide +kernel
theorem dL_law_205 : decode cL_law 205 = .ok (.iadd, 1) := by decide +kernel
theorem dL_law_206 : decode cL_law 206 = .ok (.iaload, 1) := by decide +kernel
theorem dL_law_207 : decode cL_law 207 = .ok (.aload_n 0, 1) := by decide +kernel
theorem dL_law_208 : decode cL_law 208 = .ok (.iload 4, 2) := by decide +kernel
theorem dL_law_210 : decode cL_law 210 = .ok (.iconst 4, 1) := by decide +kernel
theorem dL_law_211 : decode cL_law 211 = .ok (.iadd, 1) := by decide +kernel
theorem dL_law_212 : decode cL_law 212 = .ok (.iaload, 1) := by decide +kernel
theorem dL_law_213 : decode cL_law 213 = .ok (.aload_n 0, 1) := by decide +kernel
theorem dL_law_214 : decode cL_law 214 = .ok (.iload 4, 2) := by decide +kernel
theorem dL_law_216 : decode cL_law 216 = .ok (.iconst 5, 1) := by decide +kernel
theorem dL_law_217 : decode cL_law 217 = .ok (.iadd, 1) := by decide +kernel
theorem dL_law_218 : decode cL_law 218 = .ok (.iaload, 1) := by decide +kernel
theorem dL_law_219 : decode cL_law 219 = .ok (.invokevirtual 21, 3) := by decide +kernel
theorem dL_law_222 : decode cL_law 222 = .ok (.aload_n 2, 1) := by decide +kernel
theorem dL_law_223 : decode cL_law 223 = .ok (.aload_n 0, 1) := by decide +kernel
theorem dL_law_224 : decode cL_law 224 = .ok (.iload 4, 2) := by decide +kernel
theorem dL_law_226 : decode cL_law 226 = .ok (.iconst 1, 1) := by decide +kernel
theorem dL_law_227 : decode cL_law 227 = .ok (.iadd, 1) := by decide +kernel
theorem dL_law_228 : decode cL_law 228 = .ok (.iaload, 1) := by decide +kernel
theorem dL_law_229 : decode cL_law 229 = .ok (.aload_n 0, 1) := by decide +kernel
theorem dL_law_230 : decode cL_law 230 = .ok (.iload 4, 2) := by decide +kernel
theorem dL_law_232 : decode cL_law 232 = .ok (.iconst 2, 1) := by decide +kernel
theorem dL_law_233 : decode cL_law 233 = .ok (.iadd, 1) := by decide +kernel
theorem dL_law_234 : decode cL_law 234 = .ok (.iaload, 1) := by decide +kernel
theorem dL_law_235 : decode cL_law 235 = .ok (.aload_n 0, 1) := by decide +kernel
theorem dL_law_236 : decode cL_law 236 = .ok (.iload 4, 2) := by decide +kernel
theorem dL_law_238 : decode cL_law 238 = .ok (.iconst 3, 1) := by decide +kernel
theorem dL_law_239 : decode cL_law 239 = .ok (.iadd, 1) := by decide +kernel
theorem dL_law_240 : decode cL_law 240 = .ok (.iaload, 1) := by decide +kernel
theorem dL_law_241 : decode cL_law 241 = .ok (.aload_n 0, 1) := by decide +kernel
theorem dL_law_242 : decode cL_law 242 = .ok (.iload 4, 2) := by decide +kernel
theorem dL_law_244 : decode cL_law 244 = .ok (.iconst 4, 1) := by decide +kernel
theorem dL_law_245 : decode cL_law 245 = .ok (.iadd, 1) := by decide +kernel
theorem dL_law_246 : decode cL_law 246 = .ok (.iaload, 1) := by decide +kernel
theorem dL_law_247 : decode cL_law 247 = .ok (.aload_n 0, 1) := by decide +kernel
theorem dL_law_248 : decode cL_law 248 = .ok (.iload 4, 2) := by decide +kernel
theorem dL_law_250 : decode cL_law 250 = .ok (.iconst 5, 1) := by decide +kernel
theorem dL_law_251 : decode cL_law 251 = .ok (.iadd, 1) := by decide +kernel
theorem dL_law_252 : decode cL_law 252 = .ok (.iaload, 1) := by decide +kernel
theorem dL_law_253 : decode cL_law 253 = .ok (.invokevirtual 25, 3) := by decide +kernel
theorem dL_law_256 : decode cL_law 256 = .ok (.if_icmp .eq 1082, 3) := by decide +kernel
theorem dL_law_259 : decode cL_law 259 = .ok (.iconst 0, 1) := by decide +kernel
theorem dL_law_260 : decode cL_law 260 = .ok (.ireturn, 1) := by decide +kernel
theorem dL_law_261 : decode cL_law 261 = .ok (.aload_n 1, 1) := by decide +kernel
theorem dL_law_262 : decode cL_law 262 = .ok (.aload_n 0, 1) := by decide +kernel
theorem dL_law_263 : decode cL_law 263 = .ok (.iload 4, 2) := by decide +kernel
theorem dL_law_265 : decode cL_law 265 = .ok (.iconst 1, 1) := by decide +kernel
theorem dL_law_266 : decode cL_law 266 = .ok (.iadd, 1) := by decide +kernel
theorem dL_law_267 : decode cL_law 267 = .ok (.iaload, 1) := by decide +kernel
theorem dL_law_268 : decode cL_law 268 = .ok (.invokevirtual 26, 3) := by decide +kernel
theorem dL_law_271 : decode cL_law 271 = .ok (.aload_n 2, 1) := by decide +kernel
theorem dL_law_272 : decode cL_law 272 = .ok (.aload_n 0, 1) := by decide +kernel
theorem dL_law_273 : decode cL_law 273 = .ok (.iload 4, 2) := by decide +kernel
theorem dL_law_275 : decode cL_law 275 = .ok (.iconst 1, 1) := by decide +kernel
theorem dL_law_276 : decode cL_law 276 = .ok (.iadd, 1) := by decide +kernel
theorem dL_law_277 : decode cL_law 277 = .ok (.iaload, 1) := by decide +kernel
theorem dL_law_278 : decode cL_law 278 = .ok (.invokevirtual 30, 3) := by decide +kernel
theorem dL_law_281 : decode cL_law 281 = .ok (.if_icmp .eq 1057, 3) := by decide +kernel
theorem dL_law_284 : decode cL_law 284 = .ok (.iconst 0, 1) := by decide +kernel
theorem dL_law_285 : decode cL_law 285 = .ok (.ireturn, 1) := by decide +kernel
theorem dL_law_286 : decode cL_law 286 = .ok (.aload_n 1, 1) := by decide +kernel
theorem dL_law_287 : decode cL_law 287 = .ok (.aload_n 0, 1) := by decide +kernel
theorem dL_law_288 : decode cL_law 288 = .ok (.iload 4, 2) := by decide +kernel
theorem dL_law_290 : decode cL_law 290 = .ok (.iconst 1, 1) := by decide +kernel
theorem dL_law_291 : decode cL_law 291 = .ok (.iadd, 1) := by decide +kernel
theorem dL_law_292 : decode cL_law 292 = .ok (.iaload, 1) := by decide +kernel
theorem dL_law_293 : decode cL_law 293 = .ok (.invokevirtual 31, 3) := by decide +kernel
theorem dL_law_296 : decode cL_law 296 = .ok (.aload_n 2, 1) := by decide +kernel
theorem dL_law_297 : decode cL_law 297 = .ok (.aload_n 0, 1) := by decide +kernel
theorem dL_law_298 : decode cL_law 298 = .ok (.iload 4, 2) := by decide +kernel
theorem dL_law_300 : decode cL_law 300 = .ok (.iconst 1, 1) := by decide +kernel
theorem dL_law_301 : decode cL_law 301 = .ok (.iadd, 1) := by decide +kernel
theorem dL_law_302 : decode cL_law 302 = .ok (.iaload, 1) := by decide +kernel
theorem dL_law_303 : decode cL_law 303 = .ok (.invokevirtual 34, 3) := by decide +kernel
theorem dL_law_306 : decode cL_law 306 = .ok (.if_icmp .eq 1032, 3) := by decide +kernel
theorem dL_law_309 : decode cL_law 309 = .ok (.iconst 0, 1) := by decide +kernel
theorem dL_law_310 : decode cL_law 310 = .ok (.ireturn, 1) := by decide +kernel
theorem dL_law_311 : decode cL_law 311 = .ok (.aload_n 1, 1) := by decide +kernel
theorem dL_law_312 : decode cL_law 312 = .ok (.aload_n 0, 1) := by decide +kernel
theorem dL_law_313 : decode cL_law 313 = .ok (.iload 4, 2) := by decide +kernel
theorem dL_law_315 : decode cL_law 315 = .ok (.iconst 1, 1) := by decide +kernel
theorem dL_law_316 : decode cL_law 316 = .ok (.iadd, 1) := by decide +kernel
theorem dL_law_317 : decode cL_law 317 = .ok (.iaload, 1) := by decide +kernel
theorem dL_law_318 : decode cL_law 318 = .ok (.aload_n 0, 1) := by decide +kernel
theorem dL_law_319 : decode cL_law 319 = .ok (.iload 4, 2) := by decide +kernel
theorem dL_law_321 : decode cL_law 321 = .ok (.iconst 2, 1) := by decide +kernel
theorem dL_law_322 : decode cL_law 322 = .ok (.iadd, 1) := by decide +kernel
theorem dL_law_323 : decode cL_law 323 = .ok (.iaload, 1) := by decide +kernel
theorem dL_law_324 : decode cL_law 324 = .ok (.invokevirtual 35, 3) := by decide +kernel
theorem dL_law_327 : decode cL_law 327 = .ok (.aload_n 2, 1) := by decide +kernel
theorem dL_law_328 : decode cL_law 328 = .ok (.aload_n 0, 1) := by decide +kernel
theorem dL_law_329 : decode cL_law 329 = .ok (.iload 4, 2) := by decide +kernel
theorem dL_law_331 : decode cL_law 331 = .ok (.iconst 1, 1) := by decide +kernel
theorem dL_law_332 : decode cL_law 332 = .ok (.iadd, 1) := by decide +kernel
theorem dL_law_333 : decode cL_law 333 = .ok (.iaload, 1) := by decide +kernel
theorem dL_law_334 : decode cL_law 334 = .ok (.aload_n 0, 1) := by decide +kernel
theorem dL_law_335 : decode cL_law 335 = .ok (.iload 4, 2) := by decide +kernel
theorem dL_law_337 : decode cL_law 337 = .ok (.iconst 2, 1) := by decide +kernel
theorem dL_law_338 : decode cL_law 338 = .ok (.iadd, 1) := by decide +kernel
theorem dL_law_339 : decode cL_law 339 = .ok (.iaload, 1) := by decide +kernel
theorem dL_law_340 : decode cL_law 340 = .ok (.invokevirtual 38, 3) := by decide +kernel
theorem dL_law_343 : decode cL_law 343 = .ok (.if_icmp .eq 995, 3) := by decide +kernel
theorem dL_law_346 : decode cL_law 346 = .ok (.iconst 0, 1) := by decide +kernel
theorem dL_law_347 : decode cL_law 347 = .ok (.ireturn, 1) := by decide +kernel
theorem dL_law_348 : decode cL_law 348 = .ok (.aload_n 1, 1) := by decide +kernel
theorem dL_law_349 : decode cL_law 349 = .ok (.aload_n 0, 1) := by decide +kernel
theorem dL_law_350 : decode cL_law 350 = .ok (.iload 4, 2) := by decide +kernel
theorem dL_law_352 : decode cL_law 352 = .ok (.iconst 1, 1) := by decide +kernel
theorem dL_law_353 : decode cL_law 353 = .ok (.iadd, 1) := by decide +kernel
theorem dL_law_354 : decode cL_law 354 = .ok (.iaload, 1) := by decide +kernel
theorem dL_law_355 : decode cL_law 355 = .ok (.aload_n 0, 1) := by decide +kernel
theorem dL_law_356 : decode cL_law 356 = .ok (.iload 4, 2) := by decide +kernel
theorem dL_law_358 : decode cL_law 358 = .ok (.iconst 2, 1) := by decide +kernel
theorem dL_law_359 : decode cL_law 359 = .ok (.iadd, 1) := by decide +kernel
theorem dL_law_360 : decode cL_law 360 = .ok (.iaload, 1) := by decide +kernel
theorem dL_law_361 : decode cL_law 361 = .ok (.aload_n 3, 1) := by decide +kernel
theorem dL_law_362 : decode cL_law 362 = .ok (.invokestatic 39, 3) := by decide +kernel
theorem dL_law_365 : decode cL_law 365 = .ok (.istore 5, 2) := by decide +kernel
theorem dL_law_367 : decode cL_law 367 = .ok (.aload_n 2, 1) := by decide +kernel
theorem dL_law_368 : decode cL_law 368 = .ok (.aload_n 0, 1) := by decide +kernel
theorem dL_law_369 : decode cL_law 369 = .ok (.iload 4, 2) := by decide +kernel
theorem dL_law_371 : decode cL_law 371 = .ok (.iconst 1, 1) := by decide +kernel
theorem dL_law_372 : decode cL_law 372 = .ok (.iadd, 1) := by decide +kernel
theorem dL_law_373 : decode cL_law 373 = .ok (.iaload, 1) := by decide +kernel
theorem dL_law_374 : decode cL_law 374 = .ok (.aload_n 0, 1) := by decide +kernel
theorem dL_law_375 : decode cL_law 375 = .ok (.iload 4, 2) := by decide +kernel
theorem dL_law_377 : decode cL_law 377 = .ok (.iconst 2, 1) := by decide +kernel
theorem dL_law_378 : decode cL_law 378 = .ok (.iadd, 1) := by decide +kernel
theorem dL_law_379 : decode cL_law 379 = .ok (.iaload, 1) := by decide +kernel
theorem dL_law_380 : decode cL_law 380 = .ok (.invokevirtual 44, 3) := by decide +kernel
theorem dL_law_383 : decode cL_law 383 = .ok (.istore 6, 2) := by decide +kernel
theorem dL_law_385 : decode cL_law 385 = .ok (.aload_n 2, 1) := by decide +kernel
theorem dL_law_386 : decode cL_law 386 = .ok (.invokevirtual 45, 3) := by decide +kernel
theorem dL_law_389 : decode cL_law 389 = .ok (.iload 5, 2) := by decide +kernel
theorem dL_law_391 : decode cL_law 391 = .ok (.if_icmp .eq 5, 3) := by decide +kernel
theorem dL_law_394 : decode cL_law 394 = .ok (.iconst 0, 1) := by decide +kernel
theorem dL_law_395 : decode cL_law 395 = .ok (.ireturn, 1) := by decide +kernel
theorem dL_law_396 : decode cL_law 396 = .ok (.iload 5, 2) := by decide +kernel
theorem dL_law_398 : decode cL_law 398 = .ok (.ifCond .ne 15, 3) := by decide +kernel
theorem dL_law_401 : decode cL_law 401 = .ok (.aload_n 3, 1) := by decide +kernel
theorem dL_law_402 : decode cL_law 402 = .ok (.iconst 0, 1) := by decide +kernel
theorem dL_law_403 : decode cL_law 403 = .ok (.laload, 1) := by decide +kernel
theorem dL_law_404 : decode cL_law 404 = .ok (.iload 6, 2) := by decide +kernel
theorem dL_law_406 : decode cL_law 406 = .ok (.i2l, 1) := by decide +kernel
theorem dL_law_407 : decode cL_law 407 = .ok (.lcmp, 1) := by decide +kernel
theorem dL_law_408 : decode cL_law 408 = .ok (.ifCond .eq 5, 3) := by decide +kernel
theorem dL_law_411 : decode cL_law 411 = .ok (.iconst 0, 1) := by decide +kernel
theorem dL_law_412 : decode cL_law 412 = .ok (.ireturn, 1) := by decide +kernel
theorem dL_law_413 : decode cL_law 413 = .ok (.goto 925, 3) := by decide +kernel
theorem dL_law_416 : decode cL_law 416 = .ok (.aload_n 1, 1) := by decide +kernel
theorem dL_law_417 : decode cL_law 417 = .ok (.aload_n 0, 1) := by decide +kernel
theorem dL_law_418 : decode cL_law 418 = .ok (.iload 4, 2) := by decide +kernel
theorem dL_law_420 : decode cL_law 420 = .ok (.iconst 1, 1) := by decide +kernel
theorem dL_law_421 : decode cL_law 421 = .ok (.iadd, 1) := by decide +kernel
theorem dL_law_422 : decode cL_law 422 = .ok (.iaload, 1) := by decide +kernel
theorem dL_law_423 : decode cL_law 423 = .ok (.aload_n 0, 1) := by decide +kernel
theorem dL_law_424 : decode cL_law 424 = .ok (.iload 4, 2) := by decide +kernel
theorem dL_law_426 : decode cL_law 426 = .ok (.iconst 2, 1) := by decide +kernel
theorem dL_law_427 : decode cL_law 427 = .ok (.iadd, 1) := by decide +kernel
theorem dL_law_428 : decode cL_law 428 = .ok (.iaload, 1) := by decide +kernel
theorem dL_law_429 : decode cL_law 429 = .ok (.invokevirtual 49, 3) := by decide +kernel
theorem dL_law_432 : decode cL_law 432 = .ok (.aload_n 2, 1) := by decide +kernel
theorem dL_law_433 : decode cL_law 433 = .ok (.aload_n 0, 1) := by decide +kernel
theorem dL_law_434 : decode cL_law 434 = .ok (.iload 4, 2) := by decide +kernel
theorem dL_law_436 : decode cL_law 436 = .ok (.iconst 1, 1) := by decide +kernel
theorem dL_law_437 : decode cL_law 437 = .ok (.iadd, 1) := by decide +kernel
theorem dL_law_438 : decode cL_law 438 = .ok (.iaload, 1) := by decide +kernel
theorem dL_law_439 : decode cL_law 439 = .ok (.aload_n 0, 1) := by decide +kernel
theorem dL_law_440 : decode cL_law 440 = .ok (.iload 4, 2) := by decide +kernel
theorem dL_law_442 : decode cL_law 442 = .ok (.iconst 2, 1) := by decide +kernel
theorem dL_law_443 : decode cL_law 443 = .ok (.iadd, 1) := by decide +kernel
theorem dL_law_444 : decode cL_law 444 = .ok (.iaload, 1) := by decide +kernel
theorem dL_law_445 : decode cL_law 445 = .ok (.invokevirtual 52, 3) := by decide +kernel
theorem dL_law_448 : decode cL_law 448 = .ok (.if_icmp .eq 890, 3) := by decide +kernel
theorem dL_law_451 : decode cL_law 451 = .ok (.iconst 0, 1) := by decide +kernel
theorem dL_law_452 : decode cL_law 452 = .ok (.ireturn, 1) := by decide +kernel
theorem dL_law_453 : decode cL_law 453 = .ok (.aload_n 1, 1) := by decide +kernel
theorem dL_law_454 : decode cL_law 454 = .ok (.aload_n 0, 1) := by decide +kernel
theorem dL_law_455 : decode cL_law 455 = .ok (.iload 4, 2) := by decide +kernel
theorem dL_law_457 : decode cL_law 457 = .ok (.iconst 1, 1) := by decide +kernel
theorem dL_law_458 : decode cL_law 458 = .ok (.iadd, 1) := by decide +kernel
theorem dL_law_459 : decode cL_law 459 = .ok (.iaload, 1) := by decide +kernel
theorem dL_law_460 : decode cL_law 460 = .ok (.aload_n 0, 1) := by decide +kernel
theorem dL_law_461 : decode cL_law 461 = .ok (.iload 4, 2) := by decide +kernel
theorem dL_law_463 : decode cL_law 463 = .ok (.iconst 2, 1) := by decide +kernel
theorem dL_law_464 : decode cL_law 464 = .ok (.iadd, 1) := by decide +kernel
theorem dL_law_465 : decode cL_law 465 = .ok (.iaload, 1) := by decide +kernel
theorem dL_law_466 : decode cL_law 466 = .ok (.invokevirtual 53, 3) := by decide +kernel
theorem dL_law_469 : decode cL_law 469 = .ok (.aload_n 2, 1) := by decide +kernel
theorem dL_law_470 : decode cL_law 470 = .ok (.aload_n 0, 1) := by decide +kernel
theorem dL_law_471 : decode cL_law 471 = .ok (.iload 4, 2) := by decide +kernel
theorem dL_law_473 : decode cL_law 473 = .ok (.iconst 1, 1) := by decide +kernel
theorem dL_law_474 : decode cL_law 474 = .ok (.iadd, 1) := by decide +kernel
theorem dL_law_475 : decode cL_law 475 = .ok (.iaload, 1) := by decide +kernel
theorem dL_law_476 : decode cL_law 476 = .ok (.aload_n 0, 1) := by decide +kernel
theorem dL_law_477 : decode cL_law 477 = .ok (.iload 4, 2) := by decide +kernel
theorem dL_law_479 : decode cL_law 479 = .ok (.iconst 2, 1) := by decide +kernel
theorem dL_law_480 : decode cL_law 480 = .ok (.iadd, 1) := by decide +kernel
theorem dL_law_481 : decode cL_law 481 = .ok (.iaload, 1) := by decide +kernel
theorem dL_law_482 : decode cL_law 482 = .ok (.invokevirtual 56, 3) := by decide +kernel
theorem dL_law_485 : decode cL_law 485 = .ok (.if_icmp .eq 853, 3) := by decide +kernel
theorem dL_law_488 : decode cL_law 488 = .ok (.iconst 0, 1) := by decide +kernel
theorem dL_law_489 : decode cL_law 489 = .ok (.ireturn, 1) := by decide +kernel
theorem dL_law_490 : decode cL_law 490 = .ok (.aload_n 1, 1) := by decide +kernel
theorem dL_law_491 : decode cL_law 491 = .ok (.invokevirtual 57, 3) := by decide +kernel
theorem dL_law_494 : decode cL_law 494 = .ok (.aload_n 2, 1) := by decide +kernel
theorem dL_law_495 : decode cL_law 495 = .ok (.invokevirtual 60, 3) := by decide +kernel
theorem dL_law_498 : decode cL_law 498 = .ok (.if_icmp .eq 840, 3) := by decide +kernel
theorem dL_law_501 : decode cL_law 501 = .ok (.iconst 0, 1) := by decide +kernel
theorem dL_law_502 : decode cL_law 502 = .ok (.ireturn, 1) := by decide +kernel
theorem dL_law_503 : decode cL_law 503 = .ok (.aload_n 1, 1) := by decide +kernel
theorem dL_law_504 : decode cL_law 504 = .ok (.aload_n 0, 1) := by decide +kernel
theorem dL_law_505 : decode cL_law 505 = .ok (.iload 4, 2) := by decide +kernel
theorem dL_law_507 : decode cL_law 507 = .ok (.iconst 1, 1) := by decide +kernel
theorem dL_law_508 : decode cL_law 508 = .ok (.iadd, 1) := by decide +kernel
theorem dL_law_509 : decode cL_law 509 = .ok (.iaload, 1) := by decide +kernel
theorem dL_law_510 : decode cL_law 510 = .ok (.aload_n 0, 1) := by decide +kernel
theorem dL_law_511 : decode cL_law 511 = .ok (.iload 4, 2) := by decide +kernel
theorem dL_law_513 : decode cL_law 513 = .ok (.iconst 2, 1) := by decide +kernel
theorem dL_law_514 : decode cL_law 514 = .ok (.iadd, 1) := by decide +kernel
theorem dL_law_515 : decode cL_law 515 = .ok (.iaload, 1) := by decide +kernel
theorem dL_law_516 : decode cL_law 516 = .ok (.aload_n 0, 1) := by decide +kernel
theorem dL_law_517 : decode cL_law 517 = .ok (.iload 4, 2) := by decide +kernel
theorem dL_law_519 : decode cL_law 519 = .ok (.iconst 3, 1) := by decide +kernel
theorem dL_law_520 : decode cL_law 520 = .ok (.iadd, 1) := by decide +kernel
theorem dL_law_521 : decode cL_law 521 = .ok (.iaload, 1) := by decide +kernel
theorem dL_law_522 : decode cL_law 522 = .ok (.invokevirtual 61, 3) := by decide +kernel
theorem dL_law_525 : decode cL_law 525 = .ok (.aload_n 2, 1) := by decide +kernel
theorem dL_law_526 : decode cL_law 526 = .ok (.aload_n 0, 1) := by decide +kernel
theorem dL_law_527 : decode cL_law 527 = .ok (.iload 4, 2) := by decide +kernel
theorem dL_law_529 : decode cL_law 529 = .ok (.iconst 1, 1) := by decide +kernel
theorem dL_law_530 : decode cL_law 530 = .ok (.iadd, 1) := by decide +kernel
theorem dL_law_531 : decode cL_law 531 = .ok (.iaload, 1) := by decide +kernel
theorem dL_law_532 : decode cL_law 532 = .ok (.aload_n 0, 1) := by decide +kernel
theorem dL_law_533 : decode cL_law 533 = .ok (.iload 4, 2) := by decide +kernel
theorem dL_law_535 : decode cL_law 535 = .ok (.iconst 2, 1) := by decide +kernel
theorem dL_law_536 : decode cL_law 536 = .ok (.iadd, 1) := by decide +kernel
theorem dL_law_537 : decode cL_law 537 = .ok (.iaload, 1) := by decide +kernel
theorem dL_law_538 : decode cL_law 538 = .ok (.aload_n 0, 1) := by decide +kernel
theorem dL_law_539 : decode cL_law 539 = .ok (.iload 4, 2) := by decide +kernel
theorem dL_law_541 : decode cL_law 541 = .ok (.iconst 3, 1) := by decide +kernel
theorem dL_law_542 : decode cL_law 542 = .ok (.iadd, 1) := by decide +kernel
theorem dL_law_543 : decode cL_law 543 = .ok (.iaload, 1) := by decide +kernel
theorem dL_law_544 : decode cL_law 544 = .ok (.invokevirtual 65, 3) := by decide +kernel
theorem dL_law_547 : decode cL_law 547 = .ok (.lcmp, 1) := by decide +kernel
theorem dL_law_548 : decode cL_law 548 = .ok (.ifCond .eq 790, 3) := by decide +kernel
theorem dL_law_551 : decode cL_law 551 = .ok (.iconst 0, 1) := by decide +kernel
theorem dL_law_552 : decode cL_law 552 = .ok (.ireturn, 1) := by decide +kernel
theorem dL_law_553 : decode cL_law 553 = .ok (.aload_n 1, 1) := by decide +kernel
theorem dL_law_554 : decode cL_law 554 = .ok (.aload_n 0, 1) := by decide +kernel
theorem dL_law_555 : decode cL_law 555 = .ok (.iload 4, 2) := by decide +kernel
theorem dL_law_557 : decode cL_law 557 = .ok (.iconst 1, 1) := by decide +kernel
theorem dL_law_558 : decode cL_law 558 = .ok (.iadd, 1) := by decide +kernel
theorem dL_law_559 : decode cL_law 559 = .ok (.iaload, 1) := by decide +kernel
theorem dL_law_560 : decode cL_law 560 = .ok (.aload_n 0, 1) := by decide +kernel
theorem dL_law_561 : decode cL_law 561 = .ok (.iload 4, 2) := by decide +kernel
theorem dL_law_563 : decode cL_law 563 = .ok (.iconst 2, 1) := by decide +kernel
theorem dL_law_564 : decode cL_law 564 = .ok (.iadd, 1) := by decide +kernel
theorem dL_law_565 : decode cL_law 565 = .ok (.iaload, 1) := by decide +kernel
theorem dL_law_566 : decode cL_law 566 = .ok (.invokevirtual 66, 3) := by decide +kernel
theorem dL_law_569 : decode cL_law 569 = .ok (.aload_n 2, 1) := by decide +kernel
theorem dL_law_570 : decode cL_law 570 = .ok (.aload_n 0, 1) := by decide +kernel
theorem dL_law_571 : decode cL_law 571 = .ok (.iload 4, 2) := by decide +kernel
theorem dL_law_573 : decode cL_law 573 = .ok (.iconst 1, 1) := by decide +kernel
theorem dL_law_574 : decode cL_law 574 = .ok (.iadd, 1) := by decide +kernel
theorem dL_law_575 : decode cL_law 575 = .ok (.iaload, 1) := by decide +kernel
theorem dL_law_576 : decode cL_law 576 = .ok (.aload_n 0, 1) := by decide +kernel
theorem dL_law_577 : decode cL_law 577 = .ok (.iload 4, 2) := by decide +kernel
theorem dL_law_579 : decode cL_law 579 = .ok (.iconst 2, 1) := by decide +kernel
theorem dL_law_580 : decode cL_law 580 = .ok (.iadd, 1) := by decide +kernel
theorem dL_law_581 : decode cL_law 581 = .ok (.iaload, 1) := by decide +kernel
theorem dL_law_582 : decode cL_law 582 = .ok (.invokevirtual 69, 3) := by decide +kernel
theorem dL_law_585 : decode cL_law 585 = .ok (.if_icmp .eq 753, 3) := by decide +kernel
theorem dL_law_588 : decode cL_law 588 = .ok (.iconst 0, 1) := by decide +kernel
theorem dL_law_589 : decode cL_law 589 = .ok (.ireturn, 1) := by decide +kernel
theorem dL_law_590 : decode cL_law 590 = .ok (.aload_n 1, 1) := by decide +kernel
theorem dL_law_591 : decode cL_law 591 = .ok (.aload_n 0, 1) := by decide +kernel
theorem dL_law_592 : decode cL_law 592 = .ok (.iload 4, 2) := by decide +kernel
theorem dL_law_594 : decode cL_law 594 = .ok (.iconst 1, 1) := by decide +kernel
theorem dL_law_595 : decode cL_law 595 = .ok (.iadd, 1) := by decide +kernel
theorem dL_law_596 : decode cL_law 596 = .ok (.iaload, 1) := by decide +kernel
theorem dL_law_597 : decode cL_law 597 = .ok (.invokevirtual 70, 3) := by decide +kernel
theorem dL_law_600 : decode cL_law 600 = .ok (.aload_n 2, 1) := by decide +kernel
theorem dL_law_601 : decode cL_law 601 = .ok (.aload_n 0, 1) := by decide +kernel
theorem dL_law_602 : decode cL_law 602 = .ok (.iload 4, 2) := by decide +kernel
theorem dL_law_604 : decode cL_law 604 = .ok (.iconst 1, 1) := by decide +kernel
theorem dL_law_605 : decode cL_law 605 = .ok (.iadd, 1) := by decide +kernel
theorem dL_law_606 : decode cL_law 606 = .ok (.iaload, 1) := by decide +kernel
theorem dL_law_607 : decode cL_law 607 = .ok (.invokevirtual 74, 3) := by decide +kernel
theorem dL_law_610 : decode cL_law 610 = .ok (.if_icmp .eq 728, 3) := by decide +kernel
theorem dL_law_613 : decode cL_law 613 = .ok (.iconst 0, 1) := by decide +kernel
theorem dL_law_614 : decode cL_law 614 = .ok (.ireturn, 1) := by decide +kernel
theorem dL_law_615 : decode cL_law 615 = .ok (.aload_n 1, 1) := by decide +kernel
theorem dL_law_616 : decode cL_law 616 = .ok (.aload_n 0, 1) := by decide +kernel
theorem dL_law_617 : decode cL_law 617 = .ok (.iload 4, 2) := by decide +kernel
theorem dL_law_619 : decode cL_law 619 = .ok (.iconst 1, 1) := by decide +kernel
theorem dL_law_620 : decode cL_law 620 = .ok (.iadd, 1) := by decide +kernel
theorem dL_law_621 : decode cL_law 621 = .ok (.iaload, 1) := by decide +kernel
theorem dL_law_622 : decode cL_law 622 = .ok (.invokevirtual 75, 3) := by decide +kernel
theorem dL_law_625 : decode cL_law 625 = .ok (.aload_n 2, 1) := by decide +kernel
theorem dL_law_626 : decode cL_law 626 = .ok (.aload_n 0, 1) := by decide +kernel
theorem dL_law_627 : decode cL_law 627 = .ok (.iload 4, 2) := by decide +kernel
theorem dL_law_629 : decode cL_law 629 = .ok (.iconst 1, 1) := by decide +kernel
theorem dL_law_630 : decode cL_law 630 = .ok (.iadd, 1) := by decide +kernel
theorem dL_law_631 : decode cL_law 631 = .ok (.iaload, 1) := by decide +kernel
theorem dL_law_632 : decode cL_law 632 = .ok (.invokevirtual 78, 3) := by decide +kernel
theorem dL_law_635 : decode cL_law 635 = .ok (.if_icmp .eq 703, 3) := by decide +kernel
theorem dL_law_638 : decode cL_law 638 = .ok (.iconst 0, 1) := by decide +kernel
theorem dL_law_639 : decode cL_law 639 = .ok (.ireturn, 1) := by decide +kernel
theorem dL_law_640 : decode cL_law 640 = .ok (.aload_n 1, 1) := by decide +kernel
theorem dL_law_641 : decode cL_law 641 = .ok (.aload_n 0, 1) := by decide +kernel
theorem dL_law_642 : decode cL_law 642 = .ok (.iload 4, 2) := by decide +kernel
theorem dL_law_644 : decode cL_law 644 = .ok (.iconst 1, 1) := by decide +kernel
theorem dL_law_645 : decode cL_law 645 = .ok (.iadd, 1) := by decide +kernel
theorem dL_law_646 : decode cL_law 646 = .ok (.iaload, 1) := by decide +kernel
theorem dL_law_647 : decode cL_law 647 = .ok (.invokevirtual 79, 3) := by decide +kernel
theorem dL_law_650 : decode cL_law 650 = .ok (.aload_n 2, 1) := by decide +kernel
theorem dL_law_651 : decode cL_law 651 = .ok (.aload_n 0, 1) := by decide +kernel
theorem dL_law_652 : decode cL_law 652 = .ok (.iload 4, 2) := by decide +kernel
theorem dL_law_654 : decode cL_law 654 = .ok (.iconst 1, 1) := by decide +kernel
theorem dL_law_655 : decode cL_law 655 = .ok (.iadd, 1) := by decide +kernel
theorem dL_law_656 : decode cL_law 656 = .ok (.iaload, 1) := by decide +kernel
theorem dL_law_657 : decode cL_law 657 = .ok (.invokevirtual 82, 3) := by decide +kernel
theorem dL_law_660 : decode cL_law 660 = .ok (.if_icmp .eq 678, 3) := by decide +kernel
theorem dL_law_663 : decode cL_law 663 = .ok (.iconst 0, 1) := by decide +kernel
theorem dL_law_664 : decode cL_law 664 = .ok (.ireturn, 1) := by decide +kernel
theorem dL_law_665 : decode cL_law 665 = .ok (.aload_n 1, 1) := by decide +kernel
theorem dL_law_666 : decode cL_law 666 = .ok (.aload_n 0, 1) := by decide +kernel
theorem dL_law_667 : decode cL_law 667 = .ok (.iload 4, 2) := by decide +kernel
theorem dL_law_669 : decode cL_law 669 = .ok (.iconst 1, 1) := by decide +kernel
theorem dL_law_670 : decode cL_law 670 = .ok (.iadd, 1) := by decide +kernel
theorem dL_law_671 : decode cL_law 671 = .ok (.iaload, 1) := by decide +kernel
theorem dL_law_672 : decode cL_law 672 = .ok (.aload_n 0, 1) := by decide +kernel
theorem dL_law_673 : decode cL_law 673 = .ok (.iload 4, 2) := by decide +kernel
theorem dL_law_675 : decode cL_law 675 = .ok (.iconst 2, 1) := by decide +kernel
theorem dL_law_676 : decode cL_law 676 = .ok (.iadd, 1) := by decide +kernel
theorem dL_law_677 : decode cL_law 677 = .ok (.iaload, 1) := by decide +kernel
theorem dL_law_678 : decode cL_law 678 = .ok (.aload_n 0, 1) := by decide +kernel
theorem dL_law_679 : decode cL_law 679 = .ok (.iload 4, 2) := by decide +kernel
theorem dL_law_681 : decode cL_law 681 = .ok (.iconst 3, 1) := by decide +kernel
theorem dL_law_682 : decode cL_law 682 = .ok (.iadd, 1) := by decide +kernel
theorem dL_law_683 : decode cL_law 683 = .ok (.iaload, 1) := by decide +kernel
theorem dL_law_684 : decode cL_law 684 = .ok (.invokevirtual 83, 3) := by decide +kernel
theorem dL_law_687 : decode cL_law 687 = .ok (.aload_n 2, 1) := by decide +kernel
theorem dL_law_688 : decode cL_law 688 = .ok (.aload_n 0, 1) := by decide +kernel
theorem dL_law_689 : decode cL_law 689 = .ok (.iload 4, 2) := by decide +kernel
theorem dL_law_691 : decode cL_law 691 = .ok (.iconst 1, 1) := by decide +kernel
theorem dL_law_692 : decode cL_law 692 = .ok (.iadd, 1) := by decide +kernel
theorem dL_law_693 : decode cL_law 693 = .ok (.iaload, 1) := by decide +kernel
theorem dL_law_694 : decode cL_law 694 = .ok (.aload_n 0, 1) := by decide +kernel
theorem dL_law_695 : decode cL_law 695 = .ok (.iload 4, 2) := by decide +kernel
theorem dL_law_697 : decode cL_law 697 = .ok (.iconst 2, 1) := by decide +kernel
theorem dL_law_698 : decode cL_law 698 = .ok (.iadd, 1) := by decide +kernel
theorem dL_law_699 : decode cL_law 699 = .ok (.iaload, 1) := by decide +kernel
theorem dL_law_700 : decode cL_law 700 = .ok (.aload_n 0, 1) := by decide +kernel
theorem dL_law_701 : decode cL_law 701 = .ok (.iload 4, 2) := by decide +kernel
theorem dL_law_703 : decode cL_law 703 = .ok (.iconst 3, 1) := by decide +kernel
theorem dL_law_704 : decode cL_law 704 = .ok (.iadd, 1) := by decide +kernel
theorem dL_law_705 : decode cL_law 705 = .ok (.iaload, 1) := by decide +kernel
theorem dL_law_706 : decode cL_law 706 = .ok (.invokevirtual 87, 3) := by decide +kernel
theorem dL_law_709 : decode cL_law 709 = .ok (.if_icmp .eq 629, 3) := by decide +kernel
theorem dL_law_712 : decode cL_law 712 = .ok (.iconst 0, 1) := by decide +kernel
theorem dL_law_713 : decode cL_law 713 = .ok (.ireturn, 1) := by decide +kernel
theorem dL_law_714 : decode cL_law 714 = .ok (.aload_n 1, 1) := by decide +kernel
theorem dL_law_715 : decode cL_law 715 = .ok (.aload_n 0, 1) := by decide +kernel
theorem dL_law_716 : decode cL_law 716 = .ok (.iload 4, 2) := by decide +kernel
theorem dL_law_718 : decode cL_law 718 = .ok (.iconst 1, 1) := by decide +kernel
theorem dL_law_719 : decode cL_law 719 = .ok (.iadd, 1) := by decide +kernel
theorem dL_law_720 : decode cL_law 720 = .ok (.iaload, 1) := by decide +kernel
theorem dL_law_721 : decode cL_law 721 = .ok (.aload_n 0, 1) := by decide +kernel
theorem dL_law_722 : decode cL_law 722 = .ok (.iload 4, 2) := by decide +kernel
theorem dL_law_724 : decode cL_law 724 = .ok (.iconst 2, 1) := by decide +kernel
theorem dL_law_725 : decode cL_law 725 = .ok (.iadd, 1) := by decide +kernel
theorem dL_law_726 : decode cL_law 726 = .ok (.iaload, 1) := by decide +kernel
theorem dL_law_727 : decode cL_law 727 = .ok (.invokevirtual 88, 3) := by decide +kernel
theorem dL_law_730 : decode cL_law 730 = .ok (.aload_n 2, 1) := by decide +kernel
theorem dL_law_731 : decode cL_law 731 = .ok (.aload_n 0, 1) := by decide +kernel
theorem dL_law_732 : decode cL_law 732 = .ok (.iload 4, 2) := by decide +kernel
theorem dL_law_734 : decode cL_law 734 = .ok (.iconst 1, 1) := by decide +kernel
theorem dL_law_735 : decode cL_law 735 = .ok (.iadd, 1) := by decide +kernel
theorem dL_law_736 : decode cL_law 736 = .ok (.iaload, 1) := by decide +kernel
theorem dL_law_737 : decode cL_law 737 = .ok (.aload_n 0, 1) := by decide +kernel
theorem dL_law_738 : decode cL_law 738 = .ok (.iload 4, 2) := by decide +kernel
theorem dL_law_740 : decode cL_law 740 = .ok (.iconst 2, 1) := by decide +kernel
theorem dL_law_741 : decode cL_law 741 = .ok (.iadd, 1) := by decide +kernel
theorem dL_law_742 : decode cL_law 742 = .ok (.iaload, 1) := by decide +kernel
theorem dL_law_743 : decode cL_law 743 = .ok (.invokevirtual 91, 3) := by decide +kernel
theorem dL_law_746 : decode cL_law 746 = .ok (.if_icmp .eq 592, 3) := by decide +kernel
theorem dL_law_749 : decode cL_law 749 = .ok (.iconst 0, 1) := by decide +kernel
theorem dL_law_750 : decode cL_law 750 = .ok (.ireturn, 1) := by decide +kernel
theorem dL_law_751 : decode cL_law 751 = .ok (.aload_n 1, 1) := by decide +kernel
theorem dL_law_752 : decode cL_law 752 = .ok (.aload_n 0, 1) := by decide +kernel
theorem dL_law_753 : decode cL_law 753 = .ok (.iload 4, 2) := by decide +kernel
theorem dL_law_755 : decode cL_law 755 = .ok (.iconst 1, 1) := by decide +kernel
theorem dL_law_756 : decode cL_law 756 = .ok (.iadd, 1) := by decide +kernel
theorem dL_law_757 : decode cL_law 757 = .ok (.iaload, 1) := by decide +kernel
theorem dL_law_758 : decode cL_law 758 = .ok (.aload_n 0, 1) := by decide +kernel
theorem dL_law_759 : decode cL_law 759 = .ok (.iload 4, 2) := by decide +kernel
theorem dL_law_761 : decode cL_law 761 = .ok (.iconst 2, 1) := by decide +kernel
theorem dL_law_762 : decode cL_law 762 = .ok (.iadd, 1) := by decide +kernel
theorem dL_law_763 : decode cL_law 763 = .ok (.iaload, 1) := by decide +kernel
theorem dL_law_764 : decode cL_law 764 = .ok (.invokevirtual 92, 3) := by decide +kernel
theorem dL_law_767 : decode cL_law 767 = .ok (.aload_n 2, 1) := by decide +kernel
theorem dL_law_768 : decode cL_law 768 = .ok (.aload_n 0, 1) := by decide +kernel
theorem dL_law_769 : decode cL_law 769 = .ok (.iload 4, 2) := by decide +kernel
theorem dL_law_771 : decode cL_law 771 = .ok (.iconst 1, 1) := by decide +kernel
theorem dL_law_772 : decode cL_law 772 = .ok (.iadd, 1) := by decide +kernel
theorem dL_law_773 : decode cL_law 773 = .ok (.iaload, 1) := by decide +kernel
theorem dL_law_774 : decode cL_law 774 = .ok (.aload_n 0, 1) := by decide +kernel
theorem dL_law_775 : decode cL_law 775 = .ok (.iload 4, 2) := by decide +kernel
theorem dL_law_777 : decode cL_law 777 = .ok (.iconst 2, 1) := by decide +kernel
theorem dL_law_778 : decode cL_law 778 = .ok (.iadd, 1) := by decide +kernel
theorem dL_law_779 : decode cL_law 779 = .ok (.iaload, 1) := by decide +kernel
theorem dL_law_780 : decode cL_law 780 = .ok (.invokevirtual 95, 3) := by decide +kernel
theorem dL_law_783 : decode cL_law 783 = .ok (.if_icmp .eq 555, 3) := by decide +kernel
theorem dL_law_786 : decode cL_law 786 = .ok (.iconst 0, 1) := by decide +kernel
theorem dL_law_787 : decode cL_law 787 = .ok (.ireturn, 1) := by decide +kernel
theorem dL_law_788 : decode cL_law 788 = .ok (.aload_n 1, 1) := by decide +kernel
theorem dL_law_789 : decode cL_law 789 = .ok (.aload_n 0, 1) := by decide +kernel
theorem dL_law_790 : decode cL_law 790 = .ok (.iload 4, 2) := by decide +kernel
theorem dL_law_792 : decode cL_law 792 = .ok (.iconst 1, 1) := by decide +kernel
theorem dL_law_793 : decode cL_law 793 = .ok (.iadd, 1) := by decide +kernel
theorem dL_law_794 : decode cL_law 794 = .ok (.iaload, 1) := by decide +kernel
theorem dL_law_795 : decode cL_law 795 = .ok (.invokevirtual 96, 3) := by decide +kernel
theorem dL_law_798 : decode cL_law 798 = .ok (.aload_n 2, 1) := by decide +kernel
theorem dL_law_799 : decode cL_law 799 = .ok (.aload_n 0, 1) := by decide +kernel
theorem dL_law_800 : decode cL_law 800 = .ok (.iload 4, 2) := by decide +kernel
theorem dL_law_802 : decode cL_law 802 = .ok (.iconst 1, 1) := by decide +kernel
theorem dL_law_803 : decode cL_law 803 = .ok (.iadd, 1) := by decide +kernel
theorem dL_law_804 : decode cL_law 804 = .ok (.iaload, 1) := by decide +kernel
theorem dL_law_805 : decode cL_law 805 = .ok (.invokevirtual 99, 3) := by decide +kernel
theorem dL_law_808 : decode cL_law 808 = .ok (.if_icmp .eq 530, 3) := by decide +kernel
theorem dL_law_811 : decode cL_law 811 = .ok (.iconst 0, 1) := by decide +kernel
theorem dL_law_812 : decode cL_law 812 = .ok (.ireturn, 1) := by decide +kernel
theorem dL_law_813 : decode cL_law 813 = .ok (.aload_n 1, 1) := by decide +kernel
theorem dL_law_814 : decode cL_law 814 = .ok (.aload_n 0, 1) := by decide +kernel
theorem dL_law_815 : decode cL_law 815 = .ok (.iload 4, 2) := by decide +kernel
theorem dL_law_817 : decode cL_law 817 = .ok (.iconst 1, 1) := by decide +kernel
theorem dL_law_818 : decode cL_law 818 = .ok (.iadd, 1) := by decide +kernel
theorem dL_law_819 : decode cL_law 819 = .ok (.iaload, 1) := by decide +kernel
theorem dL_law_820 : decode cL_law 820 = .ok (.aload_n 0, 1) := by decide +kernel
theorem dL_law_821 : decode cL_law 821 = .ok (.iload 4, 2) := by decide +kernel
theorem dL_law_823 : decode cL_law 823 = .ok (.iconst 2, 1) := by decide +kernel
theorem dL_law_824 : decode cL_law 824 = .ok (.iadd, 1) := by decide +kernel
theorem dL_law_825 : decode cL_law 825 = .ok (.iaload, 1) := by decide +kernel
theorem dL_law_826 : decode cL_law 826 = .ok (.aload_n 0, 1) := by decide +kernel
theorem dL_law_827 : decode cL_law 827 = .ok (.iload 4, 2) := by decide +kernel
theorem dL_law_829 : decode cL_law 829 = .ok (.iconst 3, 1) := by decide +kernel
theorem dL_law_830 : decode cL_law 830 = .ok (.iadd, 1) := by decide +kernel
theorem dL_law_831 : decode cL_law 831 = .ok (.iaload, 1) := by decide +kernel
theorem dL_law_832 : decode cL_law 832 = .ok (.invokevirtual 100, 3) := by decide +kernel
theorem dL_law_835 : decode cL_law 835 = .ok (.aload_n 2, 1) := by decide +kernel
theorem dL_law_836 : decode cL_law 836 = .ok (.aload_n 0, 1) := by decide +kernel
theorem dL_law_837 : decode cL_law 837 = .ok (.iload 4, 2) := by decide +kernel
theorem dL_law_839 : decode cL_law 839 = .ok (.iconst 1, 1) := by decide +kernel
theorem dL_law_840 : decode cL_law 840 = .ok (.iadd, 1) := by decide +kernel
theorem dL_law_841 : decode cL_law 841 = .ok (.iaload, 1) := by decide +kernel
theorem dL_law_842 : decode cL_law 842 = .ok (.aload_n 0, 1) := by decide +kernel
theorem dL_law_843 : decode cL_law 843 = .ok (.iload 4, 2) := by decide +kernel
theorem dL_law_845 : decode cL_law 845 = .ok (.iconst 2, 1) := by decide +kernel
theorem dL_law_846 : decode cL_law 846 = .ok (.iadd, 1) := by decide +kernel
theorem dL_law_847 : decode cL_law 847 = .ok (.iaload, 1) := by decide +kernel
theorem dL_law_848 : decode cL_law 848 = .ok (.aload_n 0, 1) := by decide +kernel
theorem dL_law_849 : decode cL_law 849 = .ok (.iload 4, 2) := by decide +kernel
theorem dL_law_851 : decode cL_law 851 = .ok (.iconst 3, 1) := by decide +kernel
theorem dL_law_852 : decode cL_law 852 = .ok (.iadd, 1) := by decide +kernel
theorem dL_law_853 : decode cL_law 853 = .ok (.iaload, 1) := by decide +kernel
theorem dL_law_854 : decode cL_law 854 = .ok (.invokevirtual 103, 3) := by decide +kernel
theorem dL_law_857 : decode cL_law 857 = .ok (.if_icmp .eq 481, 3) := by decide +kernel
theorem dL_law_860 : decode cL_law 860 = .ok (.iconst 0, 1) := by decide +kernel
theorem dL_law_861 : decode cL_law 861 = .ok (.ireturn, 1) := by decide +kernel
theorem dL_law_862 : decode cL_law 862 = .ok (.aload_n 1, 1) := by decide +kernel
theorem dL_law_863 : decode cL_law 863 = .ok (.aload_n 0, 1) := by decide +kernel
theorem dL_law_864 : decode cL_law 864 = .ok (.iload 4, 2) := by decide +kernel
theorem dL_law_866 : decode cL_law 866 = .ok (.iconst 1, 1) := by decide +kernel
theorem dL_law_867 : decode cL_law 867 = .ok (.iadd, 1) := by decide +kernel
theorem dL_law_868 : decode cL_law 868 = .ok (.iaload, 1) := by decide +kernel
theorem dL_law_869 : decode cL_law 869 = .ok (.invokevirtual 104, 3) := by decide +kernel
theorem dL_law_872 : decode cL_law 872 = .ok (.aload_n 2, 1) := by decide +kernel
theorem dL_law_873 : decode cL_law 873 = .ok (.aload_n 0, 1) := by decide +kernel
theorem dL_law_874 : decode cL_law 874 = .ok (.iload 4, 2) := by decide +kernel
theorem dL_law_876 : decode cL_law 876 = .ok (.iconst 1, 1) := by decide +kernel
theorem dL_law_877 : decode cL_law 877 = .ok (.iadd, 1) := by decide +kernel
theorem dL_law_878 : decode cL_law 878 = .ok (.iaload, 1) := by decide +kernel
theorem dL_law_879 : decode cL_law 879 = .ok (.invokevirtual 107, 3) := by decide +kernel
theorem dL_law_882 : decode cL_law 882 = .ok (.if_icmp .eq 456, 3) := by decide +kernel
theorem dL_law_885 : decode cL_law 885 = .ok (.iconst 0, 1) := by decide +kernel
theorem dL_law_886 : decode cL_law 886 = .ok (.ireturn, 1) := by decide +kernel
theorem dL_law_887 : decode cL_law 887 = .ok (.aload_n 1, 1) := by decide +kernel
theorem dL_law_888 : decode cL_law 888 = .ok (.invokevirtual 108, 3) := by decide +kernel
theorem dL_law_891 : decode cL_law 891 = .ok (.aload_n 2, 1) := by decide +kernel
theorem dL_law_892 : decode cL_law 892 = .ok (.invokevirtual 111, 3) := by decide +kernel
theorem dL_law_895 : decode cL_law 895 = .ok (.if_icmp .eq 443, 3) := by decide +kernel
theorem dL_law_898 : decode cL_law 898 = .ok (.iconst 0, 1) := by decide +kernel
theorem dL_law_899 : decode cL_law 899 = .ok (.ireturn, 1) := by decide +kernel
theorem dL_law_900 : decode cL_law 900 = .ok (.aload_n 1, 1) := by decide +kernel
theorem dL_law_901 : decode cL_law 901 = .ok (.aload_n 0, 1) := by decide +kernel
theorem dL_law_902 : decode cL_law 902 = .ok (.iload 4, 2) := by decide +kernel
theorem dL_law_904 : decode cL_law 904 = .ok (.iconst 1, 1) := by decide +kernel
theorem dL_law_905 : decode cL_law 905 = .ok (.iadd, 1) := by decide +kernel
theorem dL_law_906 : decode cL_law 906 = .ok (.iaload, 1) := by decide +kernel
theorem dL_law_907 : decode cL_law 907 = .ok (.aload_n 0, 1) := by decide +kernel
theorem dL_law_908 : decode cL_law 908 = .ok (.iload 4, 2) := by decide +kernel
theorem dL_law_910 : decode cL_law 910 = .ok (.iconst 2, 1) := by decide +kernel
theorem dL_law_911 : decode cL_law 911 = .ok (.iadd, 1) := by decide +kernel
theorem dL_law_912 : decode cL_law 912 = .ok (.iaload, 1) := by decide +kernel
theorem dL_law_913 : decode cL_law 913 = .ok (.invokevirtual 112, 3) := by decide +kernel
theorem dL_law_916 : decode cL_law 916 = .ok (.aload_n 2, 1) := by decide +kernel
theorem dL_law_917 : decode cL_law 917 = .ok (.aload_n 0, 1) := by decide +kernel
theorem dL_law_918 : decode cL_law 918 = .ok (.iload 4, 2) := by decide +kernel
theorem dL_law_920 : decode cL_law 920 = .ok (.iconst 1, 1) := by decide +kernel
theorem dL_law_921 : decode cL_law 921 = .ok (.iadd, 1) := by decide +kernel
theorem dL_law_922 : decode cL_law 922 = .ok (.iaload, 1) := by decide +kernel
theorem dL_law_923 : decode cL_law 923 = .ok (.aload_n 0, 1) := by decide +kernel
theorem dL_law_924 : decode cL_law 924 = .ok (.iload 4, 2) := by decide +kernel
theorem dL_law_926 : decode cL_law 926 = .ok (.iconst 2, 1) := by decide +kernel
theorem dL_law_927 : decode cL_law 927 = .ok (.iadd, 1) := by decide +kernel
theorem dL_law_928 : decode cL_law 928 = .ok (.iaload, 1) := by decide +kernel
theorem dL_law_929 : decode cL_law 929 = .ok (.invokevirtual 115, 3) := by decide +kernel
theorem dL_law_932 : decode cL_law 932 = .ok (.if_icmp .eq 406, 3) := by decide +kernel
theorem dL_law_935 : decode cL_law 935 = .ok (.iconst 0, 1) := by decide +kernel
theorem dL_law_936 : decode cL_law 936 = .ok (.ireturn, 1) := by decide +kernel
theorem dL_law_937 : decode cL_law 937 = .ok (.aload_n 1, 1) := by decide +kernel
theorem dL_law_938 : decode cL_law 938 = .ok (.aload_n 0, 1) := by decide +kernel
theorem dL_law_939 : decode cL_law 939 = .ok (.iload 4, 2) := by decide +kernel
theorem dL_law_941 : decode cL_law 941 = .ok (.iconst 1, 1) := by decide +kernel
theorem dL_law_942 : decode cL_law 942 = .ok (.iadd, 1) := by decide +kernel
theorem dL_law_943 : decode cL_law 943 = .ok (.iaload, 1) := by decide +kernel
theorem dL_law_944 : decode cL_law 944 = .ok (.aload_n 0, 1) := by decide +kernel
theorem dL_law_945 : decode cL_law 945 = .ok (.iload 4, 2) := by decide +kernel
theorem dL_law_947 : decode cL_law 947 = .ok (.iconst 2, 1) := by decide +kernel
theorem dL_law_948 : decode cL_law 948 = .ok (.iadd, 1) := by decide +kernel
theorem dL_law_949 : decode cL_law 949 = .ok (.iaload, 1) := by decide +kernel
theorem dL_law_950 : decode cL_law 950 = .ok (.aload_n 0, 1) := by decide +kernel
theorem dL_law_951 : decode cL_law 951 = .ok (.iload 4, 2) := by decide +kernel
theorem dL_law_953 : decode cL_law 953 = .ok (.iconst 3, 1) := by decide +kernel
theorem dL_law_954 : decode cL_law 954 = .ok (.iadd, 1) := by decide +kernel
theorem dL_law_955 : decode cL_law 955 = .ok (.iaload, 1) := by decide +kernel
theorem dL_law_956 : decode cL_law 956 = .ok (.invokevirtual 116, 3) := by decide +kernel
theorem dL_law_959 : decode cL_law 959 = .ok (.aload_n 2, 1) := by decide +kernel
theorem dL_law_960 : decode cL_law 960 = .ok (.aload_n 0, 1) := by decide +kernel
theorem dL_law_961 : decode cL_law 961 = .ok (.iload 4, 2) := by decide +kernel
theorem dL_law_963 : decode cL_law 963 = .ok (.iconst 1, 1) := by decide +kernel
theorem dL_law_964 : decode cL_law 964 = .ok (.iadd, 1) := by decide +kernel
theorem dL_law_965 : decode cL_law 965 = .ok (.iaload, 1) := by decide +kernel
theorem dL_law_966 : decode cL_law 966 = .ok (.aload_n 0, 1) := by decide +kernel
theorem dL_law_967 : decode cL_law 967 = .ok (.iload 4, 2) := by decide +kernel
theorem dL_law_969 : decode cL_law 969 = .ok (.iconst 2, 1) := by decide +kernel
theorem dL_law_970 : decode cL_law 970 = .ok (.iadd, 1) := by decide +kernel
theorem dL_law_971 : decode cL_law 971 = .ok (.iaload, 1) := by decide +kernel
theorem dL_law_972 : decode cL_law 972 = .ok (.aload_n 0, 1) := by decide +kernel
theorem dL_law_973 : decode cL_law 973 = .ok (.iload 4, 2) := by decide +kernel
theorem dL_law_975 : decode cL_law 975 = .ok (.iconst 3, 1) := by decide +kernel
theorem dL_law_976 : decode cL_law 976 = .ok (.iadd, 1) := by decide +kernel
theorem dL_law_977 : decode cL_law 977 = .ok (.iaload, 1) := by decide +kernel
theorem dL_law_978 : decode cL_law 978 = .ok (.invokevirtual 119, 3) := by decide +kernel
theorem dL_law_981 : decode cL_law 981 = .ok (.if_icmp .eq 357, 3) := by decide +kernel
theorem dL_law_984 : decode cL_law 984 = .ok (.iconst 0, 1) := by decide +kernel
theorem dL_law_985 : decode cL_law 985 = .ok (.ireturn, 1) := by decide +kernel
theorem dL_law_986 : decode cL_law 986 = .ok (.aload_n 1, 1) := by decide +kernel
theorem dL_law_987 : decode cL_law 987 = .ok (.aload_n 0, 1) := by decide +kernel
theorem dL_law_988 : decode cL_law 988 = .ok (.iload 4, 2) := by decide +kernel
theorem dL_law_990 : decode cL_law 990 = .ok (.iconst 1, 1) := by decide +kernel
theorem dL_law_991 : decode cL_law 991 = .ok (.iadd, 1) := by decide +kernel
theorem dL_law_992 : decode cL_law 992 = .ok (.iaload, 1) := by decide +kernel
theorem dL_law_993 : decode cL_law 993 = .ok (.aload_n 0, 1) := by decide +kernel
theorem dL_law_994 : decode cL_law 994 = .ok (.iload 4, 2) := by decide +kernel
theorem dL_law_996 : decode cL_law 996 = .ok (.iconst 2, 1) := by decide +kernel
theorem dL_law_997 : decode cL_law 997 = .ok (.iadd, 1) := by decide +kernel
theorem dL_law_998 : decode cL_law 998 = .ok (.iaload, 1) := by decide +kernel
theorem dL_law_999 : decode cL_law 999 = .ok (.invokevirtual 120, 3) := by decide +kernel
theorem dL_law_1002 : decode cL_law 1002 = .ok (.aload_n 2, 1) := by decide +kernel
theorem dL_law_1003 : decode cL_law 1003 = .ok (.aload_n 0, 1) := by decide +kernel
theorem dL_law_1004 : decode cL_law 1004 = .ok (.iload 4, 2) := by decide +kernel
theorem dL_law_1006 : decode cL_law 1006 = .ok (.iconst 1, 1) := by decide +kernel
theorem dL_law_1007 : decode cL_law 1007 = .ok (.iadd, 1) := by decide +kernel
theorem dL_law_1008 : decode cL_law 1008 = .ok (.iaload, 1) := by decide +kernel
theorem dL_law_1009 : decode cL_law 1009 = .ok (.aload_n 0, 1) := by decide +kernel
theorem dL_law_1010 : decode cL_law 1010 = .ok (.iload 4, 2) := by decide +kernel
theorem dL_law_1012 : decode cL_law 1012 = .ok (.iconst 2, 1) := by decide +kernel
theorem dL_law_1013 : decode cL_law 1013 = .ok (.iadd, 1) := by decide +kernel
theorem dL_law_1014 : decode cL_law 1014 = .ok (.iaload, 1) := by decide +kernel
theorem dL_law_1015 : decode cL_law 1015 = .ok (.invokevirtual 124, 3) := by decide +kernel
theorem dL_law_1018 : decode cL_law 1018 = .ok (.lcmp, 1) := by decide +kernel
theorem dL_law_1019 : decode cL_law 1019 = .ok (.ifCond .eq 319, 3) := by decide +kernel
theorem dL_law_1022 : decode cL_law 1022 = .ok (.iconst 0, 1) := by decide +kernel
theorem dL_law_1023 : decode cL_law 1023 = .ok (.ireturn, 1) := by decide +kernel
theorem dL_law_1024 : decode cL_law 1024 = .ok (.aload_n 1, 1) := by decide +kernel
theorem dL_law_1025 : decode cL_law 1025 = .ok (.aload_n 0, 1) := by decide +kernel
theorem dL_law_1026 : decode cL_law 1026 = .ok (.iload 4, 2) := by decide +kernel
theorem dL_law_1028 : decode cL_law 1028 = .ok (.iconst 1, 1) := by decide +kernel
theorem dL_law_1029 : decode cL_law 1029 = .ok (.iadd, 1) := by decide +kernel
theorem dL_law_1030 : decode cL_law 1030 = .ok (.iaload, 1) := by decide +kernel
theorem dL_law_1031 : decode cL_law 1031 = .ok (.aload_n 0, 1) := by decide +kernel
theorem dL_law_1032 : decode cL_law 1032 = .ok (.iload 4, 2) := by decide +kernel
theorem dL_law_1034 : decode cL_law 1034 = .ok (.iconst 2, 1) := by decide +kernel
theorem dL_law_1035 : decode cL_law 1035 = .ok (.iadd, 1) := by decide +kernel
theorem dL_law_1036 : decode cL_law 1036 = .ok (.iaload, 1) := by decide +kernel
theorem dL_law_1037 : decode cL_law 1037 = .ok (.aload_n 0, 1) := by decide +kernel
theorem dL_law_1038 : decode cL_law 1038 = .ok (.iload 4, 2) := by decide +kernel
theorem dL_law_1040 : decode cL_law 1040 = .ok (.iconst 3, 1) := by decide +kernel
theorem dL_law_1041 : decode cL_law 1041 = .ok (.iadd, 1) := by decide +kernel
theorem dL_law_1042 : decode cL_law 1042 = .ok (.iaload, 1) := by decide +kernel
theorem dL_law_1043 : decode cL_law 1043 = .ok (.aload_n 0, 1) := by decide +kernel
theorem dL_law_1044 : decode cL_law 1044 = .ok (.iload 4, 2) := by decide +kernel
theorem dL_law_1046 : decode cL_law 1046 = .ok (.iconst 4, 1) := by decide +kernel
theorem dL_law_1047 : decode cL_law 1047 = .ok (.iadd, 1) := by decide +kernel
theorem dL_law_1048 : decode cL_law 1048 = .ok (.iaload, 1) := by decide +kernel
theorem dL_law_1049 : decode cL_law 1049 = .ok (.ifCond .eq 7, 3) := by decide +kernel
theorem dL_law_1052 : decode cL_law 1052 = .ok (.iconst 1, 1) := by decide +kernel
theorem dL_law_1053 : decode cL_law 1053 = .ok (.goto 4, 3) := by decide +kernel
theorem dL_law_1056 : decode cL_law 1056 = .ok (.iconst 0, 1) := by decide +kernel
theorem dL_law_1057 : decode cL_law 1057 = .ok (.invokevirtual 125, 3) := by decide +kernel
theorem dL_law_1060 : decode cL_law 1060 = .ok (.aload_n 2, 1) := by decide +kernel
theorem dL_law_1061 : decode cL_law 1061 = .ok (.aload_n 0, 1) := by decide +kernel
theorem dL_law_1062 : decode cL_law 1062 = .ok (.iload 4, 2) := by decide +kernel
theorem dL_law_1064 : decode cL_law 1064 = .ok (.iconst 1, 1) := by decide +kernel
theorem dL_law_1065 : decode cL_law 1065 = .ok (.iadd, 1) := by decide +kernel
theorem dL_law_1066 : decode cL_law 1066 = .ok (.iaload, 1) := by decide +kernel
theorem dL_law_1067 : decode cL_law 1067 = .ok (.aload_n 0, 1) := by decide +kernel
theorem dL_law_1068 : decode cL_law 1068 = .ok (.iload 4, 2) := by decide +kernel
theorem dL_law_1070 : decode cL_law 1070 = .ok (.iconst 2, 1) := by decide +kernel
theorem dL_law_1071 : decode cL_law 1071 = .ok (.iadd, 1) := by decide +kernel
theorem dL_law_1072 : decode cL_law 1072 = .ok (.iaload, 1) := by decide +kernel
theorem dL_law_1073 : decode cL_law 1073 = .ok (.aload_n 0, 1) := by decide +kernel
theorem dL_law_1074 : decode cL_law 1074 = .ok (.iload 4, 2) := by decide +kernel
theorem dL_law_1076 : decode cL_law 1076 = .ok (.iconst 3, 1) := by decide +kernel
theorem dL_law_1077 : decode cL_law 1077 = .ok (.iadd, 1) := by decide +kernel
theorem dL_law_1078 : decode cL_law 1078 = .ok (.iaload, 1) := by decide +kernel
theorem dL_law_1079 : decode cL_law 1079 = .ok (.aload_n 0, 1) := by decide +kernel
theorem dL_law_1080 : decode cL_law 1080 = .ok (.iload 4, 2) := by decide +kernel
theorem dL_law_1082 : decode cL_law 1082 = .ok (.iconst 4, 1) := by decide +kernel
theorem dL_law_1083 : decode cL_law 1083 = .ok (.iadd, 1) := by decide +kernel
theorem dL_law_1084 : decode cL_law 1084 = .ok (.iaload, 1) := by decide +kernel
theorem dL_law_1085 : decode cL_law 1085 = .ok (.ifCond .eq 7, 3) := by decide +kernel
theorem dL_law_1088 : decode cL_law 1088 = .ok (.iconst 1, 1) := by decide +kernel
theorem dL_law_1089 : decode cL_law 1089 = .ok (.goto 4, 3) := by decide +kernel
theorem dL_law_1092 : decode cL_law 1092 = .ok (.iconst 0, 1) := by decide +kernel
theorem dL_law_1093 : decode cL_law 1093 = .ok (.invokevirtual 129, 3) := by decide +kernel
theorem dL_law_1096 : decode cL_law 1096 = .ok (.if_icmp .eq 242, 3) := by decide +kernel
theorem dL_law_1099 : decode cL_law 1099 = .ok (.iconst 0, 1) := by decide +kernel
theorem dL_law_1100 : decode cL_law 1100 = .ok (.ireturn, 1) := by decide +kernel
theorem dL_law_1101 : decode cL_law 1101 = .ok (.aload_n 1, 1) := by decide +kernel
theorem dL_law_1102 : decode cL_law 1102 = .ok (.aload_n 0, 1) := by decide +kernel
theorem dL_law_1103 : decode cL_law 1103 = .ok (.iload 4, 2) := by decide +kernel
theorem dL_law_1105 : decode cL_law 1105 = .ok (.iconst 1, 1) := by decide +kernel
theorem dL_law_1106 : decode cL_law 1106 = .ok (.iadd, 1) := by decide +kernel
theorem dL_law_1107 : decode cL_law 1107 = .ok (.iaload, 1) := by decide +kernel
theorem dL_law_1108 : decode cL_law 1108 = .ok (.invokevirtual 130, 3) := by decide +kernel
theorem dL_law_1111 : decode cL_law 1111 = .ok (.aload_n 2, 1) := by decide +kernel
theorem dL_law_1112 : decode cL_law 1112 = .ok (.aload_n 0, 1) := by decide +kernel
theorem dL_law_1113 : decode cL_law 1113 = .ok (.iload 4, 2) := by decide +kernel
theorem dL_law_1115 : decode cL_law 1115 = .ok (.iconst 1, 1) := by decide +kernel
theorem dL_law_1116 : decode cL_law 1116 = .ok (.iadd, 1) := by decide +kernel
theorem dL_law_1117 : decode cL_law 1117 = .ok (.iaload, 1) := by decide +kernel
theorem dL_law_1118 : decode cL_law 1118 = .ok (.invokevirtual 133, 3) := by decide +kernel
theorem dL_law_1121 : decode cL_law 1121 = .ok (.if_icmp .eq 217, 3) := by decide +kernel
theorem dL_law_1124 : decode cL_law 1124 = .ok (.iconst 0, 1) := by decide +kernel
theorem dL_law_1125 : decode cL_law 1125 = .ok (.ireturn, 1) := by decide +kernel
theorem dL_law_1126 : decode cL_law 1126 = .ok (.aload_n 1, 1) := by decide +kernel
theorem dL_law_1127 : decode cL_law 1127 = .ok (.aload_n 0, 1) := by decide +kernel
theorem dL_law_1128 : decode cL_law 1128 = .ok (.iload 4, 2) := by decide +kernel
theorem dL_law_1130 : decode cL_law 1130 = .ok (.iconst 1, 1) := by decide +kernel
theorem dL_law_1131 : decode cL_law 1131 = .ok (.iadd, 1) := by decide +kernel
theorem dL_law_1132 : decode cL_law 1132 = .ok (.iaload, 1) := by decide +kernel
theorem dL_law_1133 : decode cL_law 1133 = .ok (.invokevirtual 134, 3) := by decide +kernel
theorem dL_law_1136 : decode cL_law 1136 = .ok (.aload_n 2, 1) := by decide +kernel
theorem dL_law_1137 : decode cL_law 1137 = .ok (.aload_n 0, 1) := by decide +kernel
theorem dL_law_1138 : decode cL_law 1138 = .ok (.iload 4, 2) := by decide +kernel
theorem dL_law_1140 : decode cL_law 1140 = .ok (.iconst 1, 1) := by decide +kernel
theorem dL_law_1141 : decode cL_law 1141 = .ok (.iadd, 1) := by decide +kernel
theorem dL_law_1142 : decode cL_law 1142 = .ok (.iaload, 1) := by decide +kernel
theorem dL_law_1143 : decode cL_law 1143 = .ok (.invokevirtual 137, 3) := by decide +kernel
theorem dL_law_1146 : decode cL_law 1146 = .ok (.if_icmp .eq 192, 3) := by decide +kernel
theorem dL_law_1149 : decode cL_law 1149 = .ok (.iconst 0, 1) := by decide +kernel
theorem dL_law_1150 : decode cL_law 1150 = .ok (.ireturn, 1) := by decide +kernel
theorem dL_law_1151 : decode cL_law 1151 = .ok (.aload_n 1, 1) := by decide +kernel
theorem dL_law_1152 : decode cL_law 1152 = .ok (.aload_n 0, 1) := by decide +kernel
theorem dL_law_1153 : decode cL_law 1153 = .ok (.iload 4, 2) := by decide +kernel
theorem dL_law_1155 : decode cL_law 1155 = .ok (.iconst 1, 1) := by decide +kernel
theorem dL_law_1156 : decode cL_law 1156 = .ok (.iadd, 1) := by decide +kernel
theorem dL_law_1157 : decode cL_law 1157 = .ok (.iaload, 1) := by decide +kernel
theorem dL_law_1158 : decode cL_law 1158 = .ok (.invokevirtual 138, 3) := by decide +kernel
theorem dL_law_1161 : decode cL_law 1161 = .ok (.aload_n 2, 1) := by decide +kernel
theorem dL_law_1162 : decode cL_law 1162 = .ok (.aload_n 0, 1) := by decide +kernel
theorem dL_law_1163 : decode cL_law 1163 = .ok (.iload 4, 2) := by decide +kernel
theorem dL_law_1165 : decode cL_law 1165 = .ok (.iconst 1, 1) := by decide +kernel
theorem dL_law_1166 : decode cL_law 1166 = .ok (.iadd, 1) := by decide +kernel
theorem dL_law_1167 : decode cL_law 1167 = .ok (.iaload, 1) := by decide +kernel
theorem dL_law_1168 : decode cL_law 1168 = .ok (.invokevirtual 141, 3) := by decide +kernel
theorem dL_law_1171 : decode cL_law 1171 = .ok (.if_icmp .eq 167, 3) := by decide +kernel
theorem dL_law_1174 : decode cL_law 1174 = .ok (.iconst 0, 1) := by decide +kernel
theorem dL_law_1175 : decode cL_law 1175 = .ok (.ireturn, 1) := by decide +kernel
theorem dL_law_1176 : decode cL_law 1176 = .ok (.aload_n 1, 1) := by decide +kernel
theorem dL_law_1177 : decode cL_law 1177 = .ok (.aload_n 0, 1) := by decide +kernel
theorem dL_law_1178 : decode cL_law 1178 = .ok (.iload 4, 2) := by decide +kernel
theorem dL_law_1180 : decode cL_law 1180 = .ok (.iconst 1, 1) := by decide +kernel
theorem dL_law_1181 : decode cL_law 1181 = .ok (.iadd, 1) := by decide +kernel
theorem dL_law_1182 : decode cL_law 1182 = .ok (.iaload, 1) := by decide +kernel
theorem dL_law_1183 : decode cL_law 1183 = .ok (.aload_n 0, 1) := by decide +kernel
theorem dL_law_1184 : decode cL_law 1184 = .ok (.iload 4, 2) := by decide +kernel
theorem dL_law_1186 : decode cL_law 1186 = .ok (.iconst 2, 1) := by decide +kernel
theorem dL_law_1187 : decode cL_law 1187 = .ok (.iadd, 1) := by decide +kernel
theorem dL_law_1188 : decode cL_law 1188 = .ok (.iaload, 1) := by decide +kernel
theorem dL_law_1189 : decode cL_law 1189 = .ok (.aload_n 0, 1) := by decide +kernel
theorem dL_law_1190 : decode cL_law 1190 = .ok (.iload 4, 2) := by decide +kernel
theorem dL_law_1192 : decode cL_law 1192 = .ok (.iconst 3, 1) := by decide +kernel
theorem dL_law_1193 : decode cL_law 1193 = .ok (.iadd, 1) := by decide +kernel
theorem dL_law_1194 : decode cL_law 1194 = .ok (.iaload, 1) := by decide +kernel
theorem dL_law_1195 : decode cL_law 1195 = .ok (.invokevirtual 142, 3) := by decide +kernel
theorem dL_law_1198 : decode cL_law 1198 = .ok (.aload_n 2, 1) := by decide +kernel
theorem dL_law_1199 : decode cL_law 1199 = .ok (.aload_n 0, 1) := by decide +kernel
theorem dL_law_1200 : decode cL_law 1200 = .ok (.iload 4, 2) := by decide +kernel
theorem dL_law_1202 : decode cL_law 1202 = .ok (.iconst 1, 1) := by decide +kernel
theorem dL_law_1203 : decode cL_law 1203 = .ok (.iadd, 1) := by decide +kernel
theorem dL_law_1204 : decode cL_law 1204 = .ok (.iaload, 1) := by decide +kernel
theorem dL_law_1205 : decode cL_law 1205 = .ok (.aload_n 0, 1) := by decide +kernel
theorem dL_law_1206 : decode cL_law 1206 = .ok (.iload 4, 2) := by decide +kernel
theorem dL_law_1208 : decode cL_law 1208 = .ok (.iconst 2, 1) := by decide +kernel
theorem dL_law_1209 : decode cL_law 1209 = .ok (.iadd, 1) := by decide +kernel
theorem dL_law_1210 : decode cL_law 1210 = .ok (.iaload, 1) := by decide +kernel
theorem dL_law_1211 : decode cL_law 1211 = .ok (.aload_n 0, 1) := by decide +kernel
theorem dL_law_1212 : decode cL_law 1212 = .ok (.iload 4, 2) := by decide +kernel
theorem dL_law_1214 : decode cL_law 1214 = .ok (.iconst 3, 1) := by decide +kernel
theorem dL_law_1215 : decode cL_law 1215 = .ok (.iadd, 1) := by decide +kernel
theorem dL_law_1216 : decode cL_law 1216 = .ok (.iaload, 1) := by decide +kernel
theorem dL_law_1217 : decode cL_law 1217 = .ok (.invokevirtual 145, 3) := by decide +kernel
theorem dL_law_1220 : decode cL_law 1220 = .ok (.if_icmp .eq 118, 3) := by decide +kernel
theorem dL_law_1223 : decode cL_law 1223 = .ok (.iconst 0, 1) := by decide +kernel
theorem dL_law_1224 : decode cL_law 1224 = .ok (.ireturn, 1) := by decide +kernel
theorem dL_law_1225 : decode cL_law 1225 = .ok (.aload_n 1, 1) := by decide +kernel
theorem dL_law_1226 : decode cL_law 1226 = .ok (.aload_n 0, 1) := by decide +kernel
theorem dL_law_1227 : decode cL_law 1227 = .ok (.iload 4, 2) := by decide +kernel
theorem dL_law_1229 : decode cL_law 1229 = .ok (.iconst 1, 1) := by decide +kernel
theorem dL_law_1230 : decode cL_law 1230 = .ok (.iadd, 1) := by decide +kernel
theorem dL_law_1231 : decode cL_law 1231 = .ok (.iaload, 1) := by decide +kernel
theorem dL_law_1232 : decode cL_law 1232 = .ok (.aload_n 0, 1) := by decide +kernel
theorem dL_law_1233 : decode cL_law 1233 = .ok (.iload 4, 2) := by decide +kernel
theorem dL_law_1235 : decode cL_law 1235 = .ok (.iconst 2, 1) := by decide +kernel
theorem dL_law_1236 : decode cL_law 1236 = .ok (.iadd, 1) := by decide +kernel
theorem dL_law_1237 : decode cL_law 1237 = .ok (.iaload, 1) := by decide +kernel
theorem dL_law_1238 : decode cL_law 1238 = .ok (.aload_n 0, 1) := by decide +kernel
theorem dL_law_1239 : decode cL_law 1239 = .ok (.iload 4, 2) := by decide +kernel
theorem dL_law_1241 : decode cL_law 1241 = .ok (.iconst 3, 1) := by decide +kernel
theorem dL_law_1242 : decode cL_law 1242 = .ok (.iadd, 1) := by decide +kernel
theorem dL_law_1243 : decode cL_law 1243 = .ok (.iaload, 1) := by decide +kernel
theorem dL_law_1244 : decode cL_law 1244 = .ok (.invokevirtual 146, 3) := by decide +kernel
theorem dL_law_1247 : decode cL_law 1247 = .ok (.aload_n 2, 1) := by decide +kernel
theorem dL_law_1248 : decode cL_law 1248 = .ok (.aload_n 0, 1) := by decide +kernel
theorem dL_law_1249 : decode cL_law 1249 = .ok (.iload 4, 2) := by decide +kernel
theorem dL_law_1251 : decode cL_law 1251 = .ok (.iconst 1, 1) := by decide +kernel
theorem dL_law_1252 : decode cL_law 1252 = .ok (.iadd, 1) := by decide +kernel
theorem dL_law_1253 : decode cL_law 1253 = .ok (.iaload, 1) := by decide +kernel
theorem dL_law_1254 : decode cL_law 1254 = .ok (.aload_n 0, 1) := by decide +kernel
theorem dL_law_1255 : decode cL_law 1255 = .ok (.iload 4, 2) := by decide +kernel
theorem dL_law_1257 : decode cL_law 1257 = .ok (.iconst 2, 1) := by decide +kernel
theorem dL_law_1258 : decode cL_law 1258 = .ok (.iadd, 1) := by decide +kernel
theorem dL_law_1259 : decode cL_law 1259 = .ok (.iaload, 1) := by decide +kernel
theorem dL_law_1260 : decode cL_law 1260 = .ok (.aload_n 0, 1) := by decide +kernel
theorem dL_law_1261 : decode cL_law 1261 = .ok (.iload 4, 2) := by decide +kernel
theorem dL_law_1263 : decode cL_law 1263 = .ok (.iconst 3, 1) := by decide +kernel
theorem dL_law_1264 : decode cL_law 1264 = .ok (.iadd, 1) := by decide +kernel
theorem dL_law_1265 : decode cL_law 1265 = .ok (.iaload, 1) := by decide +kernel
theorem dL_law_1266 : decode cL_law 1266 = .ok (.invokevirtual 149, 3) := by decide +kernel
theorem dL_law_1269 : decode cL_law 1269 = .ok (.if_icmp .eq 69, 3) := by decide +kernel
theorem dL_law_1272 : decode cL_law 1272 = .ok (.iconst 0, 1) := by decide +kernel
theorem dL_law_1273 : decode cL_law 1273 = .ok (.ireturn, 1) := by decide +kernel
theorem dL_law_1274 : decode cL_law 1274 = .ok (.aload_n 1, 1) := by decide +kernel
theorem dL_law_1275 : decode cL_law 1275 = .ok (.invokevirtual 150, 3) := by decide +kernel
theorem dL_law_1278 : decode cL_law 1278 = .ok (.aload_n 2, 1) := by decide +kernel
theorem dL_law_1279 : decode cL_law 1279 = .ok (.invokevirtual 153, 3) := by decide +kernel
theorem dL_law_1282 : decode cL_law 1282 = .ok (.if_icmp .eq 56, 3) := by decide +kernel
theorem dL_law_1285 : decode cL_law 1285 = .ok (.iconst 0, 1) := by decide +kernel
theorem dL_law_1286 : decode cL_law 1286 = .ok (.ireturn, 1) := by decide +kernel
theorem dL_law_1287 : decode cL_law 1287 = .ok (.aload_n 1, 1) := by decide +kernel
theorem dL_law_1288 : decode cL_law 1288 = .ok (.invokevirtual 154, 3) := by decide +kernel
theorem dL_law_1291 : decode cL_law 1291 = .ok (.aload_n 2, 1) := by decide +kernel
theorem dL_law_1292 : decode cL_law 1292 = .ok (.invokevirtual 157, 3) := by decide +kernel
theorem dL_law_1295 : decode cL_law 1295 = .ok (.if_icmp .eq 43, 3) := by decide +kernel
theorem dL_law_1298 : decode cL_law 1298 = .ok (.iconst 0, 1) := by decide +kernel
theorem dL_law_1299 : decode cL_law 1299 = .ok (.ireturn, 1) := by decide +kernel
theorem dL_law_1300 : decode cL_law 1300 = .ok (.aload_n 1, 1) := by decide +kernel
theorem dL_law_1301 : decode cL_law 1301 = .ok (.invokevirtual 158, 3) := by decide +kernel
theorem dL_law_1304 : decode cL_law 1304 = .ok (.aload_n 2, 1) := by decide +kernel
theorem dL_law_1305 : decode cL_law 1305 = .ok (.invokevirtual 161, 3) := by decide +kernel
theorem dL_law_1308 : decode cL_law 1308 = .ok (.if_icmp .eq 30, 3) := by decide +kernel
theorem dL_law_1311 : decode cL_law 1311 = .ok (.iconst 0, 1) := by decide +kernel
theorem dL_law_1312 : decode cL_law 1312 = .ok (.ireturn, 1) := by decide +kernel
theorem dL_law_1313 : decode cL_law 1313 = .ok (.aload_n 1, 1) := by decide +kernel
theorem dL_law_1314 : decode cL_law 1314 = .ok (.aload_n 0, 1) := by decide +kernel
theorem dL_law_1315 : decode cL_law 1315 = .ok (.iload 4, 2) := by decide +kernel
theorem dL_law_1317 : decode cL_law 1317 = .ok (.iconst 1, 1) := by decide +kernel
theorem dL_law_1318 : decode cL_law 1318 = .ok (.iadd, 1) := by decide +kernel
theorem dL_law_1319 : decode cL_law 1319 = .ok (.iaload, 1) := by decide +kernel
theorem dL_law_1320 : decode cL_law 1320 = .ok (.invokevirtual 162, 3) := by decide +kernel
theorem dL_law_1323 : decode cL_law 1323 = .ok (.aload_n 2, 1) := by decide +kernel
theorem dL_law_1324 : decode cL_law 1324 = .ok (.aload_n 0, 1) := by decide +kernel
theorem dL_law_1325 : decode cL_law 1325 = .ok (.iload 4, 2) := by decide +kernel
theorem dL_law_1327 : decode cL_law 1327 = .ok (.iconst 1, 1) := by decide +kernel
theorem dL_law_1328 : decode cL_law 1328 = .ok (.iadd, 1) := by decide +kernel
theorem dL_law_1329 : decode cL_law 1329 = .ok (.iaload, 1) := by decide +kernel
theorem dL_law_1330 : decode cL_law 1330 = .ok (.invokevirtual 165, 3) := by decide +kernel
theorem dL_law_1333 : decode cL_law 1333 = .ok (.if_icmp .eq 5, 3) := by decide +kernel
theorem dL_law_1336 : decode cL_law 1336 = .ok (.iconst 0, 1) := by decide +kernel
theorem dL_law_1337 : decode cL_law 1337 = .ok (.ireturn, 1) := by decide +kernel
theorem dL_law_1338 : decode cL_law 1338 = .ok (.iinc 4 6, 3) := by decide +kernel
theorem dL_law_1341 : decode cL_law 1341 = .ok (.goto (-1318), 3) := by decide +kernel
theorem dL_law_1344 : decode cL_law 1344 = .ok (.iconst 1, 1) := by decide +kernel
theorem dL_law_1345 : decode cL_law 1345 = .ok (.ireturn, 1) := by decide +kernel
set_option maxHeartbeats 8000000 in
set_option maxRecDepth 100000 in
theorem law_loop {p : Program} {l : Launch} {e : Env} {s : State} {m : MethodId} {below : List Frame} {meth : Method} {c : Code} {bs L : Nat} {xs : Nat → Int32} {D : va_G} {cid : FieldType → ClassId} {b sa sv B0 : Nat} {A : Nat → Prop} {E : State → Prop} {Rel : xD → Prop} (hL : L ≤ 3072)
    (S : xM p s m #[Value.ref bs] meth c code 7 R_law D cid A b false 0 sa sv B0) (hr : meth.sig.returnType = ret) (hX : va_X bs L xs s s.heap) (hbs : bs < s.heap.size) (hbA : ¬ A bs) (hAs : ∀ q, A q → s.heap.size ≤ q)
    (hbl : ∀ (U : State) (g : JFrame) (mk : MethodId) (a : Array Value), E U → E (U.calling g mk a)) (hE : ∀ U : State, s.WarmedH U.vm → (∀ q : Nat, q < s.heap.size → U.heap[q]? = s.heap[q]?) → E U)
    (hLW : ∀ (a1 a2 r : Int32) (d dz : xD), f_L_walker shA 0 a1 a2 139 d = some (r, dz) → xMetW E l D cid b sa sv B0 [.ref (b + 0), .int a1, .int a2, .ref (b + 139)] shA d (some (.int r)) dz)
    (h_feed : L2_feed Rel) (h_text : L2_text Rel) (h_fault : L2_fault Rel) (h_named : L2_named Rel) (h_walker : L2_walker Rel) (h_bench : L2_bench Rel) (h_restOf : L2_restOf Rel) (h_piano : L2_piano Rel) (h_law : L2_law Rel) (h_sit : L2_sit Rel) (h_rise : L2_rise Rel) (h_push : L2_push Rel) (h_go : L2_go Rel) (h_ahead : L2_ahead Rel) (h_meet : L2_meet Rel) (h_pass : L2_pass Rel) (h_out : L2_out Rel) (h_best : L2_best Rel) (h_cover : L2_cover Rel) (h_carry : L2_carry Rel) (h_rests : L2_rests Rel) (h_rest : L2_rest Rel) (h_quiet : L2_quiet Rel) (h_see : L2_see Rel) (h_strike : L2_strike Rel) (h_known : L2_known Rel) (h_paces : L2_paces Rel) (h_chance : L2_chance Rel) (h_tried : L2_tried Rel) (h_undo : L2_undo Rel) (h_keep : L2_keep Rel) (h_back : L2_back Rel) (h_count : L2_count Rel) :
    ∀ (n i ce sl : Nat) (d : xD) (H : Heap) (locs : List Loc) (ls : Array Slot), i ≤ L → L - i < n → ce + n ≤ 601024 → sl + 6 * n ≤ 7293034 → Rel d → lv_has ls 7 [(0, .ref bs), (1, .ref (b + 0)), (2, .ref (b + 99)), (3, .ref (b + 139)), (4, .int (nI i))] → xG D cid b A shA d s H locs → W p l e room_1 s m #[Value.ref bs] below meth c H locs ce sl (lw_Z below #[Value.ref bs] s) (F0 m 23 ls []) := by
  have hx := S.1
  have hb := S.2.1
  have hml := S.2.2.1
  have hown := S.2.2.2.1
  have hts := S.2.2.2.2.1
  intro n
  induction n with
  | zero => intro i ce sl d H locs ls h1 h2; exact absurd h2 (by omega)
  | succ n ih =>
    intro i ce sl d H locs ls hi hn hce hsl hRel hl G
    have K1338 : ∀ (ce' sl' : Nat) (d : xD) (H : Heap) (locs : List Loc) (ls : Array Slot), i + 6 ≤ L → ce' ≤ ce + 1 → sl' ≤ sl + 6 → Rel d → lv_has ls 7 [(0, .ref bs), (1, .ref (b + 0)), (2, .ref (b + 99)), (3, .ref (b + 139)), (4, .int (nI i))] → xG D cid b A shA d s H locs → W p l e room_1 s m #[Value.ref bs] below meth c H locs ce' sl' (lw_Z below #[Value.ref bs] s) (F0 m 1338 ls []) := by
      intro ce' sl' d H locs ls h6 h7 h8 hRel hl G
      refine lv_iinc (v := (nI i + 6)) (lv' := [(4, .int (nI i + 6)), (0, .ref bs), (1, .ref (b + 0)), (2, .ref (b + 99)), (3, .ref (b + 139))]) hx hb dL_law_1338 hl (k := 4) rfl rfl (by decide) rfl (fun ls hl => ?_)
      refine lv_goto (tgt := 23) hx hb dL_law_1341 (by decide) ?_
      have h9 : nI i + 6 = nI (i + 6) := nI_add i 6
      rw [h9] at hl
      refine W.widen (k := ce + 1) (n := sl + 6) h7 h8 ?_
      exact ih (i + 6) (ce + 1) (sl + 6) d _ _ ls h6 (by omega) (by omega) (by omega) hRel (lv_sub hl [1, 2, 3, 4, 0] rfl) G
    refine lv_iload hx hb dL_law_23 (lv_at hl 4 rfl) ?_
    refine lv_aload_n hx hb dL_law_25 rfl (lv_at hl 0 rfl) ?_
    refine va_slen hx hb hX hbs hbA G.2.2 dL_law_26 ?_
    refine lv_bipush (v := (6 : Int32)) hx hb dL_law_27 (by decide) ?_
    refine lv_isub hx hb dL_law_29 ?_
    refine lv_icmp_gt (tgt := 1344) hx hb dL_law_30 (by decide) (fun c => ?_) (fun c => ?_)
    · refine lv_iconst (v := 1) hx hb dL_law_1344 (by decide) ?_
      refine va_forget (fun q hq => hAs _ (G.2.2.2.2 q hq)) ?_
      refine W.widen (k := 601024) (n := 7293034) (by omega) (by omega) ?_
      exact lw_ret hx hb hr S.2.2.2.2.2.2.2.1 dL_law_1345
    · have h6 : i + 6 ≤ L := x_sub6 hL hi c
      have v0 : vp_in (nI i) L := vp_in_nI (by omega) (by omega)
      have v1 : vp_in (nI i + 1) L := x_vp hL (k := 1) (by omega) rfl
      have v2 : vp_in (nI i + 2) L := x_vp hL (k := 2) (by omega) rfl
      have v3 : vp_in (nI i + 3) L := x_vp hL (k := 3) (by omega) rfl
      have v4 : vp_in (nI i + 4) L := x_vp hL (k := 4) (by omega) rfl
      have v5 : vp_in (nI i + 5) L := x_vp hL (k := 5) (by omega) rfl
      refine lv_aload_n hx hb dL_law_33 rfl (lv_at hl 0 rfl) ?_
      refine lv_iload hx hb dL_law_34 (lv_at hl 4 rfl) ?_
      refine va_sld hx hb hX hbs hbA G.2.2 v0 dL_law_36 ?_
      refine lv_bipush (v := (63 : Int32)) hx hb dL_law_37 (by decide) ?_
      refine lv_iand hx hb dL_law_39 ?_
      refine lv_topi (fun sel _ => ?_)
      by_cases c0 : sel = (0 : Int32)
      · refine xr_tab (k := (0 : Int32)) (tgt := 188) hx hb c0 dL_law_40 (by decide) (by decide) rfl (by decide) ?_
        refine lv_aload_n hx hb dL_law_188 rfl (lv_at hl 1 rfl) ?_
        refine lv_aload_n hx hb dL_law_189 rfl (lv_at hl 0 rfl) ?_
        refine lv_iload hx hb dL_law_190 (lv_at hl 4 rfl) ?_
        refine lv_iconst (v := (1 : Int32)) hx hb dL_law_192 (by decide) ?_
        refine lv_iadd hx hb dL_law_193 ?_
        refine va_sld hx hb hX hbs hbA G.2.2 v1 dL_law_194 ?_
        refine lv_aload_n hx hb dL_law_195 rfl (lv_at hl 0 rfl) ?_
        refine lv_iload hx hb dL_law_196 (lv_at hl 4 rfl) ?_
        refine lv_iconst (v := (2 : Int32)) hx hb dL_law_198 (by decide) ?_
        refine lv_iadd hx hb dL_law_199 ?_
        refine va_sld hx hb hX hbs hbA G.2.2 v2 dL_law_200 ?_
        refine lv_aload_n hx hb dL_law_201 rfl (lv_at hl 0 rfl) ?_
        refine lv_iload hx hb dL_law_202 (lv_at hl 4 rfl) ?_
        refine lv_iconst (v := (3 : Int32)) hx hb dL_law_204 (by decide) ?_
        refine lv_iadd hx hb dL_law_205 ?_
        refine va_sld hx hb hX hbs hbA G.2.2 v3 dL_law_206 ?_
        refine lv_aload_n hx hb dL_law_207 rfl (lv_at hl 0 rfl) ?_
        refine lv_iload hx hb dL_law_208 (lv_at hl 4 rfl) ?_
        refine lv_iconst (v := (4 : Int32)) hx hb dL_law_210 (by decide) ?_
        refine lv_iadd hx hb dL_law_211 ?_
        refine va_sld hx hb hX hbs hbA G.2.2 v4 dL_law_212 ?_
        refine lv_aload_n hx hb dL_law_213 rfl (lv_at hl 0 rfl) ?_
        refine lv_iload hx hb dL_law_214 (lv_at hl 4 rfl) ?_
        refine lv_iconst (v := (5 : Int32)) hx hb dL_law_216 (by decide) ?_
        refine lv_iadd hx hb dL_law_217 ?_
        refine va_sld hx hb hX hbs hbA G.2.2 v5 dL_law_218 ?_
        obtain ⟨r, d1, d2, e1, e2, hR⟩ := h_feed d (xs (nI i + 1).toNatClampNeg) (xs (nI i + 2).toNatClampNeg) (xs (nI i + 3).toNatClampNeg) (xs (nI i + 4).toNatClampNeg) (xs (nI i + 5).toNatClampNeg) hRel
        refine xr_callV (ci := 9) (q := 0) (As := [.int (xs (nI i + 1).toNatClampNeg), .int (xs (nI i + 2).toNatClampNeg), .int (xs (nI i + 3).toNatClampNeg), .int (xs (nI i + 4).toNatClampNeg), .int (xs (nI i + 5).toNatClampNeg)]) (rest := []) (st1 := [.int r]) S G hl.1 (fun h => by cases h) (mt_X9_feed l D cid b false sa sv B0 shA 0 (xs (nI i + 1).toNatClampNeg) (xs (nI i + 2).toNatClampNeg) (xs (nI i + 3).toNatClampNeg) (xs (nI i + 4).toNatClampNeg) (xs (nI i + 5).toNatClampNeg) d _ _ e1) shA_0 (by decide) kw_527 kw_528 kw_529 kw_1 kw_530 hd_X9_feed ⟨Nat.le_of_ble_eq_true rfl, Nat.le_of_ble_eq_true rfl⟩ rfl rfl rfl (Nat.le_of_ble_eq_true rfl) ⟨by show ce + 0 ≤ 601024; omega, by show sl + 0 ≤ 7293034; omega⟩ dL_law_219 (fun H locs G => ?_)
        refine lv_aload_n hx hb dL_law_222 rfl (lv_at hl 2 rfl) ?_
        refine lv_aload_n hx hb dL_law_223 rfl (lv_at hl 0 rfl) ?_
        refine lv_iload hx hb dL_law_224 (lv_at hl 4 rfl) ?_
        refine lv_iconst (v := (1 : Int32)) hx hb dL_law_226 (by decide) ?_
        refine lv_iadd hx hb dL_law_227 ?_
        refine va_sld hx hb hX hbs hbA G.2.2 v1 dL_law_228 ?_
        refine lv_aload_n hx hb dL_law_229 rfl (lv_at hl 0 rfl) ?_
        refine lv_iload hx hb dL_law_230 (lv_at hl 4 rfl) ?_
        refine lv_iconst (v := (2 : Int32)) hx hb dL_law_232 (by decide) ?_
        refine lv_iadd hx hb dL_law_233 ?_
        refine va_sld hx hb hX hbs hbA G.2.2 v2 dL_law_234 ?_
        refine lv_aload_n hx hb dL_law_235 rfl (lv_at hl 0 rfl) ?_
        refine lv_iload hx hb dL_law_236 (lv_at hl 4 rfl) ?_
        refine lv_iconst (v := (3 : Int32)) hx hb dL_law_238 (by decide) ?_
        refine lv_iadd hx hb dL_law_239 ?_
        refine va_sld hx hb hX hbs hbA G.2.2 v3 dL_law_240 ?_
        refine lv_aload_n hx hb dL_law_241 rfl (lv_at hl 0 rfl) ?_
        refine lv_iload hx hb dL_law_242 (lv_at hl 4 rfl) ?_
        refine lv_iconst (v := (4 : Int32)) hx hb dL_law_244 (by decide) ?_
        refine lv_iadd hx hb dL_law_245 ?_
        refine va_sld hx hb hX hbs hbA G.2.2 v4 dL_law_246 ?_
        refine lv_aload_n hx hb dL_law_247 rfl (lv_at hl 0 rfl) ?_
        refine lv_iload hx hb dL_law_248 (lv_at hl 4 rfl) ?_
        refine lv_iconst (v := (5 : Int32)) hx hb dL_law_250 (by decide) ?_
        refine lv_iadd hx hb dL_law_251 ?_
        refine va_sld hx hb hX hbs hbA G.2.2 v5 dL_law_252 ?_
        refine xr_callV (ci := 10) (q := 99) (As := [.int (xs (nI i + 1).toNatClampNeg), .int (xs (nI i + 2).toNatClampNeg), .int (xs (nI i + 3).toNatClampNeg), .int (xs (nI i + 4).toNatClampNeg), .int (xs (nI i + 5).toNatClampNeg)]) (rest := [.int r]) (st1 := [.int r, .int r]) S G hl.1 (fun h => by cases h) (mt_X10_feed l D cid b false sa sv B0 shA 99 (xs (nI i + 1).toNatClampNeg) (xs (nI i + 2).toNatClampNeg) (xs (nI i + 3).toNatClampNeg) (xs (nI i + 4).toNatClampNeg) (xs (nI i + 5).toNatClampNeg) d1 _ _ e2) shA_99 (by decide) kw_1368 kw_1369 kw_1370 kw_17 kw_1371 hd_X10_feed ⟨Nat.le_of_ble_eq_true rfl, Nat.le_of_ble_eq_true rfl⟩ rfl rfl rfl (Nat.le_of_ble_eq_true rfl) ⟨by show ce + 0 ≤ 601024; omega, by show sl + 0 ≤ 7293034; omega⟩ dL_law_253 (fun H locs G => ?_)
        refine lv_icmp_eq (tgt := 1338) hx hb dL_law_256 (by decide) (fun _ => ?_) (fun c => absurd rfl c)
        exact K1338 _ _ d2 _ _ ls h6 (by show ce + 0 ≤ ce + 1; omega) (by show sl + 0 ≤ sl + 6; omega) hR (lv_sub hl [0, 1, 2, 3, 4] rfl) G
      by_cases c1 : sel = (1 : Int32)
      · refine xr_tab (k := (1 : Int32)) (tgt := 261) hx hb c1 dL_law_40 (by decide) (by decide) rfl (by decide) ?_
        refine lv_aload_n hx hb dL_law_261 rfl (lv_at hl 1 rfl) ?_
        refine lv_aload_n hx hb dL_law_262 rfl (lv_at hl 0 rfl) ?_
        refine lv_iload hx hb dL_law_263 (lv_at hl 4 rfl) ?_
        refine lv_iconst (v := (1 : Int32)) hx hb dL_law_265 (by decide) ?_
        refine lv_iadd hx hb dL_law_266 ?_
        refine va_sld hx hb hX hbs hbA G.2.2 v1 dL_law_267 ?_
        obtain ⟨r, d1, d2, e1, e2, hR⟩ := h_text d (xs (nI i + 1).toNatClampNeg) hRel
        refine xr_callV (ci := 9) (q := 0) (As := [.int (xs (nI i + 1).toNatClampNeg)]) (rest := []) (st1 := [.int r]) S G hl.1 (fun h => by cases h) (mt_X9_text l D cid b false sa sv B0 shA 0 (xs (nI i + 1).toNatClampNeg) d _ _ e1) shA_0 (by decide) kw_535 kw_536 kw_537 kw_1 kw_538 hd_X9_text ⟨Nat.le_of_ble_eq_true rfl, Nat.le_of_ble_eq_true rfl⟩ rfl rfl rfl (Nat.le_of_ble_eq_true rfl) ⟨by show ce + 0 ≤ 601024; omega, by show sl + 0 ≤ 7293034; omega⟩ dL_law_268 (fun H locs G => ?_)
        refine lv_aload_n hx hb dL_law_271 rfl (lv_at hl 2 rfl) ?_
        refine lv_aload_n hx hb dL_law_272 rfl (lv_at hl 0 rfl) ?_
        refine lv_iload hx hb dL_law_273 (lv_at hl 4 rfl) ?_
        refine lv_iconst (v := (1 : Int32)) hx hb dL_law_275 (by decide) ?_
        refine lv_iadd hx hb dL_law_276 ?_
        refine va_sld hx hb hX hbs hbA G.2.2 v1 dL_law_277 ?_
        refine xr_callV (ci := 10) (q := 99) (As := [.int (xs (nI i + 1).toNatClampNeg)]) (rest := [.int r]) (st1 := [.int r, .int r]) S G hl.1 (fun h => by cases h) (mt_X10_text l D cid b false sa sv B0 shA 99 (xs (nI i + 1).toNatClampNeg) d1 _ _ e2) shA_99 (by decide) kw_1372 kw_1373 kw_1374 kw_17 kw_1375 hd_X10_text ⟨Nat.le_of_ble_eq_true rfl, Nat.le_of_ble_eq_true rfl⟩ rfl rfl rfl (Nat.le_of_ble_eq_true rfl) ⟨by show ce + 0 ≤ 601024; omega, by show sl + 0 ≤ 7293034; omega⟩ dL_law_278 (fun H locs G => ?_)
        refine lv_icmp_eq (tgt := 1338) hx hb dL_law_281 (by decide) (fun _ => ?_) (fun c => absurd rfl c)
        exact K1338 _ _ d2 _ _ ls h6 (by show ce + 0 ≤ ce + 1; omega) (by show sl + 0 ≤ sl + 6; omega) hR (lv_sub hl [0, 1, 2, 3, 4] rfl) G
      by_cases c2 : sel = (2 : Int32)
      · refine xr_tab (k := (2 : Int32)) (tgt := 286) hx hb c2 dL_law_40 (by decide) (by decide) rfl (by decide) ?_
        refine lv_aload_n hx hb dL_law_286 rfl (lv_at hl 1 rfl) ?_
        refine lv_aload_n hx hb dL_law_287 rfl (lv_at hl 0 rfl) ?_
        refine lv_iload hx hb dL_law_288 (lv_at hl 4 rfl) ?_
        refine lv_iconst (v := (1 : Int32)) hx hb dL_law_290 (by decide) ?_
        refine lv_iadd hx hb dL_law_291 ?_
        refine va_sld hx hb hX hbs hbA G.2.2 v1 dL_law_292 ?_
        obtain ⟨r, d1, d2, e1, e2, hR⟩ := h_fault d (xs (nI i + 1).toNatClampNeg) hRel
        refine xr_callV (ci := 9) (q := 0) (As := [.int (xs (nI i + 1).toNatClampNeg)]) (rest := []) (st1 := [.int r]) S G hl.1 (fun h => by cases h) (mt_X9_fault l D cid b false sa sv B0 shA 0 (xs (nI i + 1).toNatClampNeg) d _ _ e1) shA_0 (by decide) kw_718 kw_719 kw_720 kw_1 kw_721 hd_X9_fault ⟨Nat.le_of_ble_eq_true rfl, Nat.le_of_ble_eq_true rfl⟩ rfl rfl rfl (Nat.le_of_ble_eq_true rfl) ⟨by show ce + 0 ≤ 601024; omega, by show sl + 0 ≤ 7293034; omega⟩ dL_law_293 (fun H locs G => ?_)
        refine lv_aload_n hx hb dL_law_296 rfl (lv_at hl 2 rfl) ?_
        refine lv_aload_n hx hb dL_law_297 rfl (lv_at hl 0 rfl) ?_
        refine lv_iload hx hb dL_law_298 (lv_at hl 4 rfl) ?_
        refine lv_iconst (v := (1 : Int32)) hx hb dL_law_300 (by decide) ?_
        refine lv_iadd hx hb dL_law_301 ?_
        refine va_sld hx hb hX hbs hbA G.2.2 v1 dL_law_302 ?_
        refine xr_callV (ci := 10) (q := 99) (As := [.int (xs (nI i + 1).toNatClampNeg)]) (rest := [.int r]) (st1 := [.int r, .int r]) S G hl.1 (fun h => by cases h) (mt_X10_fault l D cid b false sa sv B0 shA 99 (xs (nI i + 1).toNatClampNeg) d1 _ _ e2) shA_99 (by decide) kw_1492 kw_1493 kw_1494 kw_17 kw_1495 hd_X10_fault ⟨Nat.le_of_ble_eq_true rfl, Nat.le_of_ble_eq_true rfl⟩ rfl rfl rfl (Nat.le_of_ble_eq_true rfl) ⟨by show ce + 0 ≤ 601024; omega, by show sl + 0 ≤ 7293034; omega⟩ dL_law_303 (fun H locs G => ?_)
        refine lv_icmp_eq (tgt := 1338) hx hb dL_law_306 (by decide) (fun _ => ?_) (fun c => absurd rfl c)
        exact K1338 _ _ d2 _ _ ls h6 (by show ce + 0 ≤ ce + 1; omega) (by show sl + 0 ≤ sl + 6; omega) hR (lv_sub hl [0, 1, 2, 3, 4] rfl) G
      by_cases c3 : sel = (3 : Int32)
      · refine xr_tab (k := (3 : Int32)) (tgt := 311) hx hb c3 dL_law_40 (by decide) (by decide) rfl (by decide) ?_
        refine lv_aload_n hx hb dL_law_311 rfl (lv_at hl 1 rfl) ?_
        refine lv_aload_n hx hb dL_law_312 rfl (lv_at hl 0 rfl) ?_
        refine lv_iload hx hb dL_law_313 (lv_at hl 4 rfl) ?_
        refine lv_iconst (v := (1 : Int32)) hx hb dL_law_315 (by decide) ?_
        refine lv_iadd hx hb dL_law_316 ?_
        refine va_sld hx hb hX hbs hbA G.2.2 v1 dL_law_317 ?_
        refine lv_aload_n hx hb dL_law_318 rfl (lv_at hl 0 rfl) ?_
        refine lv_iload hx hb dL_law_319 (lv_at hl 4 rfl) ?_
        refine lv_iconst (v := (2 : Int32)) hx hb dL_law_321 (by decide) ?_
        refine lv_iadd hx hb dL_law_322 ?_
        refine va_sld hx hb hX hbs hbA G.2.2 v2 dL_law_323 ?_
        obtain ⟨r, d1, d2, e1, e2, hR⟩ := h_named d (xs (nI i + 1).toNatClampNeg) (xs (nI i + 2).toNatClampNeg) hRel
        refine xr_callV (ci := 9) (q := 0) (As := [.int (xs (nI i + 1).toNatClampNeg), .int (xs (nI i + 2).toNatClampNeg)]) (rest := []) (st1 := [.int r]) S G hl.1 (fun h => by cases h) (mt_X9_named l D cid b false sa sv B0 shA 0 (xs (nI i + 1).toNatClampNeg) (xs (nI i + 2).toNatClampNeg) d _ _ e1) shA_0 (by decide) kw_722 kw_723 kw_724 kw_1 kw_725 hd_X9_named ⟨Nat.le_of_ble_eq_true rfl, Nat.le_of_ble_eq_true rfl⟩ rfl rfl rfl (Nat.le_of_ble_eq_true rfl) ⟨by show ce + 0 ≤ 601024; omega, by show sl + 0 ≤ 7293034; omega⟩ dL_law_324 (fun H locs G => ?_)
        refine lv_aload_n hx hb dL_law_327 rfl (lv_at hl 2 rfl) ?_
        refine lv_aload_n hx hb dL_law_328 rfl (lv_at hl 0 rfl) ?_
        refine lv_iload hx hb dL_law_329 (lv_at hl 4 rfl) ?_
        refine lv_iconst (v := (1 : Int32)) hx hb dL_law_331 (by decide) ?_
        refine lv_iadd hx hb dL_law_332 ?_
        refine va_sld hx hb hX hbs hbA G.2.2 v1 dL_law_333 ?_
        refine lv_aload_n hx hb dL_law_334 rfl (lv_at hl 0 rfl) ?_
        refine lv_iload hx hb dL_law_335 (lv_at hl 4 rfl) ?_
        refine lv_iconst (v := (2 : Int32)) hx hb dL_law_337 (by decide) ?_
        refine lv_iadd hx hb dL_law_338 ?_
        refine va_sld hx hb hX hbs hbA G.2.2 v2 dL_law_339 ?_
        refine xr_callV (ci := 10) (q := 99) (As := [.int (xs (nI i + 1).toNatClampNeg), .int (xs (nI i + 2).toNatClampNeg)]) (rest := [.int r]) (st1 := [.int r, .int r]) S G hl.1 (fun h => by cases h) (mt_X10_named l D cid b false sa sv B0 shA 99 (xs (nI i + 1).toNatClampNeg) (xs (nI i + 2).toNatClampNeg) d1 _ _ e2) shA_99 (by decide) kw_1496 kw_1497 kw_1498 kw_17 kw_1499 hd_X10_named ⟨Nat.le_of_ble_eq_true rfl, Nat.le_of_ble_eq_true rfl⟩ rfl rfl rfl (Nat.le_of_ble_eq_true rfl) ⟨by show ce + 0 ≤ 601024; omega, by show sl + 0 ≤ 7293034; omega⟩ dL_law_340 (fun H locs G => ?_)
        refine lv_icmp_eq (tgt := 1338) hx hb dL_law_343 (by decide) (fun _ => ?_) (fun c => absurd rfl c)
        exact K1338 _ _ d2 _ _ ls h6 (by show ce + 0 ≤ ce + 1; omega) (by show sl + 0 ≤ sl + 6; omega) hR (lv_sub hl [0, 1, 2, 3, 4] rfl) G
      by_cases c4 : sel = (4 : Int32)
      · refine xr_tab (k := (4 : Int32)) (tgt := 348) hx hb c4 dL_law_40 (by decide) (by decide) rfl (by decide) ?_
        refine lv_aload_n hx hb dL_law_348 rfl (lv_at hl 1 rfl) ?_
        refine lv_aload_n hx hb dL_law_349 rfl (lv_at hl 0 rfl) ?_
        refine lv_iload hx hb dL_law_350 (lv_at hl 4 rfl) ?_
        refine lv_iconst (v := (1 : Int32)) hx hb dL_law_352 (by decide) ?_
        refine lv_iadd hx hb dL_law_353 ?_
        refine va_sld hx hb hX hbs hbA G.2.2 v1 dL_law_354 ?_
        refine lv_aload_n hx hb dL_law_355 rfl (lv_at hl 0 rfl) ?_
        refine lv_iload hx hb dL_law_356 (lv_at hl 4 rfl) ?_
        refine lv_iconst (v := (2 : Int32)) hx hb dL_law_358 (by decide) ?_
        refine lv_iadd hx hb dL_law_359 ?_
        refine va_sld hx hb hX hbs hbA G.2.2 v2 dL_law_360 ?_
        refine lv_aload_n hx hb dL_law_361 rfl (lv_at hl 3 rfl) ?_
        obtain ⟨k, r, d1, d2, e1, e2, e3, e4, hR⟩ := h_walker d (xs (nI i + 1).toNatClampNeg) (xs (nI i + 2).toNatClampNeg) hRel
        refine xr_callW (As := [.ref (b + 0), .int (xs (nI i + 1).toNatClampNeg), .int (xs (nI i + 2).toNatClampNeg), .ref (b + 139)]) (rest := []) (st1 := [.int k]) S G hl.1 hbl (fun U hU hW => hE U hW (fun q hq => by rw [hU]; exact G.2.2.2.1 q hq (fun h => absurd (hAs q h) (by omega)))) (hLW (xs (nI i + 1).toNatClampNeg) (xs (nI i + 2).toNatClampNeg) k d d1 e1) kw_1063 kw_1064 kw_0 ⟨Nat.le_of_ble_eq_true rfl, Nat.le_of_ble_eq_true rfl⟩ rfl rfl rfl (Nat.le_of_ble_eq_true rfl) ⟨by show ce + 1 ≤ 601024; omega, by show sl + 6 ≤ 7293034; omega⟩ dL_law_362 (fun H locs G => ?_)
        refine lv_istore (lv' := [(5, .int k), (0, .ref bs), (1, .ref (b + 0)), (2, .ref (b + 99)), (3, .ref (b + 139)), (4, .int (nI i))]) hx hb dL_law_365 hl (by decide) rfl (fun ls hl => ?_)
        refine lv_aload_n hx hb dL_law_367 rfl (lv_at hl 3 rfl) ?_
        refine lv_aload_n hx hb dL_law_368 rfl (lv_at hl 1 rfl) ?_
        refine lv_iload hx hb dL_law_369 (lv_at hl 5 rfl) ?_
        refine lv_iconst (v := (1 : Int32)) hx hb dL_law_371 (by decide) ?_
        refine lv_iadd hx hb dL_law_372 ?_
        refine va_sld hx hb hX hbs hbA G.2.2 v1 dL_law_373 ?_
        refine lv_aload_n hx hb dL_law_374 rfl (lv_at hl 1 rfl) ?_
        refine lv_iload hx hb dL_law_375 (lv_at hl 5 rfl) ?_
        refine lv_iconst (v := (2 : Int32)) hx hb dL_law_377 (by decide) ?_
        refine lv_iadd hx hb dL_law_378 ?_
        refine va_sld hx hb hX hbs hbA G.2.2 v2 dL_law_379 ?_
        refine xr_callV (ci := 10) (q := 99) (As := [.int (xs (nI i + 1).toNatClampNeg), .int (xs (nI i + 2).toNatClampNeg)]) (rest := []) (st1 := [.int r]) S G hl.1 (fun h => by cases h) (mt_X10_walker l D cid b false sa sv B0 shA 99 (xs (nI i + 1).toNatClampNeg) (xs (nI i + 2).toNatClampNeg) d1 _ _ e2) shA_99 (by decide) kw_1500 kw_1501 kw_1502 kw_17 kw_1503 hd_X10_walker ⟨Nat.le_of_ble_eq_true rfl, Nat.le_of_ble_eq_true rfl⟩ rfl rfl rfl (Nat.le_of_ble_eq_true rfl) ⟨by show (ce + 1) + 0 ≤ 601024; omega, by show (sl + 6) + 0 ≤ 7293034; omega⟩ dL_law_380 (fun H locs G => ?_)
        refine lv_istore (lv' := [(6, .int r), (5, .int k), (0, .ref bs), (1, .ref (b + 0)), (2, .ref (b + 99)), (3, .ref (b + 139)), (4, .int (nI i))]) hx hb dL_law_383 hl (by decide) rfl (fun ls hl => ?_)
        refine lv_aload_n hx hb dL_law_385 rfl (lv_at hl 4 rfl) ?_
        refine xr_callV (ci := 10) (q := 99) (As := []) (rest := []) (st1 := [.int k]) S G hl.1 (fun h => by cases h) (mt_X10_thrown l D cid b false sa sv B0 shA 99 d2 _ _ e3) shA_99 (by decide) kw_1364 kw_1365 kw_1366 kw_17 kw_1367 hd_X10_thrown ⟨Nat.le_of_ble_eq_true rfl, Nat.le_of_ble_eq_true rfl⟩ rfl rfl rfl (Nat.le_of_ble_eq_true rfl) ⟨by show (ce + 1) + 0 ≤ 601024; omega, by show (sl + 6) + 0 ≤ 7293034; omega⟩ dL_law_386 (fun H locs G => ?_)
        refine lv_iload hx hb dL_law_389 (lv_at hl 1 rfl) ?_
        refine lv_icmp_eq (tgt := 396) hx hb dL_law_391 (by decide) (fun _ => ?_) (fun c => absurd rfl c)
        refine lv_iload hx hb dL_law_396 (lv_at hl 1 rfl) ?_
        refine lv_if_ne (tgt := 413) hx hb dL_law_398 (by decide) (fun _ => ?_) (fun ck => ?_)
        · skip
          refine lv_goto (tgt := 1338) hx hb dL_law_413 (by decide) ?_
          exact K1338 _ _ d2 _ _ ls h6 (by show (ce + 1) + 0 ≤ ce + 1; omega) (by show (sl + 6) + 0 ≤ sl + 6; omega) hR (lv_sub hl [2, 3, 4, 5, 6] rfl) G
        · skip
          refine lv_aload_n hx hb dL_law_401 rfl (lv_at hl 5 rfl) ?_
          refine lv_iconst (v := (0 : Int32)) hx hb dL_law_402 (by decide) ?_
          refine xr_lald S G (e4 ck) dL_law_403 ?_
          refine lv_iload hx hb dL_law_404 (lv_at hl 0 rfl) ?_
          refine lv_i2l (v := r.toInt64) hx hb dL_law_406 rfl ?_
          refine W.lcmp hx hb dL_law_407 ?_
          refine lv_if_eq (tgt := 413) hx hb dL_law_408 (by decide) (fun _ => ?_) (fun c => absurd (x_cmp _) c)
          refine lv_goto (tgt := 1338) hx hb dL_law_413 (by decide) ?_
          exact K1338 _ _ d2 _ _ ls h6 (by show (ce + 1) + 0 ≤ ce + 1; omega) (by show (sl + 6) + 0 ≤ sl + 6; omega) hR (lv_sub hl [2, 3, 4, 5, 6] rfl) G
      by_cases c5 : sel = (5 : Int32)
      · refine xr_tab (k := (5 : Int32)) (tgt := 416) hx hb c5 dL_law_40 (by decide) (by decide) rfl (by decide) ?_
        refine lv_aload_n hx hb dL_law_416 rfl (lv_at hl 1 rfl) ?_
        refine lv_aload_n hx hb dL_law_417 rfl (lv_at hl 0 rfl) ?_
        refine lv_iload hx hb dL_law_418 (lv_at hl 4 rfl) ?_
        refine lv_iconst (v := (1 : Int32)) hx hb dL_law_420 (by decide) ?_
        refine lv_iadd hx hb dL_law_421 ?_
        refine va_sld hx hb hX hbs hbA G.2.2 v1 dL_law_422 ?_
        refine lv_aload_n hx hb dL_law_423 rfl (lv_at hl 0 rfl) ?_
        refine lv_iload hx hb dL_law_424 (lv_at hl 4 rfl) ?_
        refine lv_iconst (v := (2 : Int32)) hx hb dL_law_426 (by decide) ?_
        refine lv_iadd hx hb dL_law_427 ?_
        refine va_sld hx hb hX hbs hbA G.2.2 v2 dL_law_428 ?_
        obtain ⟨r, d1, d2, e1, e2, hR⟩ := h_bench d (xs (nI i + 1).toNatClampNeg) (xs (nI i + 2).toNatClampNeg) hRel
        refine xr_callV (ci := 9) (q := 0) (As := [.int (xs (nI i + 1).toNatClampNeg), .int (xs (nI i + 2).toNatClampNeg)]) (rest := []) (st1 := [.int r]) S G hl.1 (fun h => by cases h) (mt_X9_bench l D cid b false sa sv B0 shA 0 (xs (nI i + 1).toNatClampNeg) (xs (nI i + 2).toNatClampNeg) d _ _ e1) shA_0 (by decide) kw_728 kw_729 kw_730 kw_1 kw_731 hd_X9_bench ⟨Nat.le_of_ble_eq_true rfl, Nat.le_of_ble_eq_true rfl⟩ rfl rfl rfl (Nat.le_of_ble_eq_true rfl) ⟨by show ce + 0 ≤ 601024; omega, by show sl + 0 ≤ 7293034; omega⟩ dL_law_429 (fun H locs G => ?_)
        refine lv_aload_n hx hb dL_law_432 rfl (lv_at hl 2 rfl) ?_
        refine lv_aload_n hx hb dL_law_433 rfl (lv_at hl 0 rfl) ?_
        refine lv_iload hx hb dL_law_434 (lv_at hl 4 rfl) ?_
        refine lv_iconst (v := (1 : Int32)) hx hb dL_law_436 (by decide) ?_
        refine lv_iadd hx hb dL_law_437 ?_
        refine va_sld hx hb hX hbs hbA G.2.2 v1 dL_law_438 ?_
        refine lv_aload_n hx hb dL_law_439 rfl (lv_at hl 0 rfl) ?_
        refine lv_iload hx hb dL_law_440 (lv_at hl 4 rfl) ?_
        refine lv_iconst (v := (2 : Int32)) hx hb dL_law_442 (by decide) ?_
        refine lv_iadd hx hb dL_law_443 ?_
        refine va_sld hx hb hX hbs hbA G.2.2 v2 dL_law_444 ?_
        refine xr_callV (ci := 10) (q := 99) (As := [.int (xs (nI i + 1).toNatClampNeg), .int (xs (nI i + 2).toNatClampNeg)]) (rest := [.int r]) (st1 := [.int r, .int r]) S G hl.1 (fun h => by cases h) (mt_X10_bench l D cid b false sa sv B0 shA 99 (xs (nI i + 1).toNatClampNeg) (xs (nI i + 2).toNatClampNeg) d1 _ _ e2) shA_99 (by decide) kw_1508 kw_1509 kw_1510 kw_17 kw_1511 hd_X10_bench ⟨Nat.le_of_ble_eq_true rfl, Nat.le_of_ble_eq_true rfl⟩ rfl rfl rfl (Nat.le_of_ble_eq_true rfl) ⟨by show ce + 0 ≤ 601024; omega, by show sl + 0 ≤ 7293034; omega⟩ dL_law_445 (fun H locs G => ?_)
        refine lv_icmp_eq (tgt := 1338) hx hb dL_law_448 (by decide) (fun _ => ?_) (fun c => absurd rfl c)
        exact K1338 _ _ d2 _ _ ls h6 (by show ce + 0 ≤ ce + 1; omega) (by show sl + 0 ≤ sl + 6; omega) hR (lv_sub hl [0, 1, 2, 3, 4] rfl) G
      by_cases c6 : sel = (6 : Int32)
      · refine xr_tab (k := (6 : Int32)) (tgt := 453) hx hb c6 dL_law_40 (by decide) (by decide) rfl (by decide) ?_
        refine lv_aload_n hx hb dL_law_453 rfl (lv_at hl 1 rfl) ?_
        refine lv_aload_n hx hb dL_law_454 rfl (lv_at hl 0 rfl) ?_
        refine lv_iload hx hb dL_law_455 (lv_at hl 4 rfl) ?_
        refine lv_iconst (v := (1 : Int32)) hx hb dL_law_457 (by decide) ?_
        refine lv_iadd hx hb dL_law_458 ?_
        refine va_sld hx hb hX hbs hbA G.2.2 v1 dL_law_459 ?_
        refine lv_aload_n hx hb dL_law_460 rfl (lv_at hl 0 rfl) ?_
        refine lv_iload hx hb dL_law_461 (lv_at hl 4 rfl) ?_
        refine lv_iconst (v := (2 : Int32)) hx hb dL_law_463 (by decide) ?_
        refine lv_iadd hx hb dL_law_464 ?_
        refine va_sld hx hb hX hbs hbA G.2.2 v2 dL_law_465 ?_
        obtain ⟨r, d1, d2, e1, e2, hR⟩ := h_restOf d (xs (nI i + 1).toNatClampNeg) (xs (nI i + 2).toNatClampNeg) hRel
        refine xr_callV (ci := 9) (q := 0) (As := [.int (xs (nI i + 1).toNatClampNeg), .int (xs (nI i + 2).toNatClampNeg)]) (rest := []) (st1 := [.int r]) S G hl.1 (fun h => by cases h) (mt_X9_restOf l D cid b false sa sv B0 shA 0 (xs (nI i + 1).toNatClampNeg) (xs (nI i + 2).toNatClampNeg) d _ _ e1) shA_0 (by decide) kw_746 kw_747 kw_748 kw_1 kw_749 hd_X9_restOf ⟨Nat.le_of_ble_eq_true rfl, Nat.le_of_ble_eq_true rfl⟩ rfl rfl rfl (Nat.le_of_ble_eq_true rfl) ⟨by show ce + 0 ≤ 601024; omega, by show sl + 0 ≤ 7293034; omega⟩ dL_law_466 (fun H locs G => ?_)
        refine lv_aload_n hx hb dL_law_469 rfl (lv_at hl 2 rfl) ?_
        refine lv_aload_n hx hb dL_law_470 rfl (lv_at hl 0 rfl) ?_
        refine lv_iload hx hb dL_law_471 (lv_at hl 4 rfl) ?_
        refine lv_iconst (v := (1 : Int32)) hx hb dL_law_473 (by decide) ?_
        refine lv_iadd hx hb dL_law_474 ?_
        refine va_sld hx hb hX hbs hbA G.2.2 v1 dL_law_475 ?_
        refine lv_aload_n hx hb dL_law_476 rfl (lv_at hl 0 rfl) ?_
        refine lv_iload hx hb dL_law_477 (lv_at hl 4 rfl) ?_
        refine lv_iconst (v := (2 : Int32)) hx hb dL_law_479 (by decide) ?_
        refine lv_iadd hx hb dL_law_480 ?_
        refine va_sld hx hb hX hbs hbA G.2.2 v2 dL_law_481 ?_
        refine xr_callV (ci := 10) (q := 99) (As := [.int (xs (nI i + 1).toNatClampNeg), .int (xs (nI i + 2).toNatClampNeg)]) (rest := [.int r]) (st1 := [.int r, .int r]) S G hl.1 (fun h => by cases h) (mt_X10_restOf l D cid b false sa sv B0 shA 99 (xs (nI i + 1).toNatClampNeg) (xs (nI i + 2).toNatClampNeg) d1 _ _ e2) shA_99 (by decide) kw_1527 kw_1528 kw_1529 kw_17 kw_1530 hd_X10_restOf ⟨Nat.le_of_ble_eq_true rfl, Nat.le_of_ble_eq_true rfl⟩ rfl rfl rfl (Nat.le_of_ble_eq_true rfl) ⟨by show ce + 0 ≤ 601024; omega, by show sl + 0 ≤ 7293034; omega⟩ dL_law_482 (fun H locs G => ?_)
        refine lv_icmp_eq (tgt := 1338) hx hb dL_law_485 (by decide) (fun _ => ?_) (fun c => absurd rfl c)
        exact K1338 _ _ d2 _ _ ls h6 (by show ce + 0 ≤ ce + 1; omega) (by show sl + 0 ≤ sl + 6; omega) hR (lv_sub hl [0, 1, 2, 3, 4] rfl) G
      by_cases c7 : sel = (7 : Int32)
      · refine xr_tab (k := (7 : Int32)) (tgt := 490) hx hb c7 dL_law_40 (by decide) (by decide) rfl (by decide) ?_
        refine lv_aload_n hx hb dL_law_490 rfl (lv_at hl 1 rfl) ?_
        obtain ⟨r, d1, d2, e1, e2, hR⟩ := h_piano d hRel
        refine xr_callV (ci := 9) (q := 0) (As := []) (rest := []) (st1 := [.int r]) S G hl.1 (fun h => by cases h) (mt_X9_piano l D cid b false sa sv B0 shA 0 d _ _ e1) shA_0 (by decide) kw_750 kw_751 kw_752 kw_1 kw_753 hd_X9_piano ⟨Nat.le_of_ble_eq_true rfl, Nat.le_of_ble_eq_true rfl⟩ rfl rfl rfl (Nat.le_of_ble_eq_true rfl) ⟨by show ce + 0 ≤ 601024; omega, by show sl + 0 ≤ 7293034; omega⟩ dL_law_491 (fun H locs G => ?_)
        refine lv_aload_n hx hb dL_law_494 rfl (lv_at hl 2 rfl) ?_
        refine xr_callV (ci := 10) (q := 99) (As := []) (rest := [.int r]) (st1 := [.int r, .int r]) S G hl.1 (fun h => by cases h) (mt_X10_piano l D cid b false sa sv B0 shA 99 d1 _ _ e2) shA_99 (by decide) kw_1531 kw_1532 kw_1533 kw_17 kw_1534 hd_X10_piano ⟨Nat.le_of_ble_eq_true rfl, Nat.le_of_ble_eq_true rfl⟩ rfl rfl rfl (Nat.le_of_ble_eq_true rfl) ⟨by show ce + 0 ≤ 601024; omega, by show sl + 0 ≤ 7293034; omega⟩ dL_law_495 (fun H locs G => ?_)
        refine lv_icmp_eq (tgt := 1338) hx hb dL_law_498 (by decide) (fun _ => ?_) (fun c => absurd rfl c)
        exact K1338 _ _ d2 _ _ ls h6 (by show ce + 0 ≤ ce + 1; omega) (by show sl + 0 ≤ sl + 6; omega) hR (lv_sub hl [0, 1, 2, 3, 4] rfl) G
      by_cases c8 : sel = (8 : Int32)
      · refine xr_tab (k := (8 : Int32)) (tgt := 503) hx hb c8 dL_law_40 (by decide) (by decide) rfl (by decide) ?_
        refine lv_aload_n hx hb dL_law_503 rfl (lv_at hl 1 rfl) ?_
        refine lv_aload_n hx hb dL_law_504 rfl (lv_at hl 0 rfl) ?_
        refine lv_iload hx hb dL_law_505 (lv_at hl 4 rfl) ?_
        refine lv_iconst (v := (1 : Int32)) hx hb dL_law_507 (by decide) ?_
        refine lv_iadd hx hb dL_law_508 ?_
        refine va_sld hx hb hX hbs hbA G.2.2 v1 dL_law_509 ?_
        refine lv_aload_n hx hb dL_law_510 rfl (lv_at hl 0 rfl) ?_
        refine lv_iload hx hb dL_law_511 (lv_at hl 4 rfl) ?_
        refine lv_iconst (v := (2 : Int32)) hx hb dL_law_513 (by decide) ?_
        refine lv_iadd hx hb dL_law_514 ?_
        refine va_sld hx hb hX hbs hbA G.2.2 v2 dL_law_515 ?_
        refine lv_aload_n hx hb dL_law_516 rfl (lv_at hl 0 rfl) ?_
        refine lv_iload hx hb dL_law_517 (lv_at hl 4 rfl) ?_
        refine lv_iconst (v := (3 : Int32)) hx hb dL_law_519 (by decide) ?_
        refine lv_iadd hx hb dL_law_520 ?_
        refine va_sld hx hb hX hbs hbA G.2.2 v3 dL_law_521 ?_
        obtain ⟨r, d1, d2, e1, e2, hR⟩ := h_law d (xs (nI i + 1).toNatClampNeg) (xs (nI i + 2).toNatClampNeg) (xs (nI i + 3).toNatClampNeg) hRel
        refine xr_callV (ci := 9) (q := 0) (As := [.int (xs (nI i + 1).toNatClampNeg), .int (xs (nI i + 2).toNatClampNeg), .int (xs (nI i + 3).toNatClampNeg)]) (rest := []) (st1 := [.long r]) S G hl.1 (fun h => by cases h) (mt_X9_law l D cid b false sa sv B0 shA 0 (xs (nI i + 1).toNatClampNeg) (xs (nI i + 2).toNatClampNeg) (xs (nI i + 3).toNatClampNeg) d _ _ e1) shA_0 (by decide) kw_754 kw_755 kw_756 kw_1 kw_757 hd_X9_law ⟨Nat.le_of_ble_eq_true rfl, Nat.le_of_ble_eq_true rfl⟩ rfl rfl rfl (Nat.le_of_ble_eq_true rfl) ⟨by show ce + 0 ≤ 601024; omega, by show sl + 0 ≤ 7293034; omega⟩ dL_law_522 (fun H locs G => ?_)
        refine lv_aload_n hx hb dL_law_525 rfl (lv_at hl 2 rfl) ?_
        refine lv_aload_n hx hb dL_law_526 rfl (lv_at hl 0 rfl) ?_
        refine lv_iload hx hb dL_law_527 (lv_at hl 4 rfl) ?_
        refine lv_iconst (v := (1 : Int32)) hx hb dL_law_529 (by decide) ?_
        refine lv_iadd hx hb dL_law_530 ?_
        refine va_sld hx hb hX hbs hbA G.2.2 v1 dL_law_531 ?_
        refine lv_aload_n hx hb dL_law_532 rfl (lv_at hl 0 rfl) ?_
        refine lv_iload hx hb dL_law_533 (lv_at hl 4 rfl) ?_
        refine lv_iconst (v := (2 : Int32)) hx hb dL_law_535 (by decide) ?_
        refine lv_iadd hx hb dL_law_536 ?_
        refine va_sld hx hb hX hbs hbA G.2.2 v2 dL_law_537 ?_
        refine lv_aload_n hx hb dL_law_538 rfl (lv_at hl 0 rfl) ?_
        refine lv_iload hx hb dL_law_539 (lv_at hl 4 rfl) ?_
        refine lv_iconst (v := (3 : Int32)) hx hb dL_law_541 (by decide) ?_
        refine lv_iadd hx hb dL_law_542 ?_
        refine va_sld hx hb hX hbs hbA G.2.2 v3 dL_law_543 ?_
        refine xr_callV (ci := 10) (q := 99) (As := [.int (xs (nI i + 1).toNatClampNeg), .int (xs (nI i + 2).toNatClampNeg), .int (xs (nI i + 3).toNatClampNeg)]) (rest := [.long r]) (st1 := [.long r, .long r]) S G hl.1 (fun h => by cases h) (mt_X10_law l D cid b false sa sv B0 shA 99 (xs (nI i + 1).toNatClampNeg) (xs (nI i + 2).toNatClampNeg) (xs (nI i + 3).toNatClampNeg) d1 _ _ e2) shA_99 (by decide) kw_1535 kw_1536 kw_1537 kw_17 kw_1538 hd_X10_law ⟨Nat.le_of_ble_eq_true rfl, Nat.le_of_ble_eq_true rfl⟩ rfl rfl rfl (Nat.le_of_ble_eq_true rfl) ⟨by show ce + 0 ≤ 601024; omega, by show sl + 0 ≤ 7293034; omega⟩ dL_law_544 (fun H locs G => ?_)
        refine W.lcmp hx hb dL_law_547 ?_
        refine lv_if_eq (tgt := 1338) hx hb dL_law_548 (by decide) (fun _ => ?_) (fun c => absurd (x_cmp _) c)
        exact K1338 _ _ d2 _ _ ls h6 (by show ce + 0 ≤ ce + 1; omega) (by show sl + 0 ≤ sl + 6; omega) hR (lv_sub hl [0, 1, 2, 3, 4] rfl) G
      by_cases c9 : sel = (9 : Int32)
      · refine xr_tab (k := (9 : Int32)) (tgt := 553) hx hb c9 dL_law_40 (by decide) (by decide) rfl (by decide) ?_
        refine lv_aload_n hx hb dL_law_553 rfl (lv_at hl 1 rfl) ?_
        refine lv_aload_n hx hb dL_law_554 rfl (lv_at hl 0 rfl) ?_
        refine lv_iload hx hb dL_law_555 (lv_at hl 4 rfl) ?_
        refine lv_iconst (v := (1 : Int32)) hx hb dL_law_557 (by decide) ?_
        refine lv_iadd hx hb dL_law_558 ?_
        refine va_sld hx hb hX hbs hbA G.2.2 v1 dL_law_559 ?_
        refine lv_aload_n hx hb dL_law_560 rfl (lv_at hl 0 rfl) ?_
        refine lv_iload hx hb dL_law_561 (lv_at hl 4 rfl) ?_
        refine lv_iconst (v := (2 : Int32)) hx hb dL_law_563 (by decide) ?_
        refine lv_iadd hx hb dL_law_564 ?_
        refine va_sld hx hb hX hbs hbA G.2.2 v2 dL_law_565 ?_
        obtain ⟨r, d1, d2, e1, e2, hR⟩ := h_sit d (xs (nI i + 1).toNatClampNeg) (xs (nI i + 2).toNatClampNeg) hRel
        refine xr_callV (ci := 9) (q := 0) (As := [.int (xs (nI i + 1).toNatClampNeg), .int (xs (nI i + 2).toNatClampNeg)]) (rest := []) (st1 := [.int r]) S G hl.1 (fun h => by cases h) (mt_X9_sit l D cid b false sa sv B0 shA 0 (xs (nI i + 1).toNatClampNeg) (xs (nI i + 2).toNatClampNeg) d _ _ e1) shA_0 (by decide) kw_787 kw_788 kw_789 kw_1 kw_790 hd_X9_sit ⟨Nat.le_of_ble_eq_true rfl, Nat.le_of_ble_eq_true rfl⟩ rfl rfl rfl (Nat.le_of_ble_eq_true rfl) ⟨by show ce + 0 ≤ 601024; omega, by show sl + 0 ≤ 7293034; omega⟩ dL_law_566 (fun H locs G => ?_)
        refine lv_aload_n hx hb dL_law_569 rfl (lv_at hl 2 rfl) ?_
        refine lv_aload_n hx hb dL_law_570 rfl (lv_at hl 0 rfl) ?_
        refine lv_iload hx hb dL_law_571 (lv_at hl 4 rfl) ?_
        refine lv_iconst (v := (1 : Int32)) hx hb dL_law_573 (by decide) ?_
        refine lv_iadd hx hb dL_law_574 ?_
        refine va_sld hx hb hX hbs hbA G.2.2 v1 dL_law_575 ?_
        refine lv_aload_n hx hb dL_law_576 rfl (lv_at hl 0 rfl) ?_
        refine lv_iload hx hb dL_law_577 (lv_at hl 4 rfl) ?_
        refine lv_iconst (v := (2 : Int32)) hx hb dL_law_579 (by decide) ?_
        refine lv_iadd hx hb dL_law_580 ?_
        refine va_sld hx hb hX hbs hbA G.2.2 v2 dL_law_581 ?_
        refine xr_callV (ci := 10) (q := 99) (As := [.int (xs (nI i + 1).toNatClampNeg), .int (xs (nI i + 2).toNatClampNeg)]) (rest := [.int r]) (st1 := [.int r, .int r]) S G hl.1 (fun h => by cases h) (mt_X10_sit l D cid b false sa sv B0 shA 99 (xs (nI i + 1).toNatClampNeg) (xs (nI i + 2).toNatClampNeg) d1 _ _ e2) shA_99 (by decide) kw_1568 kw_1569 kw_1570 kw_17 kw_1571 hd_X10_sit ⟨Nat.le_of_ble_eq_true rfl, Nat.le_of_ble_eq_true rfl⟩ rfl rfl rfl (Nat.le_of_ble_eq_true rfl) ⟨by show ce + 0 ≤ 601024; omega, by show sl + 0 ≤ 7293034; omega⟩ dL_law_582 (fun H locs G => ?_)
        refine lv_icmp_eq (tgt := 1338) hx hb dL_law_585 (by decide) (fun _ => ?_) (fun c => absurd rfl c)
        exact K1338 _ _ d2 _ _ ls h6 (by show ce + 0 ≤ ce + 1; omega) (by show sl + 0 ≤ sl + 6; omega) hR (lv_sub hl [0, 1, 2, 3, 4] rfl) G
      by_cases c10 : sel = (10 : Int32)
      · refine xr_tab (k := (10 : Int32)) (tgt := 590) hx hb c10 dL_law_40 (by decide) (by decide) rfl (by decide) ?_
        refine lv_aload_n hx hb dL_law_590 rfl (lv_at hl 1 rfl) ?_
        refine lv_aload_n hx hb dL_law_591 rfl (lv_at hl 0 rfl) ?_
        refine lv_iload hx hb dL_law_592 (lv_at hl 4 rfl) ?_
        refine lv_iconst (v := (1 : Int32)) hx hb dL_law_594 (by decide) ?_
        refine lv_iadd hx hb dL_law_595 ?_
        refine va_sld hx hb hX hbs hbA G.2.2 v1 dL_law_596 ?_
        obtain ⟨r, d1, d2, e1, e2, hR⟩ := h_rise d (xs (nI i + 1).toNatClampNeg) hRel
        refine xr_callV (ci := 9) (q := 0) (As := [.int (xs (nI i + 1).toNatClampNeg)]) (rest := []) (st1 := [.int r]) S G hl.1 (fun h => by cases h) (mt_X9_rise l D cid b false sa sv B0 shA 0 (xs (nI i + 1).toNatClampNeg) d _ _ e1) shA_0 (by decide) kw_807 kw_808 kw_809 kw_1 kw_810 hd_X9_rise ⟨Nat.le_of_ble_eq_true rfl, Nat.le_of_ble_eq_true rfl⟩ rfl rfl rfl (Nat.le_of_ble_eq_true rfl) ⟨by show ce + 0 ≤ 601024; omega, by show sl + 0 ≤ 7293034; omega⟩ dL_law_597 (fun H locs G => ?_)
        refine lv_aload_n hx hb dL_law_600 rfl (lv_at hl 2 rfl) ?_
        refine lv_aload_n hx hb dL_law_601 rfl (lv_at hl 0 rfl) ?_
        refine lv_iload hx hb dL_law_602 (lv_at hl 4 rfl) ?_
        refine lv_iconst (v := (1 : Int32)) hx hb dL_law_604 (by decide) ?_
        refine lv_iadd hx hb dL_law_605 ?_
        refine va_sld hx hb hX hbs hbA G.2.2 v1 dL_law_606 ?_
        refine xr_callV (ci := 10) (q := 99) (As := [.int (xs (nI i + 1).toNatClampNeg)]) (rest := [.int r]) (st1 := [.int r, .int r]) S G hl.1 (fun h => by cases h) (mt_X10_rise l D cid b false sa sv B0 shA 99 (xs (nI i + 1).toNatClampNeg) d1 _ _ e2) shA_99 (by decide) kw_1588 kw_1589 kw_1590 kw_17 kw_1591 hd_X10_rise ⟨Nat.le_of_ble_eq_true rfl, Nat.le_of_ble_eq_true rfl⟩ rfl rfl rfl (Nat.le_of_ble_eq_true rfl) ⟨by show ce + 0 ≤ 601024; omega, by show sl + 0 ≤ 7293034; omega⟩ dL_law_607 (fun H locs G => ?_)
        refine lv_icmp_eq (tgt := 1338) hx hb dL_law_610 (by decide) (fun _ => ?_) (fun c => absurd rfl c)
        exact K1338 _ _ d2 _ _ ls h6 (by show ce + 0 ≤ ce + 1; omega) (by show sl + 0 ≤ sl + 6; omega) hR (lv_sub hl [0, 1, 2, 3, 4] rfl) G
      by_cases c11 : sel = (11 : Int32)
      · refine xr_tab (k := (11 : Int32)) (tgt := 615) hx hb c11 dL_law_40 (by decide) (by decide) rfl (by decide) ?_
        refine lv_aload_n hx hb dL_law_615 rfl (lv_at hl 1 rfl) ?_
        refine lv_aload_n hx hb dL_law_616 rfl (lv_at hl 0 rfl) ?_
        refine lv_iload hx hb dL_law_617 (lv_at hl 4 rfl) ?_
        refine lv_iconst (v := (1 : Int32)) hx hb dL_law_619 (by decide) ?_
        refine lv_iadd hx hb dL_law_620 ?_
        refine va_sld hx hb hX hbs hbA G.2.2 v1 dL_law_621 ?_
        obtain ⟨r, d1, d2, e1, e2, hR⟩ := h_push d (xs (nI i + 1).toNatClampNeg) hRel
        refine xr_callV (ci := 9) (q := 0) (As := [.int (xs (nI i + 1).toNatClampNeg)]) (rest := []) (st1 := [.int r]) S G hl.1 (fun h => by cases h) (mt_X9_push l D cid b false sa sv B0 shA 0 (xs (nI i + 1).toNatClampNeg) d _ _ e1) shA_0 (by decide) kw_815 kw_816 kw_817 kw_1 kw_818 hd_X9_push ⟨Nat.le_of_ble_eq_true rfl, Nat.le_of_ble_eq_true rfl⟩ rfl rfl rfl (Nat.le_of_ble_eq_true rfl) ⟨by show ce + 0 ≤ 601024; omega, by show sl + 0 ≤ 7293034; omega⟩ dL_law_622 (fun H locs G => ?_)
        refine lv_aload_n hx hb dL_law_625 rfl (lv_at hl 2 rfl) ?_
        refine lv_aload_n hx hb dL_law_626 rfl (lv_at hl 0 rfl) ?_
        refine lv_iload hx hb dL_law_627 (lv_at hl 4 rfl) ?_
        refine lv_iconst (v := (1 : Int32)) hx hb dL_law_629 (by decide) ?_
        refine lv_iadd hx hb dL_law_630 ?_
        refine va_sld hx hb hX hbs hbA G.2.2 v1 dL_law_631 ?_
        refine xr_callV (ci := 10) (q := 99) (As := [.int (xs (nI i + 1).toNatClampNeg)]) (rest := [.int r]) (st1 := [.int r, .int r]) S G hl.1 (fun h => by cases h) (mt_X10_push l D cid b false sa sv B0 shA 99 (xs (nI i + 1).toNatClampNeg) d1 _ _ e2) shA_99 (by decide) kw_1596 kw_1597 kw_1598 kw_17 kw_1599 hd_X10_push ⟨Nat.le_of_ble_eq_true rfl, Nat.le_of_ble_eq_true rfl⟩ rfl rfl rfl (Nat.le_of_ble_eq_true rfl) ⟨by show ce + 0 ≤ 601024; omega, by show sl + 0 ≤ 7293034; omega⟩ dL_law_632 (fun H locs G => ?_)
        refine lv_icmp_eq (tgt := 1338) hx hb dL_law_635 (by decide) (fun _ => ?_) (fun c => absurd rfl c)
        exact K1338 _ _ d2 _ _ ls h6 (by show ce + 0 ≤ ce + 1; omega) (by show sl + 0 ≤ sl + 6; omega) hR (lv_sub hl [0, 1, 2, 3, 4] rfl) G
      by_cases c12 : sel = (12 : Int32)
      · refine xr_tab (k := (12 : Int32)) (tgt := 640) hx hb c12 dL_law_40 (by decide) (by decide) rfl (by decide) ?_
        refine lv_aload_n hx hb dL_law_640 rfl (lv_at hl 1 rfl) ?_
        refine lv_aload_n hx hb dL_law_641 rfl (lv_at hl 0 rfl) ?_
        refine lv_iload hx hb dL_law_642 (lv_at hl 4 rfl) ?_
        refine lv_iconst (v := (1 : Int32)) hx hb dL_law_644 (by decide) ?_
        refine lv_iadd hx hb dL_law_645 ?_
        refine va_sld hx hb hX hbs hbA G.2.2 v1 dL_law_646 ?_
        obtain ⟨r, d1, d2, e1, e2, hR⟩ := h_go d (xs (nI i + 1).toNatClampNeg) hRel
        refine xr_callV (ci := 9) (q := 0) (As := [.int (xs (nI i + 1).toNatClampNeg)]) (rest := []) (st1 := [.int r]) S G hl.1 (fun h => by cases h) (mt_X9_go l D cid b false sa sv B0 shA 0 (xs (nI i + 1).toNatClampNeg) d _ _ e1) shA_0 (by decide) kw_827 kw_828 kw_829 kw_1 kw_830 hd_X9_go ⟨Nat.le_of_ble_eq_true rfl, Nat.le_of_ble_eq_true rfl⟩ rfl rfl rfl (Nat.le_of_ble_eq_true rfl) ⟨by show ce + 0 ≤ 601024; omega, by show sl + 0 ≤ 7293034; omega⟩ dL_law_647 (fun H locs G => ?_)
        refine lv_aload_n hx hb dL_law_650 rfl (lv_at hl 2 rfl) ?_
        refine lv_aload_n hx hb dL_law_651 rfl (lv_at hl 0 rfl) ?_
        refine lv_iload hx hb dL_law_652 (lv_at hl 4 rfl) ?_
        refine lv_iconst (v := (1 : Int32)) hx hb dL_law_654 (by decide) ?_
        refine lv_iadd hx hb dL_law_655 ?_
        refine va_sld hx hb hX hbs hbA G.2.2 v1 dL_law_656 ?_
        refine xr_callV (ci := 10) (q := 99) (As := [.int (xs (nI i + 1).toNatClampNeg)]) (rest := [.int r]) (st1 := [.int r, .int r]) S G hl.1 (fun h => by cases h) (mt_X10_go l D cid b false sa sv B0 shA 99 (xs (nI i + 1).toNatClampNeg) d1 _ _ e2) shA_99 (by decide) kw_1612 kw_1613 kw_1614 kw_17 kw_1615 hd_X10_go ⟨Nat.le_of_ble_eq_true rfl, Nat.le_of_ble_eq_true rfl⟩ rfl rfl rfl (Nat.le_of_ble_eq_true rfl) ⟨by show ce + 0 ≤ 601024; omega, by show sl + 0 ≤ 7293034; omega⟩ dL_law_657 (fun H locs G => ?_)
        refine lv_icmp_eq (tgt := 1338) hx hb dL_law_660 (by decide) (fun _ => ?_) (fun c => absurd rfl c)
        exact K1338 _ _ d2 _ _ ls h6 (by show ce + 0 ≤ ce + 1; omega) (by show sl + 0 ≤ sl + 6; omega) hR (lv_sub hl [0, 1, 2, 3, 4] rfl) G
      by_cases c13 : sel = (13 : Int32)
      · refine xr_tab (k := (13 : Int32)) (tgt := 665) hx hb c13 dL_law_40 (by decide) (by decide) rfl (by decide) ?_
        refine lv_aload_n hx hb dL_law_665 rfl (lv_at hl 1 rfl) ?_
        refine lv_aload_n hx hb dL_law_666 rfl (lv_at hl 0 rfl) ?_
        refine lv_iload hx hb dL_law_667 (lv_at hl 4 rfl) ?_
        refine lv_iconst (v := (1 : Int32)) hx hb dL_law_669 (by decide) ?_
        refine lv_iadd hx hb dL_law_670 ?_
        refine va_sld hx hb hX hbs hbA G.2.2 v1 dL_law_671 ?_
        refine lv_aload_n hx hb dL_law_672 rfl (lv_at hl 0 rfl) ?_
        refine lv_iload hx hb dL_law_673 (lv_at hl 4 rfl) ?_
        refine lv_iconst (v := (2 : Int32)) hx hb dL_law_675 (by decide) ?_
        refine lv_iadd hx hb dL_law_676 ?_
        refine va_sld hx hb hX hbs hbA G.2.2 v2 dL_law_677 ?_
        refine lv_aload_n hx hb dL_law_678 rfl (lv_at hl 0 rfl) ?_
        refine lv_iload hx hb dL_law_679 (lv_at hl 4 rfl) ?_
        refine lv_iconst (v := (3 : Int32)) hx hb dL_law_681 (by decide) ?_
        refine lv_iadd hx hb dL_law_682 ?_
        refine va_sld hx hb hX hbs hbA G.2.2 v3 dL_law_683 ?_
        obtain ⟨r, d1, d2, e1, e2, hR⟩ := h_ahead d (xs (nI i + 1).toNatClampNeg) (xs (nI i + 2).toNatClampNeg) (xs (nI i + 3).toNatClampNeg) hRel
        refine xr_callV (ci := 9) (q := 0) (As := [.int (xs (nI i + 1).toNatClampNeg), .int (xs (nI i + 2).toNatClampNeg), .int (xs (nI i + 3).toNatClampNeg)]) (rest := []) (st1 := [.int r]) S G hl.1 (fun h => by cases h) (mt_X9_ahead l D cid b false sa sv B0 shA 0 (xs (nI i + 1).toNatClampNeg) (xs (nI i + 2).toNatClampNeg) (xs (nI i + 3).toNatClampNeg) d _ _ e1) shA_0 (by decide) kw_897 kw_898 kw_899 kw_1 kw_900 hd_X9_ahead ⟨Nat.le_of_ble_eq_true rfl, Nat.le_of_ble_eq_true rfl⟩ rfl rfl rfl (Nat.le_of_ble_eq_true rfl) ⟨by show ce + 0 ≤ 601024; omega, by show sl + 0 ≤ 7293034; omega⟩ dL_law_684 (fun H locs G => ?_)
        refine lv_aload_n hx hb dL_law_687 rfl (lv_at hl 2 rfl) ?_
        refine lv_aload_n hx hb dL_law_688 rfl (lv_at hl 0 rfl) ?_
        refine lv_iload hx hb dL_law_689 (lv_at hl 4 rfl) ?_
        refine lv_iconst (v := (1 : Int32)) hx hb dL_law_691 (by decide) ?_
        refine lv_iadd hx hb dL_law_692 ?_
        refine va_sld hx hb hX hbs hbA G.2.2 v1 dL_law_693 ?_
        refine lv_aload_n hx hb dL_law_694 rfl (lv_at hl 0 rfl) ?_
        refine lv_iload hx hb dL_law_695 (lv_at hl 4 rfl) ?_
        refine lv_iconst (v := (2 : Int32)) hx hb dL_law_697 (by decide) ?_
        refine lv_iadd hx hb dL_law_698 ?_
        refine va_sld hx hb hX hbs hbA G.2.2 v2 dL_law_699 ?_
        refine lv_aload_n hx hb dL_law_700 rfl (lv_at hl 0 rfl) ?_
        refine lv_iload hx hb dL_law_701 (lv_at hl 4 rfl) ?_
        refine lv_iconst (v := (3 : Int32)) hx hb dL_law_703 (by decide) ?_
        refine lv_iadd hx hb dL_law_704 ?_
        refine va_sld hx hb hX hbs hbA G.2.2 v3 dL_law_705 ?_
        refine xr_callV (ci := 10) (q := 99) (As := [.int (xs (nI i + 1).toNatClampNeg), .int (xs (nI i + 2).toNatClampNeg), .int (xs (nI i + 3).toNatClampNeg)]) (rest := [.int r]) (st1 := [.int r, .int r]) S G hl.1 (fun h => by cases h) (mt_X10_ahead l D cid b false sa sv B0 shA 99 (xs (nI i + 1).toNatClampNeg) (xs (nI i + 2).toNatClampNeg) (xs (nI i + 3).toNatClampNeg) d1 _ _ e2) shA_99 (by decide) kw_1653 kw_1654 kw_1655 kw_17 kw_1656 hd_X10_ahead ⟨Nat.le_of_ble_eq_true rfl, Nat.le_of_ble_eq_true rfl⟩ rfl rfl rfl (Nat.le_of_ble_eq_true rfl) ⟨by show ce + 0 ≤ 601024; omega, by show sl + 0 ≤ 7293034; omega⟩ dL_law_706 (fun H locs G => ?_)
        refine lv_icmp_eq (tgt := 1338) hx hb dL_law_709 (by decide) (fun _ => ?_) (fun c => absurd rfl c)
        exact K1338 _ _ d2 _ _ ls h6 (by show ce + 0 ≤ ce + 1; omega) (by show sl + 0 ≤ sl + 6; omega) hR (lv_sub hl [0, 1, 2, 3, 4] rfl) G
      by_cases c14 : sel = (14 : Int32)
      · refine xr_tab (k := (14 : Int32)) (tgt := 714) hx hb c14 dL_law_40 (by decide) (by decide) rfl (by decide) ?_
        refine lv_aload_n hx hb dL_law_714 rfl (lv_at hl 1 rfl) ?_
        refine lv_aload_n hx hb dL_law_715 rfl (lv_at hl 0 rfl) ?_
        refine lv_iload hx hb dL_law_716 (lv_at hl 4 rfl) ?_
        refine lv_iconst (v := (1 : Int32)) hx hb dL_law_718 (by decide) ?_
        refine lv_iadd hx hb dL_law_719 ?_
        refine va_sld hx hb hX hbs hbA G.2.2 v1 dL_law_720 ?_
        refine lv_aload_n hx hb dL_law_721 rfl (lv_at hl 0 rfl) ?_
        refine lv_iload hx hb dL_law_722 (lv_at hl 4 rfl) ?_
        refine lv_iconst (v := (2 : Int32)) hx hb dL_law_724 (by decide) ?_
        refine lv_iadd hx hb dL_law_725 ?_
        refine va_sld hx hb hX hbs hbA G.2.2 v2 dL_law_726 ?_
        obtain ⟨r, d1, d2, e1, e2, hR⟩ := h_meet d (xs (nI i + 1).toNatClampNeg) (xs (nI i + 2).toNatClampNeg) hRel
        refine xr_callV (ci := 9) (q := 0) (As := [.int (xs (nI i + 1).toNatClampNeg), .int (xs (nI i + 2).toNatClampNeg)]) (rest := []) (st1 := [.int r]) S G hl.1 (fun h => by cases h) (mt_X9_meet l D cid b false sa sv B0 shA 0 (xs (nI i + 1).toNatClampNeg) (xs (nI i + 2).toNatClampNeg) d _ _ e1) shA_0 (by decide) kw_906 kw_907 kw_908 kw_1 kw_909 hd_X9_meet ⟨Nat.le_of_ble_eq_true rfl, Nat.le_of_ble_eq_true rfl⟩ rfl rfl rfl (Nat.le_of_ble_eq_true rfl) ⟨by show ce + 0 ≤ 601024; omega, by show sl + 0 ≤ 7293034; omega⟩ dL_law_727 (fun H locs G => ?_)
        refine lv_aload_n hx hb dL_law_730 rfl (lv_at hl 2 rfl) ?_
        refine lv_aload_n hx hb dL_law_731 rfl (lv_at hl 0 rfl) ?_
        refine lv_iload hx hb dL_law_732 (lv_at hl 4 rfl) ?_
        refine lv_iconst (v := (1 : Int32)) hx hb dL_law_734 (by decide) ?_
        refine lv_iadd hx hb dL_law_735 ?_
        refine va_sld hx hb hX hbs hbA G.2.2 v1 dL_law_736 ?_
        refine lv_aload_n hx hb dL_law_737 rfl (lv_at hl 0 rfl) ?_
        refine lv_iload hx hb dL_law_738 (lv_at hl 4 rfl) ?_
        refine lv_iconst (v := (2 : Int32)) hx hb dL_law_740 (by decide) ?_
        refine lv_iadd hx hb dL_law_741 ?_
        refine va_sld hx hb hX hbs hbA G.2.2 v2 dL_law_742 ?_
        refine xr_callV (ci := 10) (q := 99) (As := [.int (xs (nI i + 1).toNatClampNeg), .int (xs (nI i + 2).toNatClampNeg)]) (rest := [.int r]) (st1 := [.int r, .int r]) S G hl.1 (fun h => by cases h) (mt_X10_meet l D cid b false sa sv B0 shA 99 (xs (nI i + 1).toNatClampNeg) (xs (nI i + 2).toNatClampNeg) d1 _ _ e2) shA_99 (by decide) kw_1669 kw_1670 kw_1671 kw_17 kw_1672 hd_X10_meet ⟨Nat.le_of_ble_eq_true rfl, Nat.le_of_ble_eq_true rfl⟩ rfl rfl rfl (Nat.le_of_ble_eq_true rfl) ⟨by show ce + 0 ≤ 601024; omega, by show sl + 0 ≤ 7293034; omega⟩ dL_law_743 (fun H locs G => ?_)
        refine lv_icmp_eq (tgt := 1338) hx hb dL_law_746 (by decide) (fun _ => ?_) (fun c => absurd rfl c)
        exact K1338 _ _ d2 _ _ ls h6 (by show ce + 0 ≤ ce + 1; omega) (by show sl + 0 ≤ sl + 6; omega) hR (lv_sub hl [0, 1, 2, 3, 4] rfl) G
      by_cases c15 : sel = (15 : Int32)
      · refine xr_tab (k := (15 : Int32)) (tgt := 751) hx hb c15 dL_law_40 (by decide) (by decide) rfl (by decide) ?_
        refine lv_aload_n hx hb dL_law_751 rfl (lv_at hl 1 rfl) ?_
        refine lv_aload_n hx hb dL_law_752 rfl (lv_at hl 0 rfl) ?_
        refine lv_iload hx hb dL_law_753 (lv_at hl 4 rfl) ?_
        refine lv_iconst (v := (1 : Int32)) hx hb dL_law_755 (by decide) ?_
        refine lv_iadd hx hb dL_law_756 ?_
        refine va_sld hx hb hX hbs hbA G.2.2 v1 dL_law_757 ?_
        refine lv_aload_n hx hb dL_law_758 rfl (lv_at hl 0 rfl) ?_
        refine lv_iload hx hb dL_law_759 (lv_at hl 4 rfl) ?_
        refine lv_iconst (v := (2 : Int32)) hx hb dL_law_761 (by decide) ?_
        refine lv_iadd hx hb dL_law_762 ?_
        refine va_sld hx hb hX hbs hbA G.2.2 v2 dL_law_763 ?_
        obtain ⟨r, d1, d2, e1, e2, hR⟩ := h_pass d (xs (nI i + 1).toNatClampNeg) (xs (nI i + 2).toNatClampNeg) hRel
        refine xr_callV (ci := 9) (q := 0) (As := [.int (xs (nI i + 1).toNatClampNeg), .int (xs (nI i + 2).toNatClampNeg)]) (rest := []) (st1 := [.int r]) S G hl.1 (fun h => by cases h) (mt_X9_pass l D cid b false sa sv B0 shA 0 (xs (nI i + 1).toNatClampNeg) (xs (nI i + 2).toNatClampNeg) d _ _ e1) shA_0 (by decide) kw_915 kw_916 kw_917 kw_1 kw_918 hd_X9_pass ⟨Nat.le_of_ble_eq_true rfl, Nat.le_of_ble_eq_true rfl⟩ rfl rfl rfl (Nat.le_of_ble_eq_true rfl) ⟨by show ce + 0 ≤ 601024; omega, by show sl + 0 ≤ 7293034; omega⟩ dL_law_764 (fun H locs G => ?_)
        refine lv_aload_n hx hb dL_law_767 rfl (lv_at hl 2 rfl) ?_
        refine lv_aload_n hx hb dL_law_768 rfl (lv_at hl 0 rfl) ?_
        refine lv_iload hx hb dL_law_769 (lv_at hl 4 rfl) ?_
        refine lv_iconst (v := (1 : Int32)) hx hb dL_law_771 (by decide) ?_
        refine lv_iadd hx hb dL_law_772 ?_
        refine va_sld hx hb hX hbs hbA G.2.2 v1 dL_law_773 ?_
        refine lv_aload_n hx hb dL_law_774 rfl (lv_at hl 0 rfl) ?_
        refine lv_iload hx hb dL_law_775 (lv_at hl 4 rfl) ?_
        refine lv_iconst (v := (2 : Int32)) hx hb dL_law_777 (by decide) ?_
        refine lv_iadd hx hb dL_law_778 ?_
        refine va_sld hx hb hX hbs hbA G.2.2 v2 dL_law_779 ?_
        refine xr_callV (ci := 10) (q := 99) (As := [.int (xs (nI i + 1).toNatClampNeg), .int (xs (nI i + 2).toNatClampNeg)]) (rest := [.int r]) (st1 := [.int r, .int r]) S G hl.1 (fun h => by cases h) (mt_X10_pass l D cid b false sa sv B0 shA 99 (xs (nI i + 1).toNatClampNeg) (xs (nI i + 2).toNatClampNeg) d1 _ _ e2) shA_99 (by decide) kw_1677 kw_1678 kw_1679 kw_17 kw_1680 hd_X10_pass ⟨Nat.le_of_ble_eq_true rfl, Nat.le_of_ble_eq_true rfl⟩ rfl rfl rfl (Nat.le_of_ble_eq_true rfl) ⟨by show ce + 0 ≤ 601024; omega, by show sl + 0 ≤ 7293034; omega⟩ dL_law_780 (fun H locs G => ?_)
        refine lv_icmp_eq (tgt := 1338) hx hb dL_law_783 (by decide) (fun _ => ?_) (fun c => absurd rfl c)
        exact K1338 _ _ d2 _ _ ls h6 (by show ce + 0 ≤ ce + 1; omega) (by show sl + 0 ≤ sl + 6; omega) hR (lv_sub hl [0, 1, 2, 3, 4] rfl) G
      by_cases c16 : sel = (16 : Int32)
      · refine xr_tab (k := (16 : Int32)) (tgt := 788) hx hb c16 dL_law_40 (by decide) (by decide) rfl (by decide) ?_
        refine lv_aload_n hx hb dL_law_788 rfl (lv_at hl 1 rfl) ?_
        refine lv_aload_n hx hb dL_law_789 rfl (lv_at hl 0 rfl) ?_
        refine lv_iload hx hb dL_law_790 (lv_at hl 4 rfl) ?_
        refine lv_iconst (v := (1 : Int32)) hx hb dL_law_792 (by decide) ?_
        refine lv_iadd hx hb dL_law_793 ?_
        refine va_sld hx hb hX hbs hbA G.2.2 v1 dL_law_794 ?_
        obtain ⟨r, d1, d2, e1, e2, hR⟩ := h_out d (xs (nI i + 1).toNatClampNeg) hRel
        refine xr_callV (ci := 9) (q := 0) (As := [.int (xs (nI i + 1).toNatClampNeg)]) (rest := []) (st1 := [.int r]) S G hl.1 (fun h => by cases h) (mt_X9_out l D cid b false sa sv B0 shA 0 (xs (nI i + 1).toNatClampNeg) d _ _ e1) shA_0 (by decide) kw_926 kw_927 kw_928 kw_1 kw_929 hd_X9_out ⟨Nat.le_of_ble_eq_true rfl, Nat.le_of_ble_eq_true rfl⟩ rfl rfl rfl (Nat.le_of_ble_eq_true rfl) ⟨by show ce + 0 ≤ 601024; omega, by show sl + 0 ≤ 7293034; omega⟩ dL_law_795 (fun H locs G => ?_)
        refine lv_aload_n hx hb dL_law_798 rfl (lv_at hl 2 rfl) ?_
        refine lv_aload_n hx hb dL_law_799 rfl (lv_at hl 0 rfl) ?_
        refine lv_iload hx hb dL_law_800 (lv_at hl 4 rfl) ?_
        refine lv_iconst (v := (1 : Int32)) hx hb dL_law_802 (by decide) ?_
        refine lv_iadd hx hb dL_law_803 ?_
        refine va_sld hx hb hX hbs hbA G.2.2 v1 dL_law_804 ?_
        refine xr_callV (ci := 10) (q := 99) (As := [.int (xs (nI i + 1).toNatClampNeg)]) (rest := [.int r]) (st1 := [.int r, .int r]) S G hl.1 (fun h => by cases h) (mt_X10_out l D cid b false sa sv B0 shA 99 (xs (nI i + 1).toNatClampNeg) d1 _ _ e2) shA_99 (by decide) kw_1685 kw_1686 kw_1687 kw_17 kw_1688 hd_X10_out ⟨Nat.le_of_ble_eq_true rfl, Nat.le_of_ble_eq_true rfl⟩ rfl rfl rfl (Nat.le_of_ble_eq_true rfl) ⟨by show ce + 0 ≤ 601024; omega, by show sl + 0 ≤ 7293034; omega⟩ dL_law_805 (fun H locs G => ?_)
        refine lv_icmp_eq (tgt := 1338) hx hb dL_law_808 (by decide) (fun _ => ?_) (fun c => absurd rfl c)
        exact K1338 _ _ d2 _ _ ls h6 (by show ce + 0 ≤ ce + 1; omega) (by show sl + 0 ≤ sl + 6; omega) hR (lv_sub hl [0, 1, 2, 3, 4] rfl) G
      by_cases c17 : sel = (17 : Int32)
      · refine xr_tab (k := (17 : Int32)) (tgt := 813) hx hb c17 dL_law_40 (by decide) (by decide) rfl (by decide) ?_
        refine lv_aload_n hx hb dL_law_813 rfl (lv_at hl 1 rfl) ?_
        refine lv_aload_n hx hb dL_law_814 rfl (lv_at hl 0 rfl) ?_
        refine lv_iload hx hb dL_law_815 (lv_at hl 4 rfl) ?_
        refine lv_iconst (v := (1 : Int32)) hx hb dL_law_817 (by decide) ?_
        refine lv_iadd hx hb dL_law_818 ?_
        refine va_sld hx hb hX hbs hbA G.2.2 v1 dL_law_819 ?_
        refine lv_aload_n hx hb dL_law_820 rfl (lv_at hl 0 rfl) ?_
        refine lv_iload hx hb dL_law_821 (lv_at hl 4 rfl) ?_
        refine lv_iconst (v := (2 : Int32)) hx hb dL_law_823 (by decide) ?_
        refine lv_iadd hx hb dL_law_824 ?_
        refine va_sld hx hb hX hbs hbA G.2.2 v2 dL_law_825 ?_
        refine lv_aload_n hx hb dL_law_826 rfl (lv_at hl 0 rfl) ?_
        refine lv_iload hx hb dL_law_827 (lv_at hl 4 rfl) ?_
        refine lv_iconst (v := (3 : Int32)) hx hb dL_law_829 (by decide) ?_
        refine lv_iadd hx hb dL_law_830 ?_
        refine va_sld hx hb hX hbs hbA G.2.2 v3 dL_law_831 ?_
        obtain ⟨r, d1, d2, e1, e2, hR⟩ := h_best d (xs (nI i + 1).toNatClampNeg) (xs (nI i + 2).toNatClampNeg) (xs (nI i + 3).toNatClampNeg) hRel
        refine xr_callV (ci := 9) (q := 0) (As := [.int (xs (nI i + 1).toNatClampNeg), .int (xs (nI i + 2).toNatClampNeg), .int (xs (nI i + 3).toNatClampNeg)]) (rest := []) (st1 := [.int r]) S G hl.1 (fun h => by cases h) (mt_X9_best l D cid b false sa sv B0 shA 0 (xs (nI i + 1).toNatClampNeg) (xs (nI i + 2).toNatClampNeg) (xs (nI i + 3).toNatClampNeg) d _ _ e1) shA_0 (by decide) kw_930 kw_931 kw_932 kw_1 kw_933 hd_X9_best ⟨Nat.le_of_ble_eq_true rfl, Nat.le_of_ble_eq_true rfl⟩ rfl rfl rfl (Nat.le_of_ble_eq_true rfl) ⟨by show ce + 0 ≤ 601024; omega, by show sl + 0 ≤ 7293034; omega⟩ dL_law_832 (fun H locs G => ?_)
        refine lv_aload_n hx hb dL_law_835 rfl (lv_at hl 2 rfl) ?_
        refine lv_aload_n hx hb dL_law_836 rfl (lv_at hl 0 rfl) ?_
        refine lv_iload hx hb dL_law_837 (lv_at hl 4 rfl) ?_
        refine lv_iconst (v := (1 : Int32)) hx hb dL_law_839 (by decide) ?_
        refine lv_iadd hx hb dL_law_840 ?_
        refine va_sld hx hb hX hbs hbA G.2.2 v1 dL_law_841 ?_
        refine lv_aload_n hx hb dL_law_842 rfl (lv_at hl 0 rfl) ?_
        refine lv_iload hx hb dL_law_843 (lv_at hl 4 rfl) ?_
        refine lv_iconst (v := (2 : Int32)) hx hb dL_law_845 (by decide) ?_
        refine lv_iadd hx hb dL_law_846 ?_
        refine va_sld hx hb hX hbs hbA G.2.2 v2 dL_law_847 ?_
        refine lv_aload_n hx hb dL_law_848 rfl (lv_at hl 0 rfl) ?_
        refine lv_iload hx hb dL_law_849 (lv_at hl 4 rfl) ?_
        refine lv_iconst (v := (3 : Int32)) hx hb dL_law_851 (by decide) ?_
        refine lv_iadd hx hb dL_law_852 ?_
        refine va_sld hx hb hX hbs hbA G.2.2 v3 dL_law_853 ?_
        refine xr_callV (ci := 10) (q := 99) (As := [.int (xs (nI i + 1).toNatClampNeg), .int (xs (nI i + 2).toNatClampNeg), .int (xs (nI i + 3).toNatClampNeg)]) (rest := [.int r]) (st1 := [.int r, .int r]) S G hl.1 (fun h => by cases h) (mt_X10_best l D cid b false sa sv B0 shA 99 (xs (nI i + 1).toNatClampNeg) (xs (nI i + 2).toNatClampNeg) (xs (nI i + 3).toNatClampNeg) d1 _ _ e2) shA_99 (by decide) kw_1689 kw_1690 kw_1691 kw_17 kw_1692 hd_X10_best ⟨Nat.le_of_ble_eq_true rfl, Nat.le_of_ble_eq_true rfl⟩ rfl rfl rfl (Nat.le_of_ble_eq_true rfl) ⟨by show ce + 0 ≤ 601024; omega, by show sl + 0 ≤ 7293034; omega⟩ dL_law_854 (fun H locs G => ?_)
        refine lv_icmp_eq (tgt := 1338) hx hb dL_law_857 (by decide) (fun _ => ?_) (fun c => absurd rfl c)
        exact K1338 _ _ d2 _ _ ls h6 (by show ce + 0 ≤ ce + 1; omega) (by show sl + 0 ≤ sl + 6; omega) hR (lv_sub hl [0, 1, 2, 3, 4] rfl) G
      by_cases c18 : sel = (18 : Int32)
      · refine xr_tab (k := (18 : Int32)) (tgt := 862) hx hb c18 dL_law_40 (by decide) (by decide) rfl (by decide) ?_
        refine lv_aload_n hx hb dL_law_862 rfl (lv_at hl 1 rfl) ?_
        refine lv_aload_n hx hb dL_law_863 rfl (lv_at hl 0 rfl) ?_
        refine lv_iload hx hb dL_law_864 (lv_at hl 4 rfl) ?_
        refine lv_iconst (v := (1 : Int32)) hx hb dL_law_866 (by decide) ?_
        refine lv_iadd hx hb dL_law_867 ?_
        refine va_sld hx hb hX hbs hbA G.2.2 v1 dL_law_868 ?_
        obtain ⟨r, d1, d2, e1, e2, hR⟩ := h_cover d (xs (nI i + 1).toNatClampNeg) hRel
        refine xr_callV (ci := 9) (q := 0) (As := [.int (xs (nI i + 1).toNatClampNeg)]) (rest := []) (st1 := [.int r]) S G hl.1 (fun h => by cases h) (mt_X9_cover l D cid b false sa sv B0 shA 0 (xs (nI i + 1).toNatClampNeg) d _ _ e1) shA_0 (by decide) kw_935 kw_936 kw_937 kw_1 kw_938 hd_X9_cover ⟨Nat.le_of_ble_eq_true rfl, Nat.le_of_ble_eq_true rfl⟩ rfl rfl rfl (Nat.le_of_ble_eq_true rfl) ⟨by show ce + 0 ≤ 601024; omega, by show sl + 0 ≤ 7293034; omega⟩ dL_law_869 (fun H locs G => ?_)
        refine lv_aload_n hx hb dL_law_872 rfl (lv_at hl 2 rfl) ?_
        refine lv_aload_n hx hb dL_law_873 rfl (lv_at hl 0 rfl) ?_
        refine lv_iload hx hb dL_law_874 (lv_at hl 4 rfl) ?_
        refine lv_iconst (v := (1 : Int32)) hx hb dL_law_876 (by decide) ?_
        refine lv_iadd hx hb dL_law_877 ?_
        refine va_sld hx hb hX hbs hbA G.2.2 v1 dL_law_878 ?_
        refine xr_callV (ci := 10) (q := 99) (As := [.int (xs (nI i + 1).toNatClampNeg)]) (rest := [.int r]) (st1 := [.int r, .int r]) S G hl.1 (fun h => by cases h) (mt_X10_cover l D cid b false sa sv B0 shA 99 (xs (nI i + 1).toNatClampNeg) d1 _ _ e2) shA_99 (by decide) kw_1693 kw_1694 kw_1695 kw_17 kw_1696 hd_X10_cover ⟨Nat.le_of_ble_eq_true rfl, Nat.le_of_ble_eq_true rfl⟩ rfl rfl rfl (Nat.le_of_ble_eq_true rfl) ⟨by show ce + 0 ≤ 601024; omega, by show sl + 0 ≤ 7293034; omega⟩ dL_law_879 (fun H locs G => ?_)
        refine lv_icmp_eq (tgt := 1338) hx hb dL_law_882 (by decide) (fun _ => ?_) (fun c => absurd rfl c)
        exact K1338 _ _ d2 _ _ ls h6 (by show ce + 0 ≤ ce + 1; omega) (by show sl + 0 ≤ sl + 6; omega) hR (lv_sub hl [0, 1, 2, 3, 4] rfl) G
      by_cases c19 : sel = (19 : Int32)
      · refine xr_tab (k := (19 : Int32)) (tgt := 887) hx hb c19 dL_law_40 (by decide) (by decide) rfl (by decide) ?_
        refine lv_aload_n hx hb dL_law_887 rfl (lv_at hl 1 rfl) ?_
        obtain ⟨r, d1, d2, e1, e2, hR⟩ := h_carry d hRel
        refine xr_callV (ci := 9) (q := 0) (As := []) (rest := []) (st1 := [.int r]) S G hl.1 (fun h => by cases h) (mt_X9_carry l D cid b false sa sv B0 shA 0 d _ _ e1) shA_0 (by decide) kw_943 kw_944 kw_945 kw_1 kw_946 hd_X9_carry ⟨Nat.le_of_ble_eq_true rfl, Nat.le_of_ble_eq_true rfl⟩ rfl rfl rfl (Nat.le_of_ble_eq_true rfl) ⟨by show ce + 0 ≤ 601024; omega, by show sl + 0 ≤ 7293034; omega⟩ dL_law_888 (fun H locs G => ?_)
        refine lv_aload_n hx hb dL_law_891 rfl (lv_at hl 2 rfl) ?_
        refine xr_callV (ci := 10) (q := 99) (As := []) (rest := [.int r]) (st1 := [.int r, .int r]) S G hl.1 (fun h => by cases h) (mt_X10_carry l D cid b false sa sv B0 shA 99 d1 _ _ e2) shA_99 (by decide) kw_1701 kw_1702 kw_1703 kw_17 kw_1704 hd_X10_carry ⟨Nat.le_of_ble_eq_true rfl, Nat.le_of_ble_eq_true rfl⟩ rfl rfl rfl (Nat.le_of_ble_eq_true rfl) ⟨by show ce + 0 ≤ 601024; omega, by show sl + 0 ≤ 7293034; omega⟩ dL_law_892 (fun H locs G => ?_)
        refine lv_icmp_eq (tgt := 1338) hx hb dL_law_895 (by decide) (fun _ => ?_) (fun c => absurd rfl c)
        exact K1338 _ _ d2 _ _ ls h6 (by show ce + 0 ≤ ce + 1; omega) (by show sl + 0 ≤ sl + 6; omega) hR (lv_sub hl [0, 1, 2, 3, 4] rfl) G
      by_cases c20 : sel = (20 : Int32)
      · refine xr_tab (k := (20 : Int32)) (tgt := 900) hx hb c20 dL_law_40 (by decide) (by decide) rfl (by decide) ?_
        refine lv_aload_n hx hb dL_law_900 rfl (lv_at hl 1 rfl) ?_
        refine lv_aload_n hx hb dL_law_901 rfl (lv_at hl 0 rfl) ?_
        refine lv_iload hx hb dL_law_902 (lv_at hl 4 rfl) ?_
        refine lv_iconst (v := (1 : Int32)) hx hb dL_law_904 (by decide) ?_
        refine lv_iadd hx hb dL_law_905 ?_
        refine va_sld hx hb hX hbs hbA G.2.2 v1 dL_law_906 ?_
        refine lv_aload_n hx hb dL_law_907 rfl (lv_at hl 0 rfl) ?_
        refine lv_iload hx hb dL_law_908 (lv_at hl 4 rfl) ?_
        refine lv_iconst (v := (2 : Int32)) hx hb dL_law_910 (by decide) ?_
        refine lv_iadd hx hb dL_law_911 ?_
        refine va_sld hx hb hX hbs hbA G.2.2 v2 dL_law_912 ?_
        obtain ⟨r, d1, d2, e1, e2, hR⟩ := h_rests d (xs (nI i + 1).toNatClampNeg) (xs (nI i + 2).toNatClampNeg) hRel
        refine xr_callV (ci := 9) (q := 0) (As := [.int (xs (nI i + 1).toNatClampNeg), .int (xs (nI i + 2).toNatClampNeg)]) (rest := []) (st1 := [.int r]) S G hl.1 (fun h => by cases h) (mt_X9_rests l D cid b false sa sv B0 shA 0 (xs (nI i + 1).toNatClampNeg) (xs (nI i + 2).toNatClampNeg) d _ _ e1) shA_0 (by decide) kw_947 kw_948 kw_949 kw_1 kw_950 hd_X9_rests ⟨Nat.le_of_ble_eq_true rfl, Nat.le_of_ble_eq_true rfl⟩ rfl rfl rfl (Nat.le_of_ble_eq_true rfl) ⟨by show ce + 0 ≤ 601024; omega, by show sl + 0 ≤ 7293034; omega⟩ dL_law_913 (fun H locs G => ?_)
        refine lv_aload_n hx hb dL_law_916 rfl (lv_at hl 2 rfl) ?_
        refine lv_aload_n hx hb dL_law_917 rfl (lv_at hl 0 rfl) ?_
        refine lv_iload hx hb dL_law_918 (lv_at hl 4 rfl) ?_
        refine lv_iconst (v := (1 : Int32)) hx hb dL_law_920 (by decide) ?_
        refine lv_iadd hx hb dL_law_921 ?_
        refine va_sld hx hb hX hbs hbA G.2.2 v1 dL_law_922 ?_
        refine lv_aload_n hx hb dL_law_923 rfl (lv_at hl 0 rfl) ?_
        refine lv_iload hx hb dL_law_924 (lv_at hl 4 rfl) ?_
        refine lv_iconst (v := (2 : Int32)) hx hb dL_law_926 (by decide) ?_
        refine lv_iadd hx hb dL_law_927 ?_
        refine va_sld hx hb hX hbs hbA G.2.2 v2 dL_law_928 ?_
        refine xr_callV (ci := 10) (q := 99) (As := [.int (xs (nI i + 1).toNatClampNeg), .int (xs (nI i + 2).toNatClampNeg)]) (rest := [.int r]) (st1 := [.int r, .int r]) S G hl.1 (fun h => by cases h) (mt_X10_rests l D cid b false sa sv B0 shA 99 (xs (nI i + 1).toNatClampNeg) (xs (nI i + 2).toNatClampNeg) d1 _ _ e2) shA_99 (by decide) kw_1705 kw_1706 kw_1707 kw_17 kw_1708 hd_X10_rests ⟨Nat.le_of_ble_eq_true rfl, Nat.le_of_ble_eq_true rfl⟩ rfl rfl rfl (Nat.le_of_ble_eq_true rfl) ⟨by show ce + 0 ≤ 601024; omega, by show sl + 0 ≤ 7293034; omega⟩ dL_law_929 (fun H locs G => ?_)
        refine lv_icmp_eq (tgt := 1338) hx hb dL_law_932 (by decide) (fun _ => ?_) (fun c => absurd rfl c)
        exact K1338 _ _ d2 _ _ ls h6 (by show ce + 0 ≤ ce + 1; omega) (by show sl + 0 ≤ sl + 6; omega) hR (lv_sub hl [0, 1, 2, 3, 4] rfl) G
      by_cases c21 : sel = (21 : Int32)
      · refine xr_tab (k := (21 : Int32)) (tgt := 937) hx hb c21 dL_law_40 (by decide) (by decide) rfl (by decide) ?_
        refine lv_aload_n hx hb dL_law_937 rfl (lv_at hl 1 rfl) ?_
        refine lv_aload_n hx hb dL_law_938 rfl (lv_at hl 0 rfl) ?_
        refine lv_iload hx hb dL_law_939 (lv_at hl 4 rfl) ?_
        refine lv_iconst (v := (1 : Int32)) hx hb dL_law_941 (by decide) ?_
        refine lv_iadd hx hb dL_law_942 ?_
        refine va_sld hx hb hX hbs hbA G.2.2 v1 dL_law_943 ?_
        refine lv_aload_n hx hb dL_law_944 rfl (lv_at hl 0 rfl) ?_
        refine lv_iload hx hb dL_law_945 (lv_at hl 4 rfl) ?_
        refine lv_iconst (v := (2 : Int32)) hx hb dL_law_947 (by decide) ?_
        refine lv_iadd hx hb dL_law_948 ?_
        refine va_sld hx hb hX hbs hbA G.2.2 v2 dL_law_949 ?_
        refine lv_aload_n hx hb dL_law_950 rfl (lv_at hl 0 rfl) ?_
        refine lv_iload hx hb dL_law_951 (lv_at hl 4 rfl) ?_
        refine lv_iconst (v := (3 : Int32)) hx hb dL_law_953 (by decide) ?_
        refine lv_iadd hx hb dL_law_954 ?_
        refine va_sld hx hb hX hbs hbA G.2.2 v3 dL_law_955 ?_
        obtain ⟨r, d1, d2, e1, e2, hR⟩ := h_rest d (xs (nI i + 1).toNatClampNeg) (xs (nI i + 2).toNatClampNeg) (xs (nI i + 3).toNatClampNeg) hRel
        refine xr_callV (ci := 9) (q := 0) (As := [.int (xs (nI i + 1).toNatClampNeg), .int (xs (nI i + 2).toNatClampNeg), .int (xs (nI i + 3).toNatClampNeg)]) (rest := []) (st1 := [.int r]) S G hl.1 (fun h => by cases h) (mt_X9_rest l D cid b false sa sv B0 shA 0 (xs (nI i + 1).toNatClampNeg) (xs (nI i + 2).toNatClampNeg) (xs (nI i + 3).toNatClampNeg) d _ _ e1) shA_0 (by decide) kw_957 kw_958 kw_959 kw_1 kw_960 hd_X9_rest ⟨Nat.le_of_ble_eq_true rfl, Nat.le_of_ble_eq_true rfl⟩ rfl rfl rfl (Nat.le_of_ble_eq_true rfl) ⟨by show ce + 0 ≤ 601024; omega, by show sl + 0 ≤ 7293034; omega⟩ dL_law_956 (fun H locs G => ?_)
        refine lv_aload_n hx hb dL_law_959 rfl (lv_at hl 2 rfl) ?_
        refine lv_aload_n hx hb dL_law_960 rfl (lv_at hl 0 rfl) ?_
        refine lv_iload hx hb dL_law_961 (lv_at hl 4 rfl) ?_
        refine lv_iconst (v := (1 : Int32)) hx hb dL_law_963 (by decide) ?_
        refine lv_iadd hx hb dL_law_964 ?_
        refine va_sld hx hb hX hbs hbA G.2.2 v1 dL_law_965 ?_
        refine lv_aload_n hx hb dL_law_966 rfl (lv_at hl 0 rfl) ?_
        refine lv_iload hx hb dL_law_967 (lv_at hl 4 rfl) ?_
        refine lv_iconst (v := (2 : Int32)) hx hb dL_law_969 (by decide) ?_
        refine lv_iadd hx hb dL_law_970 ?_
        refine va_sld hx hb hX hbs hbA G.2.2 v2 dL_law_971 ?_
        refine lv_aload_n hx hb dL_law_972 rfl (lv_at hl 0 rfl) ?_
        refine lv_iload hx hb dL_law_973 (lv_at hl 4 rfl) ?_
        refine lv_iconst (v := (3 : Int32)) hx hb dL_law_975 (by decide) ?_
        refine lv_iadd hx hb dL_law_976 ?_
        refine va_sld hx hb hX hbs hbA G.2.2 v3 dL_law_977 ?_
        refine xr_callV (ci := 10) (q := 99) (As := [.int (xs (nI i + 1).toNatClampNeg), .int (xs (nI i + 2).toNatClampNeg), .int (xs (nI i + 3).toNatClampNeg)]) (rest := [.int r]) (st1 := [.int r, .int r]) S G hl.1 (fun h => by cases h) (mt_X10_rest l D cid b false sa sv B0 shA 99 (xs (nI i + 1).toNatClampNeg) (xs (nI i + 2).toNatClampNeg) (xs (nI i + 3).toNatClampNeg) d1 _ _ e2) shA_99 (by decide) kw_1721 kw_1722 kw_1723 kw_17 kw_1724 hd_X10_rest ⟨Nat.le_of_ble_eq_true rfl, Nat.le_of_ble_eq_true rfl⟩ rfl rfl rfl (Nat.le_of_ble_eq_true rfl) ⟨by show ce + 0 ≤ 601024; omega, by show sl + 0 ≤ 7293034; omega⟩ dL_law_978 (fun H locs G => ?_)
        refine lv_icmp_eq (tgt := 1338) hx hb dL_law_981 (by decide) (fun _ => ?_) (fun c => absurd rfl c)
        exact K1338 _ _ d2 _ _ ls h6 (by show ce + 0 ≤ ce + 1; omega) (by show sl + 0 ≤ sl + 6; omega) hR (lv_sub hl [0, 1, 2, 3, 4] rfl) G
      by_cases c22 : sel = (22 : Int32)
      · refine xr_tab (k := (22 : Int32)) (tgt := 986) hx hb c22 dL_law_40 (by decide) (by decide) rfl (by decide) ?_
        refine lv_aload_n hx hb dL_law_986 rfl (lv_at hl 1 rfl) ?_
        refine lv_aload_n hx hb dL_law_987 rfl (lv_at hl 0 rfl) ?_
        refine lv_iload hx hb dL_law_988 (lv_at hl 4 rfl) ?_
        refine lv_iconst (v := (1 : Int32)) hx hb dL_law_990 (by decide) ?_
        refine lv_iadd hx hb dL_law_991 ?_
        refine va_sld hx hb hX hbs hbA G.2.2 v1 dL_law_992 ?_
        refine lv_aload_n hx hb dL_law_993 rfl (lv_at hl 0 rfl) ?_
        refine lv_iload hx hb dL_law_994 (lv_at hl 4 rfl) ?_
        refine lv_iconst (v := (2 : Int32)) hx hb dL_law_996 (by decide) ?_
        refine lv_iadd hx hb dL_law_997 ?_
        refine va_sld hx hb hX hbs hbA G.2.2 v2 dL_law_998 ?_
        obtain ⟨r, d1, d2, e1, e2, hR⟩ := h_quiet d (xs (nI i + 1).toNatClampNeg) (xs (nI i + 2).toNatClampNeg) hRel
        refine xr_callV (ci := 9) (q := 0) (As := [.int (xs (nI i + 1).toNatClampNeg), .int (xs (nI i + 2).toNatClampNeg)]) (rest := []) (st1 := [.long r]) S G hl.1 (fun h => by cases h) (mt_X9_quiet l D cid b false sa sv B0 shA 0 (xs (nI i + 1).toNatClampNeg) (xs (nI i + 2).toNatClampNeg) d _ _ e1) shA_0 (by decide) kw_961 kw_962 kw_963 kw_1 kw_964 hd_X9_quiet ⟨Nat.le_of_ble_eq_true rfl, Nat.le_of_ble_eq_true rfl⟩ rfl rfl rfl (Nat.le_of_ble_eq_true rfl) ⟨by show ce + 0 ≤ 601024; omega, by show sl + 0 ≤ 7293034; omega⟩ dL_law_999 (fun H locs G => ?_)
        refine lv_aload_n hx hb dL_law_1002 rfl (lv_at hl 2 rfl) ?_
        refine lv_aload_n hx hb dL_law_1003 rfl (lv_at hl 0 rfl) ?_
        refine lv_iload hx hb dL_law_1004 (lv_at hl 4 rfl) ?_
        refine lv_iconst (v := (1 : Int32)) hx hb dL_law_1006 (by decide) ?_
        refine lv_iadd hx hb dL_law_1007 ?_
        refine va_sld hx hb hX hbs hbA G.2.2 v1 dL_law_1008 ?_
        refine lv_aload_n hx hb dL_law_1009 rfl (lv_at hl 0 rfl) ?_
        refine lv_iload hx hb dL_law_1010 (lv_at hl 4 rfl) ?_
        refine lv_iconst (v := (2 : Int32)) hx hb dL_law_1012 (by decide) ?_
        refine lv_iadd hx hb dL_law_1013 ?_
        refine va_sld hx hb hX hbs hbA G.2.2 v2 dL_law_1014 ?_
        refine xr_callV (ci := 10) (q := 99) (As := [.int (xs (nI i + 1).toNatClampNeg), .int (xs (nI i + 2).toNatClampNeg)]) (rest := [.long r]) (st1 := [.long r, .long r]) S G hl.1 (fun h => by cases h) (mt_X10_quiet l D cid b false sa sv B0 shA 99 (xs (nI i + 1).toNatClampNeg) (xs (nI i + 2).toNatClampNeg) d1 _ _ e2) shA_99 (by decide) kw_1725 kw_1726 kw_1727 kw_17 kw_1728 hd_X10_quiet ⟨Nat.le_of_ble_eq_true rfl, Nat.le_of_ble_eq_true rfl⟩ rfl rfl rfl (Nat.le_of_ble_eq_true rfl) ⟨by show ce + 0 ≤ 601024; omega, by show sl + 0 ≤ 7293034; omega⟩ dL_law_1015 (fun H locs G => ?_)
        refine W.lcmp hx hb dL_law_1018 ?_
        refine lv_if_eq (tgt := 1338) hx hb dL_law_1019 (by decide) (fun _ => ?_) (fun c => absurd (x_cmp _) c)
        exact K1338 _ _ d2 _ _ ls h6 (by show ce + 0 ≤ ce + 1; omega) (by show sl + 0 ≤ sl + 6; omega) hR (lv_sub hl [0, 1, 2, 3, 4] rfl) G
      by_cases c23 : sel = (23 : Int32)
      · refine xr_tab (k := (23 : Int32)) (tgt := 1024) hx hb c23 dL_law_40 (by decide) (by decide) rfl (by decide) ?_
        refine lv_aload_n hx hb dL_law_1024 rfl (lv_at hl 1 rfl) ?_
        refine lv_aload_n hx hb dL_law_1025 rfl (lv_at hl 0 rfl) ?_
        refine lv_iload hx hb dL_law_1026 (lv_at hl 4 rfl) ?_
        refine lv_iconst (v := (1 : Int32)) hx hb dL_law_1028 (by decide) ?_
        refine lv_iadd hx hb dL_law_1029 ?_
        refine va_sld hx hb hX hbs hbA G.2.2 v1 dL_law_1030 ?_
        refine lv_aload_n hx hb dL_law_1031 rfl (lv_at hl 0 rfl) ?_
        refine lv_iload hx hb dL_law_1032 (lv_at hl 4 rfl) ?_
        refine lv_iconst (v := (2 : Int32)) hx hb dL_law_1034 (by decide) ?_
        refine lv_iadd hx hb dL_law_1035 ?_
        refine va_sld hx hb hX hbs hbA G.2.2 v2 dL_law_1036 ?_
        refine lv_aload_n hx hb dL_law_1037 rfl (lv_at hl 0 rfl) ?_
        refine lv_iload hx hb dL_law_1038 (lv_at hl 4 rfl) ?_
        refine lv_iconst (v := (3 : Int32)) hx hb dL_law_1040 (by decide) ?_
        refine lv_iadd hx hb dL_law_1041 ?_
        refine va_sld hx hb hX hbs hbA G.2.2 v3 dL_law_1042 ?_
        refine lv_aload_n hx hb dL_law_1043 rfl (lv_at hl 0 rfl) ?_
        refine lv_iload hx hb dL_law_1044 (lv_at hl 4 rfl) ?_
        refine lv_iconst (v := (4 : Int32)) hx hb dL_law_1046 (by decide) ?_
        refine lv_iadd hx hb dL_law_1047 ?_
        refine va_sld hx hb hX hbs hbA G.2.2 v4 dL_law_1048 ?_
        refine lv_if_eq (tgt := 1056) hx hb dL_law_1049 (by decide) (fun c4 => ?_) (fun c4 => ?_)
        · skip
          refine lv_iconst (v := (0 : Int32)) hx hb dL_law_1056 (by decide) ?_
          obtain ⟨r, d1, d2, e1, e2, hR⟩ := h_see d (xs (nI i + 1).toNatClampNeg) (xs (nI i + 2).toNatClampNeg) (xs (nI i + 3).toNatClampNeg) (0 : Int32) (Or.inl rfl) hRel
          refine xr_callV (ci := 9) (q := 0) (As := [.int (xs (nI i + 1).toNatClampNeg), .int (xs (nI i + 2).toNatClampNeg), .int (xs (nI i + 3).toNatClampNeg), .int (0 : Int32)]) (rest := []) (st1 := [.int r]) S G hl.1 (fun h => by cases h) (mt_X9_see l D cid b false sa sv B0 shA 0 (xs (nI i + 1).toNatClampNeg) (xs (nI i + 2).toNatClampNeg) (xs (nI i + 3).toNatClampNeg) (0 : Int32) d _ _ e1) shA_0 (by decide) kw_969 kw_970 kw_971 kw_1 kw_972 hd_X9_see ⟨Nat.le_of_ble_eq_true rfl, Nat.le_of_ble_eq_true rfl⟩ rfl rfl rfl (Nat.le_of_ble_eq_true rfl) ⟨by show ce + 0 ≤ 601024; omega, by show sl + 0 ≤ 7293034; omega⟩ dL_law_1057 (fun H locs G => ?_)
          refine lv_aload_n hx hb dL_law_1060 rfl (lv_at hl 2 rfl) ?_
          refine lv_aload_n hx hb dL_law_1061 rfl (lv_at hl 0 rfl) ?_
          refine lv_iload hx hb dL_law_1062 (lv_at hl 4 rfl) ?_
          refine lv_iconst (v := (1 : Int32)) hx hb dL_law_1064 (by decide) ?_
          refine lv_iadd hx hb dL_law_1065 ?_
          refine va_sld hx hb hX hbs hbA G.2.2 v1 dL_law_1066 ?_
          refine lv_aload_n hx hb dL_law_1067 rfl (lv_at hl 0 rfl) ?_
          refine lv_iload hx hb dL_law_1068 (lv_at hl 4 rfl) ?_
          refine lv_iconst (v := (2 : Int32)) hx hb dL_law_1070 (by decide) ?_
          refine lv_iadd hx hb dL_law_1071 ?_
          refine va_sld hx hb hX hbs hbA G.2.2 v2 dL_law_1072 ?_
          refine lv_aload_n hx hb dL_law_1073 rfl (lv_at hl 0 rfl) ?_
          refine lv_iload hx hb dL_law_1074 (lv_at hl 4 rfl) ?_
          refine lv_iconst (v := (3 : Int32)) hx hb dL_law_1076 (by decide) ?_
          refine lv_iadd hx hb dL_law_1077 ?_
          refine va_sld hx hb hX hbs hbA G.2.2 v3 dL_law_1078 ?_
          refine lv_aload_n hx hb dL_law_1079 rfl (lv_at hl 0 rfl) ?_
          refine lv_iload hx hb dL_law_1080 (lv_at hl 4 rfl) ?_
          refine lv_iconst (v := (4 : Int32)) hx hb dL_law_1082 (by decide) ?_
          refine lv_iadd hx hb dL_law_1083 ?_
          refine va_sld hx hb hX hbs hbA G.2.2 v4 dL_law_1084 ?_
          refine lv_if_eq (tgt := 1092) hx hb dL_law_1085 (by decide) (fun _ => ?_) (fun c5 => absurd c4 c5)
          refine lv_iconst (v := (0 : Int32)) hx hb dL_law_1092 (by decide) ?_
          refine xr_callV (ci := 10) (q := 99) (As := [.int (xs (nI i + 1).toNatClampNeg), .int (xs (nI i + 2).toNatClampNeg), .int (xs (nI i + 3).toNatClampNeg), .int (0 : Int32)]) (rest := [.int r]) (st1 := [.int r, .int r]) S G hl.1 (fun h => by cases h) (mt_X10_see l D cid b false sa sv B0 shA 99 (xs (nI i + 1).toNatClampNeg) (xs (nI i + 2).toNatClampNeg) (xs (nI i + 3).toNatClampNeg) (0 : Int32) d1 _ _ e2) shA_99 (by decide) kw_1734 kw_1735 kw_1736 kw_17 kw_1737 hd_X10_see ⟨Nat.le_of_ble_eq_true rfl, Nat.le_of_ble_eq_true rfl⟩ rfl rfl rfl (Nat.le_of_ble_eq_true rfl) ⟨by show ce + 0 ≤ 601024; omega, by show sl + 0 ≤ 7293034; omega⟩ dL_law_1093 (fun H locs G => ?_)
          refine lv_icmp_eq (tgt := 1338) hx hb dL_law_1096 (by decide) (fun _ => ?_) (fun c => absurd rfl c)
          exact K1338 _ _ d2 _ _ ls h6 (by show ce + 0 ≤ ce + 1; omega) (by show sl + 0 ≤ sl + 6; omega) hR (lv_sub hl [0, 1, 2, 3, 4] rfl) G
        · skip
          refine lv_iconst (v := (1 : Int32)) hx hb dL_law_1052 (by decide) ?_
          refine lv_goto (tgt := 1057) hx hb dL_law_1053 (by decide) ?_
          obtain ⟨r, d1, d2, e1, e2, hR⟩ := h_see d (xs (nI i + 1).toNatClampNeg) (xs (nI i + 2).toNatClampNeg) (xs (nI i + 3).toNatClampNeg) (1 : Int32) (Or.inr rfl) hRel
          refine xr_callV (ci := 9) (q := 0) (As := [.int (xs (nI i + 1).toNatClampNeg), .int (xs (nI i + 2).toNatClampNeg), .int (xs (nI i + 3).toNatClampNeg), .int (1 : Int32)]) (rest := []) (st1 := [.int r]) S G hl.1 (fun h => by cases h) (mt_X9_see l D cid b false sa sv B0 shA 0 (xs (nI i + 1).toNatClampNeg) (xs (nI i + 2).toNatClampNeg) (xs (nI i + 3).toNatClampNeg) (1 : Int32) d _ _ e1) shA_0 (by decide) kw_969 kw_970 kw_971 kw_1 kw_972 hd_X9_see ⟨Nat.le_of_ble_eq_true rfl, Nat.le_of_ble_eq_true rfl⟩ rfl rfl rfl (Nat.le_of_ble_eq_true rfl) ⟨by show ce + 0 ≤ 601024; omega, by show sl + 0 ≤ 7293034; omega⟩ dL_law_1057 (fun H locs G => ?_)
          refine lv_aload_n hx hb dL_law_1060 rfl (lv_at hl 2 rfl) ?_
          refine lv_aload_n hx hb dL_law_1061 rfl (lv_at hl 0 rfl) ?_
          refine lv_iload hx hb dL_law_1062 (lv_at hl 4 rfl) ?_
          refine lv_iconst (v := (1 : Int32)) hx hb dL_law_1064 (by decide) ?_
          refine lv_iadd hx hb dL_law_1065 ?_
          refine va_sld hx hb hX hbs hbA G.2.2 v1 dL_law_1066 ?_
          refine lv_aload_n hx hb dL_law_1067 rfl (lv_at hl 0 rfl) ?_
          refine lv_iload hx hb dL_law_1068 (lv_at hl 4 rfl) ?_
          refine lv_iconst (v := (2 : Int32)) hx hb dL_law_1070 (by decide) ?_
          refine lv_iadd hx hb dL_law_1071 ?_
          refine va_sld hx hb hX hbs hbA G.2.2 v2 dL_law_1072 ?_
          refine lv_aload_n hx hb dL_law_1073 rfl (lv_at hl 0 rfl) ?_
          refine lv_iload hx hb dL_law_1074 (lv_at hl 4 rfl) ?_
          refine lv_iconst (v := (3 : Int32)) hx hb dL_law_1076 (by decide) ?_
          refine lv_iadd hx hb dL_law_1077 ?_
          refine va_sld hx hb hX hbs hbA G.2.2 v3 dL_law_1078 ?_
          refine lv_aload_n hx hb dL_law_1079 rfl (lv_at hl 0 rfl) ?_
          refine lv_iload hx hb dL_law_1080 (lv_at hl 4 rfl) ?_
          refine lv_iconst (v := (4 : Int32)) hx hb dL_law_1082 (by decide) ?_
          refine lv_iadd hx hb dL_law_1083 ?_
          refine va_sld hx hb hX hbs hbA G.2.2 v4 dL_law_1084 ?_
          refine lv_if_eq (tgt := 1092) hx hb dL_law_1085 (by decide) (fun c5 => absurd c5 c4) (fun _ => ?_)
          refine lv_iconst (v := (1 : Int32)) hx hb dL_law_1088 (by decide) ?_
          refine lv_goto (tgt := 1093) hx hb dL_law_1089 (by decide) ?_
          refine xr_callV (ci := 10) (q := 99) (As := [.int (xs (nI i + 1).toNatClampNeg), .int (xs (nI i + 2).toNatClampNeg), .int (xs (nI i + 3).toNatClampNeg), .int (1 : Int32)]) (rest := [.int r]) (st1 := [.int r, .int r]) S G hl.1 (fun h => by cases h) (mt_X10_see l D cid b false sa sv B0 shA 99 (xs (nI i + 1).toNatClampNeg) (xs (nI i + 2).toNatClampNeg) (xs (nI i + 3).toNatClampNeg) (1 : Int32) d1 _ _ e2) shA_99 (by decide) kw_1734 kw_1735 kw_1736 kw_17 kw_1737 hd_X10_see ⟨Nat.le_of_ble_eq_true rfl, Nat.le_of_ble_eq_true rfl⟩ rfl rfl rfl (Nat.le_of_ble_eq_true rfl) ⟨by show ce + 0 ≤ 601024; omega, by show sl + 0 ≤ 7293034; omega⟩ dL_law_1093 (fun H locs G => ?_)
          refine lv_icmp_eq (tgt := 1338) hx hb dL_law_1096 (by decide) (fun _ => ?_) (fun c => absurd rfl c)
          exact K1338 _ _ d2 _ _ ls h6 (by show ce + 0 ≤ ce + 1; omega) (by show sl + 0 ≤ sl + 6; omega) hR (lv_sub hl [0, 1, 2, 3, 4] rfl) G
      by_cases c24 : sel = (24 : Int32)
      · refine xr_tab (k := (24 : Int32)) (tgt := 1101) hx hb c24 dL_law_40 (by decide) (by decide) rfl (by decide) ?_
        refine lv_aload_n hx hb dL_law_1101 rfl (lv_at hl 1 rfl) ?_
        refine lv_aload_n hx hb dL_law_1102 rfl (lv_at hl 0 rfl) ?_
        refine lv_iload hx hb dL_law_1103 (lv_at hl 4 rfl) ?_
        refine lv_iconst (v := (1 : Int32)) hx hb dL_law_1105 (by decide) ?_
        refine lv_iadd hx hb dL_law_1106 ?_
        refine va_sld hx hb hX hbs hbA G.2.2 v1 dL_law_1107 ?_
        obtain ⟨r, d1, d2, e1, e2, hR⟩ := h_strike d (xs (nI i + 1).toNatClampNeg) hRel
        refine xr_callV (ci := 9) (q := 0) (As := [.int (xs (nI i + 1).toNatClampNeg)]) (rest := []) (st1 := [.int r]) S G hl.1 (fun h => by cases h) (mt_X9_strike l D cid b false sa sv B0 shA 0 (xs (nI i + 1).toNatClampNeg) d _ _ e1) shA_0 (by decide) kw_981 kw_982 kw_983 kw_1 kw_984 hd_X9_strike ⟨Nat.le_of_ble_eq_true rfl, Nat.le_of_ble_eq_true rfl⟩ rfl rfl rfl (Nat.le_of_ble_eq_true rfl) ⟨by show ce + 0 ≤ 601024; omega, by show sl + 0 ≤ 7293034; omega⟩ dL_law_1108 (fun H locs G => ?_)
        refine lv_aload_n hx hb dL_law_1111 rfl (lv_at hl 2 rfl) ?_
        refine lv_aload_n hx hb dL_law_1112 rfl (lv_at hl 0 rfl) ?_
        refine lv_iload hx hb dL_law_1113 (lv_at hl 4 rfl) ?_
        refine lv_iconst (v := (1 : Int32)) hx hb dL_law_1115 (by decide) ?_
        refine lv_iadd hx hb dL_law_1116 ?_
        refine va_sld hx hb hX hbs hbA G.2.2 v1 dL_law_1117 ?_
        refine xr_callV (ci := 10) (q := 99) (As := [.int (xs (nI i + 1).toNatClampNeg)]) (rest := [.int r]) (st1 := [.int r, .int r]) S G hl.1 (fun h => by cases h) (mt_X10_strike l D cid b false sa sv B0 shA 99 (xs (nI i + 1).toNatClampNeg) d1 _ _ e2) shA_99 (by decide) kw_1738 kw_1739 kw_1740 kw_17 kw_1741 hd_X10_strike ⟨Nat.le_of_ble_eq_true rfl, Nat.le_of_ble_eq_true rfl⟩ rfl rfl rfl (Nat.le_of_ble_eq_true rfl) ⟨by show ce + 0 ≤ 601024; omega, by show sl + 0 ≤ 7293034; omega⟩ dL_law_1118 (fun H locs G => ?_)
        refine lv_icmp_eq (tgt := 1338) hx hb dL_law_1121 (by decide) (fun _ => ?_) (fun c => absurd rfl c)
        exact K1338 _ _ d2 _ _ ls h6 (by show ce + 0 ≤ ce + 1; omega) (by show sl + 0 ≤ sl + 6; omega) hR (lv_sub hl [0, 1, 2, 3, 4] rfl) G
      by_cases c25 : sel = (25 : Int32)
      · refine xr_tab (k := (25 : Int32)) (tgt := 1126) hx hb c25 dL_law_40 (by decide) (by decide) rfl (by decide) ?_
        refine lv_aload_n hx hb dL_law_1126 rfl (lv_at hl 1 rfl) ?_
        refine lv_aload_n hx hb dL_law_1127 rfl (lv_at hl 0 rfl) ?_
        refine lv_iload hx hb dL_law_1128 (lv_at hl 4 rfl) ?_
        refine lv_iconst (v := (1 : Int32)) hx hb dL_law_1130 (by decide) ?_
        refine lv_iadd hx hb dL_law_1131 ?_
        refine va_sld hx hb hX hbs hbA G.2.2 v1 dL_law_1132 ?_
        obtain ⟨r, d1, d2, e1, e2, hR⟩ := h_known d (xs (nI i + 1).toNatClampNeg) hRel
        refine xr_callV (ci := 9) (q := 0) (As := [.int (xs (nI i + 1).toNatClampNeg)]) (rest := []) (st1 := [.int r]) S G hl.1 (fun h => by cases h) (mt_X9_known l D cid b false sa sv B0 shA 0 (xs (nI i + 1).toNatClampNeg) d _ _ e1) shA_0 (by decide) kw_989 kw_990 kw_991 kw_1 kw_992 hd_X9_known ⟨Nat.le_of_ble_eq_true rfl, Nat.le_of_ble_eq_true rfl⟩ rfl rfl rfl (Nat.le_of_ble_eq_true rfl) ⟨by show ce + 0 ≤ 601024; omega, by show sl + 0 ≤ 7293034; omega⟩ dL_law_1133 (fun H locs G => ?_)
        refine lv_aload_n hx hb dL_law_1136 rfl (lv_at hl 2 rfl) ?_
        refine lv_aload_n hx hb dL_law_1137 rfl (lv_at hl 0 rfl) ?_
        refine lv_iload hx hb dL_law_1138 (lv_at hl 4 rfl) ?_
        refine lv_iconst (v := (1 : Int32)) hx hb dL_law_1140 (by decide) ?_
        refine lv_iadd hx hb dL_law_1141 ?_
        refine va_sld hx hb hX hbs hbA G.2.2 v1 dL_law_1142 ?_
        refine xr_callV (ci := 10) (q := 99) (As := [.int (xs (nI i + 1).toNatClampNeg)]) (rest := [.int r]) (st1 := [.int r, .int r]) S G hl.1 (fun h => by cases h) (mt_X10_known l D cid b false sa sv B0 shA 99 (xs (nI i + 1).toNatClampNeg) d1 _ _ e2) shA_99 (by decide) kw_1742 kw_1743 kw_1744 kw_17 kw_1745 hd_X10_known ⟨Nat.le_of_ble_eq_true rfl, Nat.le_of_ble_eq_true rfl⟩ rfl rfl rfl (Nat.le_of_ble_eq_true rfl) ⟨by show ce + 0 ≤ 601024; omega, by show sl + 0 ≤ 7293034; omega⟩ dL_law_1143 (fun H locs G => ?_)
        refine lv_icmp_eq (tgt := 1338) hx hb dL_law_1146 (by decide) (fun _ => ?_) (fun c => absurd rfl c)
        exact K1338 _ _ d2 _ _ ls h6 (by show ce + 0 ≤ ce + 1; omega) (by show sl + 0 ≤ sl + 6; omega) hR (lv_sub hl [0, 1, 2, 3, 4] rfl) G
      by_cases c26 : sel = (26 : Int32)
      · refine xr_tab (k := (26 : Int32)) (tgt := 1151) hx hb c26 dL_law_40 (by decide) (by decide) rfl (by decide) ?_
        refine lv_aload_n hx hb dL_law_1151 rfl (lv_at hl 1 rfl) ?_
        refine lv_aload_n hx hb dL_law_1152 rfl (lv_at hl 0 rfl) ?_
        refine lv_iload hx hb dL_law_1153 (lv_at hl 4 rfl) ?_
        refine lv_iconst (v := (1 : Int32)) hx hb dL_law_1155 (by decide) ?_
        refine lv_iadd hx hb dL_law_1156 ?_
        refine va_sld hx hb hX hbs hbA G.2.2 v1 dL_law_1157 ?_
        obtain ⟨r, d1, d2, e1, e2, hR⟩ := h_paces d (xs (nI i + 1).toNatClampNeg) hRel
        refine xr_callV (ci := 9) (q := 0) (As := [.int (xs (nI i + 1).toNatClampNeg)]) (rest := []) (st1 := [.int r]) S G hl.1 (fun h => by cases h) (mt_X9_paces l D cid b false sa sv B0 shA 0 (xs (nI i + 1).toNatClampNeg) d _ _ e1) shA_0 (by decide) kw_993 kw_994 kw_995 kw_1 kw_996 hd_X9_paces ⟨Nat.le_of_ble_eq_true rfl, Nat.le_of_ble_eq_true rfl⟩ rfl rfl rfl (Nat.le_of_ble_eq_true rfl) ⟨by show ce + 0 ≤ 601024; omega, by show sl + 0 ≤ 7293034; omega⟩ dL_law_1158 (fun H locs G => ?_)
        refine lv_aload_n hx hb dL_law_1161 rfl (lv_at hl 2 rfl) ?_
        refine lv_aload_n hx hb dL_law_1162 rfl (lv_at hl 0 rfl) ?_
        refine lv_iload hx hb dL_law_1163 (lv_at hl 4 rfl) ?_
        refine lv_iconst (v := (1 : Int32)) hx hb dL_law_1165 (by decide) ?_
        refine lv_iadd hx hb dL_law_1166 ?_
        refine va_sld hx hb hX hbs hbA G.2.2 v1 dL_law_1167 ?_
        refine xr_callV (ci := 10) (q := 99) (As := [.int (xs (nI i + 1).toNatClampNeg)]) (rest := [.int r]) (st1 := [.int r, .int r]) S G hl.1 (fun h => by cases h) (mt_X10_paces l D cid b false sa sv B0 shA 99 (xs (nI i + 1).toNatClampNeg) d1 _ _ e2) shA_99 (by decide) kw_1746 kw_1747 kw_1748 kw_17 kw_1749 hd_X10_paces ⟨Nat.le_of_ble_eq_true rfl, Nat.le_of_ble_eq_true rfl⟩ rfl rfl rfl (Nat.le_of_ble_eq_true rfl) ⟨by show ce + 0 ≤ 601024; omega, by show sl + 0 ≤ 7293034; omega⟩ dL_law_1168 (fun H locs G => ?_)
        refine lv_icmp_eq (tgt := 1338) hx hb dL_law_1171 (by decide) (fun _ => ?_) (fun c => absurd rfl c)
        exact K1338 _ _ d2 _ _ ls h6 (by show ce + 0 ≤ ce + 1; omega) (by show sl + 0 ≤ sl + 6; omega) hR (lv_sub hl [0, 1, 2, 3, 4] rfl) G
      by_cases c27 : sel = (27 : Int32)
      · refine xr_tab (k := (27 : Int32)) (tgt := 1176) hx hb c27 dL_law_40 (by decide) (by decide) rfl (by decide) ?_
        refine lv_aload_n hx hb dL_law_1176 rfl (lv_at hl 1 rfl) ?_
        refine lv_aload_n hx hb dL_law_1177 rfl (lv_at hl 0 rfl) ?_
        refine lv_iload hx hb dL_law_1178 (lv_at hl 4 rfl) ?_
        refine lv_iconst (v := (1 : Int32)) hx hb dL_law_1180 (by decide) ?_
        refine lv_iadd hx hb dL_law_1181 ?_
        refine va_sld hx hb hX hbs hbA G.2.2 v1 dL_law_1182 ?_
        refine lv_aload_n hx hb dL_law_1183 rfl (lv_at hl 0 rfl) ?_
        refine lv_iload hx hb dL_law_1184 (lv_at hl 4 rfl) ?_
        refine lv_iconst (v := (2 : Int32)) hx hb dL_law_1186 (by decide) ?_
        refine lv_iadd hx hb dL_law_1187 ?_
        refine va_sld hx hb hX hbs hbA G.2.2 v2 dL_law_1188 ?_
        refine lv_aload_n hx hb dL_law_1189 rfl (lv_at hl 0 rfl) ?_
        refine lv_iload hx hb dL_law_1190 (lv_at hl 4 rfl) ?_
        refine lv_iconst (v := (3 : Int32)) hx hb dL_law_1192 (by decide) ?_
        refine lv_iadd hx hb dL_law_1193 ?_
        refine va_sld hx hb hX hbs hbA G.2.2 v3 dL_law_1194 ?_
        obtain ⟨r, d1, d2, e1, e2, hR⟩ := h_chance d (xs (nI i + 1).toNatClampNeg) (xs (nI i + 2).toNatClampNeg) (xs (nI i + 3).toNatClampNeg) hRel
        refine xr_callV (ci := 9) (q := 0) (As := [.int (xs (nI i + 1).toNatClampNeg), .int (xs (nI i + 2).toNatClampNeg), .int (xs (nI i + 3).toNatClampNeg)]) (rest := []) (st1 := [.int r]) S G hl.1 (fun h => by cases h) (mt_X9_chance l D cid b false sa sv B0 shA 0 (xs (nI i + 1).toNatClampNeg) (xs (nI i + 2).toNatClampNeg) (xs (nI i + 3).toNatClampNeg) d _ _ e1) shA_0 (by decide) kw_1024 kw_1025 kw_1026 kw_1 kw_1027 hd_X9_chance ⟨Nat.le_of_ble_eq_true rfl, Nat.le_of_ble_eq_true rfl⟩ rfl rfl rfl (Nat.le_of_ble_eq_true rfl) ⟨by show ce + 0 ≤ 601024; omega, by show sl + 0 ≤ 7293034; omega⟩ dL_law_1195 (fun H locs G => ?_)
        refine lv_aload_n hx hb dL_law_1198 rfl (lv_at hl 2 rfl) ?_
        refine lv_aload_n hx hb dL_law_1199 rfl (lv_at hl 0 rfl) ?_
        refine lv_iload hx hb dL_law_1200 (lv_at hl 4 rfl) ?_
        refine lv_iconst (v := (1 : Int32)) hx hb dL_law_1202 (by decide) ?_
        refine lv_iadd hx hb dL_law_1203 ?_
        refine va_sld hx hb hX hbs hbA G.2.2 v1 dL_law_1204 ?_
        refine lv_aload_n hx hb dL_law_1205 rfl (lv_at hl 0 rfl) ?_
        refine lv_iload hx hb dL_law_1206 (lv_at hl 4 rfl) ?_
        refine lv_iconst (v := (2 : Int32)) hx hb dL_law_1208 (by decide) ?_
        refine lv_iadd hx hb dL_law_1209 ?_
        refine va_sld hx hb hX hbs hbA G.2.2 v2 dL_law_1210 ?_
        refine lv_aload_n hx hb dL_law_1211 rfl (lv_at hl 0 rfl) ?_
        refine lv_iload hx hb dL_law_1212 (lv_at hl 4 rfl) ?_
        refine lv_iconst (v := (3 : Int32)) hx hb dL_law_1214 (by decide) ?_
        refine lv_iadd hx hb dL_law_1215 ?_
        refine va_sld hx hb hX hbs hbA G.2.2 v3 dL_law_1216 ?_
        refine xr_callV (ci := 10) (q := 99) (As := [.int (xs (nI i + 1).toNatClampNeg), .int (xs (nI i + 2).toNatClampNeg), .int (xs (nI i + 3).toNatClampNeg)]) (rest := [.int r]) (st1 := [.int r, .int r]) S G hl.1 (fun h => by cases h) (mt_X10_chance l D cid b false sa sv B0 shA 99 (xs (nI i + 1).toNatClampNeg) (xs (nI i + 2).toNatClampNeg) (xs (nI i + 3).toNatClampNeg) d1 _ _ e2) shA_99 (by decide) kw_1763 kw_1764 kw_1765 kw_17 kw_1766 hd_X10_chance ⟨Nat.le_of_ble_eq_true rfl, Nat.le_of_ble_eq_true rfl⟩ rfl rfl rfl (Nat.le_of_ble_eq_true rfl) ⟨by show ce + 0 ≤ 601024; omega, by show sl + 0 ≤ 7293034; omega⟩ dL_law_1217 (fun H locs G => ?_)
        refine lv_icmp_eq (tgt := 1338) hx hb dL_law_1220 (by decide) (fun _ => ?_) (fun c => absurd rfl c)
        exact K1338 _ _ d2 _ _ ls h6 (by show ce + 0 ≤ ce + 1; omega) (by show sl + 0 ≤ sl + 6; omega) hR (lv_sub hl [0, 1, 2, 3, 4] rfl) G
      by_cases c28 : sel = (28 : Int32)
      · refine xr_tab (k := (28 : Int32)) (tgt := 1225) hx hb c28 dL_law_40 (by decide) (by decide) rfl (by decide) ?_
        refine lv_aload_n hx hb dL_law_1225 rfl (lv_at hl 1 rfl) ?_
        refine lv_aload_n hx hb dL_law_1226 rfl (lv_at hl 0 rfl) ?_
        refine lv_iload hx hb dL_law_1227 (lv_at hl 4 rfl) ?_
        refine lv_iconst (v := (1 : Int32)) hx hb dL_law_1229 (by decide) ?_
        refine lv_iadd hx hb dL_law_1230 ?_
        refine va_sld hx hb hX hbs hbA G.2.2 v1 dL_law_1231 ?_
        refine lv_aload_n hx hb dL_law_1232 rfl (lv_at hl 0 rfl) ?_
        refine lv_iload hx hb dL_law_1233 (lv_at hl 4 rfl) ?_
        refine lv_iconst (v := (2 : Int32)) hx hb dL_law_1235 (by decide) ?_
        refine lv_iadd hx hb dL_law_1236 ?_
        refine va_sld hx hb hX hbs hbA G.2.2 v2 dL_law_1237 ?_
        refine lv_aload_n hx hb dL_law_1238 rfl (lv_at hl 0 rfl) ?_
        refine lv_iload hx hb dL_law_1239 (lv_at hl 4 rfl) ?_
        refine lv_iconst (v := (3 : Int32)) hx hb dL_law_1241 (by decide) ?_
        refine lv_iadd hx hb dL_law_1242 ?_
        refine va_sld hx hb hX hbs hbA G.2.2 v3 dL_law_1243 ?_
        obtain ⟨r, d1, d2, e1, e2, hR⟩ := h_tried d (xs (nI i + 1).toNatClampNeg) (xs (nI i + 2).toNatClampNeg) (xs (nI i + 3).toNatClampNeg) hRel
        refine xr_callV (ci := 9) (q := 0) (As := [.int (xs (nI i + 1).toNatClampNeg), .int (xs (nI i + 2).toNatClampNeg), .int (xs (nI i + 3).toNatClampNeg)]) (rest := []) (st1 := [.int r]) S G hl.1 (fun h => by cases h) (mt_X9_tried l D cid b false sa sv B0 shA 0 (xs (nI i + 1).toNatClampNeg) (xs (nI i + 2).toNatClampNeg) (xs (nI i + 3).toNatClampNeg) d _ _ e1) shA_0 (by decide) kw_1028 kw_1029 kw_1030 kw_1 kw_1031 hd_X9_tried ⟨Nat.le_of_ble_eq_true rfl, Nat.le_of_ble_eq_true rfl⟩ rfl rfl rfl (Nat.le_of_ble_eq_true rfl) ⟨by show ce + 0 ≤ 601024; omega, by show sl + 0 ≤ 7293034; omega⟩ dL_law_1244 (fun H locs G => ?_)
        refine lv_aload_n hx hb dL_law_1247 rfl (lv_at hl 2 rfl) ?_
        refine lv_aload_n hx hb dL_law_1248 rfl (lv_at hl 0 rfl) ?_
        refine lv_iload hx hb dL_law_1249 (lv_at hl 4 rfl) ?_
        refine lv_iconst (v := (1 : Int32)) hx hb dL_law_1251 (by decide) ?_
        refine lv_iadd hx hb dL_law_1252 ?_
        refine va_sld hx hb hX hbs hbA G.2.2 v1 dL_law_1253 ?_
        refine lv_aload_n hx hb dL_law_1254 rfl (lv_at hl 0 rfl) ?_
        refine lv_iload hx hb dL_law_1255 (lv_at hl 4 rfl) ?_
        refine lv_iconst (v := (2 : Int32)) hx hb dL_law_1257 (by decide) ?_
        refine lv_iadd hx hb dL_law_1258 ?_
        refine va_sld hx hb hX hbs hbA G.2.2 v2 dL_law_1259 ?_
        refine lv_aload_n hx hb dL_law_1260 rfl (lv_at hl 0 rfl) ?_
        refine lv_iload hx hb dL_law_1261 (lv_at hl 4 rfl) ?_
        refine lv_iconst (v := (3 : Int32)) hx hb dL_law_1263 (by decide) ?_
        refine lv_iadd hx hb dL_law_1264 ?_
        refine va_sld hx hb hX hbs hbA G.2.2 v3 dL_law_1265 ?_
        refine xr_callV (ci := 10) (q := 99) (As := [.int (xs (nI i + 1).toNatClampNeg), .int (xs (nI i + 2).toNatClampNeg), .int (xs (nI i + 3).toNatClampNeg)]) (rest := [.int r]) (st1 := [.int r, .int r]) S G hl.1 (fun h => by cases h) (mt_X10_tried l D cid b false sa sv B0 shA 99 (xs (nI i + 1).toNatClampNeg) (xs (nI i + 2).toNatClampNeg) (xs (nI i + 3).toNatClampNeg) d1 _ _ e2) shA_99 (by decide) kw_1767 kw_1768 kw_1769 kw_17 kw_1770 hd_X10_tried ⟨Nat.le_of_ble_eq_true rfl, Nat.le_of_ble_eq_true rfl⟩ rfl rfl rfl (Nat.le_of_ble_eq_true rfl) ⟨by show ce + 0 ≤ 601024; omega, by show sl + 0 ≤ 7293034; omega⟩ dL_law_1266 (fun H locs G => ?_)
        refine lv_icmp_eq (tgt := 1338) hx hb dL_law_1269 (by decide) (fun _ => ?_) (fun c => absurd rfl c)
        exact K1338 _ _ d2 _ _ ls h6 (by show ce + 0 ≤ ce + 1; omega) (by show sl + 0 ≤ sl + 6; omega) hR (lv_sub hl [0, 1, 2, 3, 4] rfl) G
      by_cases c29 : sel = (29 : Int32)
      · refine xr_tab (k := (29 : Int32)) (tgt := 1274) hx hb c29 dL_law_40 (by decide) (by decide) rfl (by decide) ?_
        refine lv_aload_n hx hb dL_law_1274 rfl (lv_at hl 1 rfl) ?_
        obtain ⟨r, d1, d2, e1, e2, hR⟩ := h_undo d hRel
        refine xr_callV (ci := 9) (q := 0) (As := []) (rest := []) (st1 := [.int r]) S G hl.1 (fun h => by cases h) (mt_X9_undo l D cid b false sa sv B0 shA 0 d _ _ e1) shA_0 (by decide) kw_1037 kw_1038 kw_1039 kw_1 kw_1040 hd_X9_undo ⟨Nat.le_of_ble_eq_true rfl, Nat.le_of_ble_eq_true rfl⟩ rfl rfl rfl (Nat.le_of_ble_eq_true rfl) ⟨by show ce + 0 ≤ 601024; omega, by show sl + 0 ≤ 7293034; omega⟩ dL_law_1275 (fun H locs G => ?_)
        refine lv_aload_n hx hb dL_law_1278 rfl (lv_at hl 2 rfl) ?_
        refine xr_callV (ci := 10) (q := 99) (As := []) (rest := [.int r]) (st1 := [.int r, .int r]) S G hl.1 (fun h => by cases h) (mt_X10_undo l D cid b false sa sv B0 shA 99 d1 _ _ e2) shA_99 (by decide) kw_1771 kw_1772 kw_1773 kw_17 kw_1774 hd_X10_undo ⟨Nat.le_of_ble_eq_true rfl, Nat.le_of_ble_eq_true rfl⟩ rfl rfl rfl (Nat.le_of_ble_eq_true rfl) ⟨by show ce + 0 ≤ 601024; omega, by show sl + 0 ≤ 7293034; omega⟩ dL_law_1279 (fun H locs G => ?_)
        refine lv_icmp_eq (tgt := 1338) hx hb dL_law_1282 (by decide) (fun _ => ?_) (fun c => absurd rfl c)
        exact K1338 _ _ d2 _ _ ls h6 (by show ce + 0 ≤ ce + 1; omega) (by show sl + 0 ≤ sl + 6; omega) hR (lv_sub hl [0, 1, 2, 3, 4] rfl) G
      by_cases c30 : sel = (30 : Int32)
      · refine xr_tab (k := (30 : Int32)) (tgt := 1287) hx hb c30 dL_law_40 (by decide) (by decide) rfl (by decide) ?_
        refine lv_aload_n hx hb dL_law_1287 rfl (lv_at hl 1 rfl) ?_
        obtain ⟨r, d1, d2, e1, e2, hR⟩ := h_keep d hRel
        refine xr_callV (ci := 9) (q := 0) (As := []) (rest := []) (st1 := [.int r]) S G hl.1 (fun h => by cases h) (mt_X9_keep l D cid b false sa sv B0 shA 0 d _ _ e1) shA_0 (by decide) kw_1047 kw_1048 kw_1049 kw_1 kw_1050 hd_X9_keep ⟨Nat.le_of_ble_eq_true rfl, Nat.le_of_ble_eq_true rfl⟩ rfl rfl rfl (Nat.le_of_ble_eq_true rfl) ⟨by show ce + 0 ≤ 601024; omega, by show sl + 0 ≤ 7293034; omega⟩ dL_law_1288 (fun H locs G => ?_)
        refine lv_aload_n hx hb dL_law_1291 rfl (lv_at hl 2 rfl) ?_
        refine xr_callV (ci := 10) (q := 99) (As := []) (rest := [.int r]) (st1 := [.int r, .int r]) S G hl.1 (fun h => by cases h) (mt_X10_keep l D cid b false sa sv B0 shA 99 d1 _ _ e2) shA_99 (by decide) kw_1775 kw_1776 kw_1777 kw_17 kw_1778 hd_X10_keep ⟨Nat.le_of_ble_eq_true rfl, Nat.le_of_ble_eq_true rfl⟩ rfl rfl rfl (Nat.le_of_ble_eq_true rfl) ⟨by show ce + 0 ≤ 601024; omega, by show sl + 0 ≤ 7293034; omega⟩ dL_law_1292 (fun H locs G => ?_)
        refine lv_icmp_eq (tgt := 1338) hx hb dL_law_1295 (by decide) (fun _ => ?_) (fun c => absurd rfl c)
        exact K1338 _ _ d2 _ _ ls h6 (by show ce + 0 ≤ ce + 1; omega) (by show sl + 0 ≤ sl + 6; omega) hR (lv_sub hl [0, 1, 2, 3, 4] rfl) G
      by_cases c31 : sel = (31 : Int32)
      · refine xr_tab (k := (31 : Int32)) (tgt := 1300) hx hb c31 dL_law_40 (by decide) (by decide) rfl (by decide) ?_
        refine lv_aload_n hx hb dL_law_1300 rfl (lv_at hl 1 rfl) ?_
        obtain ⟨r, d1, d2, e1, e2, hR⟩ := h_back d hRel
        refine xr_callV (ci := 9) (q := 0) (As := []) (rest := []) (st1 := [.int r]) S G hl.1 (fun h => by cases h) (mt_X9_back l D cid b false sa sv B0 shA 0 d _ _ e1) shA_0 (by decide) kw_1051 kw_1052 kw_1053 kw_1 kw_1054 hd_X9_back ⟨Nat.le_of_ble_eq_true rfl, Nat.le_of_ble_eq_true rfl⟩ rfl rfl rfl (Nat.le_of_ble_eq_true rfl) ⟨by show ce + 0 ≤ 601024; omega, by show sl + 0 ≤ 7293034; omega⟩ dL_law_1301 (fun H locs G => ?_)
        refine lv_aload_n hx hb dL_law_1304 rfl (lv_at hl 2 rfl) ?_
        refine xr_callV (ci := 10) (q := 99) (As := []) (rest := [.int r]) (st1 := [.int r, .int r]) S G hl.1 (fun h => by cases h) (mt_X10_back l D cid b false sa sv B0 shA 99 d1 _ _ e2) shA_99 (by decide) kw_1779 kw_1780 kw_1781 kw_17 kw_1782 hd_X10_back ⟨Nat.le_of_ble_eq_true rfl, Nat.le_of_ble_eq_true rfl⟩ rfl rfl rfl (Nat.le_of_ble_eq_true rfl) ⟨by show ce + 0 ≤ 601024; omega, by show sl + 0 ≤ 7293034; omega⟩ dL_law_1305 (fun H locs G => ?_)
        refine lv_icmp_eq (tgt := 1338) hx hb dL_law_1308 (by decide) (fun _ => ?_) (fun c => absurd rfl c)
        exact K1338 _ _ d2 _ _ ls h6 (by show ce + 0 ≤ ce + 1; omega) (by show sl + 0 ≤ sl + 6; omega) hR (lv_sub hl [0, 1, 2, 3, 4] rfl) G
      by_cases c32 : sel = (32 : Int32)
      · refine xr_tab (k := (32 : Int32)) (tgt := 1313) hx hb c32 dL_law_40 (by decide) (by decide) rfl (by decide) ?_
        refine lv_aload_n hx hb dL_law_1313 rfl (lv_at hl 1 rfl) ?_
        refine lv_aload_n hx hb dL_law_1314 rfl (lv_at hl 0 rfl) ?_
        refine lv_iload hx hb dL_law_1315 (lv_at hl 4 rfl) ?_
        refine lv_iconst (v := (1 : Int32)) hx hb dL_law_1317 (by decide) ?_
        refine lv_iadd hx hb dL_law_1318 ?_
        refine va_sld hx hb hX hbs hbA G.2.2 v1 dL_law_1319 ?_
        obtain ⟨r, d1, d2, e1, e2, hR⟩ := h_count d (xs (nI i + 1).toNatClampNeg) hRel
        refine xr_callV (ci := 9) (q := 0) (As := [.int (xs (nI i + 1).toNatClampNeg)]) (rest := []) (st1 := [.int r]) S G hl.1 (fun h => by cases h) (mt_X9_count l D cid b false sa sv B0 shA 0 (xs (nI i + 1).toNatClampNeg) d _ _ e1) shA_0 (by decide) kw_1055 kw_1056 kw_1057 kw_1 kw_1058 hd_X9_count ⟨Nat.le_of_ble_eq_true rfl, Nat.le_of_ble_eq_true rfl⟩ rfl rfl rfl (Nat.le_of_ble_eq_true rfl) ⟨by show ce + 0 ≤ 601024; omega, by show sl + 0 ≤ 7293034; omega⟩ dL_law_1320 (fun H locs G => ?_)
        refine lv_aload_n hx hb dL_law_1323 rfl (lv_at hl 2 rfl) ?_
        refine lv_aload_n hx hb dL_law_1324 rfl (lv_at hl 0 rfl) ?_
        refine lv_iload hx hb dL_law_1325 (lv_at hl 4 rfl) ?_
        refine lv_iconst (v := (1 : Int32)) hx hb dL_law_1327 (by decide) ?_
        refine lv_iadd hx hb dL_law_1328 ?_
        refine va_sld hx hb hX hbs hbA G.2.2 v1 dL_law_1329 ?_
        refine xr_callV (ci := 10) (q := 99) (As := [.int (xs (nI i + 1).toNatClampNeg)]) (rest := [.int r]) (st1 := [.int r, .int r]) S G hl.1 (fun h => by cases h) (mt_X10_count l D cid b false sa sv B0 shA 99 (xs (nI i + 1).toNatClampNeg) d1 _ _ e2) shA_99 (by decide) kw_1783 kw_1784 kw_1785 kw_17 kw_1786 hd_X10_count ⟨Nat.le_of_ble_eq_true rfl, Nat.le_of_ble_eq_true rfl⟩ rfl rfl rfl (Nat.le_of_ble_eq_true rfl) ⟨by show ce + 0 ≤ 601024; omega, by show sl + 0 ≤ 7293034; omega⟩ dL_law_1330 (fun H locs G => ?_)
        refine lv_icmp_eq (tgt := 1338) hx hb dL_law_1333 (by decide) (fun _ => ?_) (fun c => absurd rfl c)
        exact K1338 _ _ d2 _ _ ls h6 (by show ce + 0 ≤ ce + 1; omega) (by show sl + 0 ≤ sl + 6; omega) hR (lv_sub hl [0, 1, 2, 3, 4] rfl) G
      have hks : ∀ z ∈ ([0, 1, 2, 3, 4, 5, 6, 7, 8, 9, 10, 11, 12, 13, 14, 15, 16, 17, 18, 19, 20, 21, 22, 23, 24, 25, 26, 27, 28, 29, 30, 31, 32] : List Int), sel.toInt ≠ z := by
        intro z hz
        simp only [List.mem_cons, List.not_mem_nil, or_false] at hz
        rcases hz with rfl | rfl | rfl | rfl | rfl | rfl | rfl | rfl | rfl | rfl | rfl | rfl | rfl | rfl | rfl | rfl | rfl | rfl | rfl | rfl | rfl | rfl | rfl | rfl | rfl | rfl | rfl | rfl | rfl | rfl | rfl | rfl | rfl
        · exact x_toInt_ne 0 c0 (by decide)
        · exact x_toInt_ne 1 c1 (by decide)
        · exact x_toInt_ne 2 c2 (by decide)
        · exact x_toInt_ne 3 c3 (by decide)
        · exact x_toInt_ne 4 c4 (by decide)
        · exact x_toInt_ne 5 c5 (by decide)
        · exact x_toInt_ne 6 c6 (by decide)
        · exact x_toInt_ne 7 c7 (by decide)
        · exact x_toInt_ne 8 c8 (by decide)
        · exact x_toInt_ne 9 c9 (by decide)
        · exact x_toInt_ne 10 c10 (by decide)
        · exact x_toInt_ne 11 c11 (by decide)
        · exact x_toInt_ne 12 c12 (by decide)
        · exact x_toInt_ne 13 c13 (by decide)
        · exact x_toInt_ne 14 c14 (by decide)
        · exact x_toInt_ne 15 c15 (by decide)
        · exact x_toInt_ne 16 c16 (by decide)
        · exact x_toInt_ne 17 c17 (by decide)
        · exact x_toInt_ne 18 c18 (by decide)
        · exact x_toInt_ne 19 c19 (by decide)
        · exact x_toInt_ne 20 c20 (by decide)
        · exact x_toInt_ne 21 c21 (by decide)
        · exact x_toInt_ne 22 c22 (by decide)
        · exact x_toInt_ne 23 c23 (by decide)
        · exact x_toInt_ne 24 c24 (by decide)
        · exact x_toInt_ne 25 c25 (by decide)
        · exact x_toInt_ne 26 c26 (by decide)
        · exact x_toInt_ne 27 c27 (by decide)
        · exact x_toInt_ne 28 c28 (by decide)
        · exact x_toInt_ne 29 c29 (by decide)
        · exact x_toInt_ne 30 c30 (by decide)
        · exact x_toInt_ne 31 c31 (by decide)
        · exact x_toInt_ne 32 c32 (by decide)
      refine xr_tabD (tgt := 1338) [0, 1, 2, 3, 4, 5, 6, 7, 8, 9, 10, 11, 12, 13, 14, 15, 16, 17, 18, 19, 20, 21, 22, 23, 24, 25, 26, 27, 28, 29, 30, 31, 32] hx hb dL_law_40 hks (by decide) (by decide) (by decide) ?_
      exact K1338 ce sl d _ _ ls h6 (by omega) (by omega) hRel (lv_sub hl [0, 1, 2, 3, 4] rfl) G

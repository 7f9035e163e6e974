/-! PURE HEAPS: a shape (an object of class number ci, or an array of a type with its length), whole numbers, longs, references by their offsets -/
abbrev xSh : Type := Nat ⊕ (FieldType × Nat)
abbrev xD : Type := (Nat → Nat → Int32) × (Nat → Nat → Int64) × (Nat → Nat → Option Nat)
def xCn (ci : Nat) : String := match ci with
  | 0 => RX0 | 1 => RX1 | 2 => RX2 | 3 => RX3 | 4 => RX4 | 5 => RX5 | 6 => RX6 | 7 => RX7 | 8 => RX8 | 9 => RX9 | _ => RX10
def xCT (ci : Nat) : u_T := match ci with
  | 0 => TX0 | 1 => TX1 | 2 => TX2 | 3 => TX3 | 4 => TX4 | 5 => TX5 | 6 => TX6 | 7 => TX7 | 8 => TX8 | 9 => TX9 | _ => TX10
def xTy (ci : Nat) : Nat → FieldType := match ci with
  | 0 => tyX0 | 1 => tyX1 | 2 => tyX2 | 3 => tyX3 | 4 => tyX4 | 5 => tyX5 | 6 => tyX6 | 7 => tyX7 | 8 => tyX8 | 9 => tyX9 | _ => tyX10
def xN (ci : Nat) : Nat := match ci with
  | 0 => 6 | 1 => 8 | 2 => 2 | 3 => 20 | 4 => 19 | 5 => 8 | 6 => 4 | 7 => 9 | 8 => 3 | 9 => 15 | _ => 65
theorem co_11 {P : Nat → Prop} (h0 : P 0) (h1 : P 1) (h2 : P 2) (h3 : P 3) (h4 : P 4) (h5 : P 5) (h6 : P 6) (h7 : P 7) (h8 : P 8) (h9 : P 9) (h10 : P 10) {i : Nat} (hi : i < 11) : P i := by
  rcases (show i = 0 ∨ i = 1 ∨ i = 2 ∨ i = 3 ∨ i = 4 ∨ i = 5 ∨ i = 6 ∨ i = 7 ∨ i = 8 ∨ i = 9 ∨ i = 10 by omega) with rfl | rfl | rfl | rfl | rfl | rfl | rfl | rfl | rfl | rfl | rfl <;> assumption
theorem x_cl {ci : Nat} (h : ci < 11) : vwCl[ci]? = some (xCn ci, xCT ci, xN ci) :=
  co_11 (P := fun ci => vwCl[ci]? = some (xCn ci, xCT ci, xN ci)) rfl rfl rfl rfl rfl rfl rfl rfl rfl rfl rfl h
theorem x_ty {ci : Nat} (h : ci < 11) : ∀ k, k < xN ci → parseFieldDescriptor (xCT ci k).2.2.1 = some (xTy ci k) :=
  co_11 (P := fun ci => ∀ k, k < xN ci → parseFieldDescriptor (xCT ci k).2.2.1 = some (xTy ci k)) tyX0_ok tyX1_ok tyX2_ok tyX3_ok tyX4_ok tyX5_ok tyX6_ok tyX7_ok tyX8_ok tyX9_ok tyX10_ok h
theorem x_nm {ci : Nat} (h : ci < 11) : ∀ a, a < xN ci → ∀ b, b < xN ci → a ≠ b → (xCT ci a).2.1 ≠ (xCT ci b).2.1 :=
  co_11 (P := fun ci => ∀ a, a < xN ci → ∀ b, b < xN ci → a ≠ b → (xCT ci a).2.1 ≠ (xCT ci b).2.1) nmX0 nmX1 nmX2 nmX3 nmX4 nmX5 nmX6 nmX7 nmX8 nmX9 nmX10 h
theorem x_in0 : ∀ w ∈ u_ws RX0 TX0 6, w ∈ xTB := by
  intro w hw
  obtain ⟨k, hk, rfl⟩ := List.mem_map.mp hw
  have hk : k < 6 := List.mem_range.mp hk
  rcases (show k = 0 ∨ k = 1 ∨ k = 2 ∨ k = 3 ∨ k = 4 ∨ k = 5 by omega) with rfl | rfl | rfl | rfl | rfl | rfl
  · exact kw_281
  · exact kw_283
  · exact kw_285
  · exact kw_287
  · exact kw_289
  · exact kw_291
theorem x_in1 : ∀ w ∈ u_ws RX1 TX1 8, w ∈ xTB := by
  intro w hw
  obtain ⟨k, hk, rfl⟩ := List.mem_map.mp hw
  have hk : k < 8 := List.mem_range.mp hk
  rcases (show k = 0 ∨ k = 1 ∨ k = 2 ∨ k = 3 ∨ k = 4 ∨ k = 5 ∨ k = 6 ∨ k = 7 by omega) with rfl | rfl | rfl | rfl | rfl | rfl | rfl | rfl
  · exact kw_55
  · exact kw_57
  · exact kw_59
  · exact kw_61
  · exact kw_63
  · exact kw_65
  · exact kw_67
  · exact kw_69
theorem x_in2 : ∀ w ∈ u_ws RX2 TX2 2, w ∈ xTB := by
  intro w hw
  obtain ⟨k, hk, rfl⟩ := List.mem_map.mp hw
  have hk : k < 2 := List.mem_range.mp hk
  rcases (show k = 0 ∨ k = 1 by omega) with rfl | rfl
  · exact kw_413
  · exact kw_415
theorem x_in3 : ∀ w ∈ u_ws RX3 TX3 20, w ∈ xTB := by
  intro w hw
  obtain ⟨k, hk, rfl⟩ := List.mem_map.mp hw
  have hk : k < 20 := List.mem_range.mp hk
  rcases (show k = 0 ∨ k = 1 ∨ k = 2 ∨ k = 3 ∨ k = 4 ∨ k = 5 ∨ k = 6 ∨ k = 7 ∨ k = 8 ∨ k = 9 ∨ k = 10 ∨ k = 11 ∨ k = 12 ∨ k = 13 ∨ k = 14 ∨ k = 15 ∨ k = 16 ∨ k = 17 ∨ k = 18 ∨ k = 19 by omega) with rfl | rfl | rfl | rfl | rfl | rfl | rfl | rfl | rfl | rfl | rfl | rfl | rfl | rfl | rfl | rfl | rfl | rfl | rfl | rfl
  · exact kw_130
  · exact kw_132
  · exact kw_134
  · exact kw_136
  · exact kw_138
  · exact kw_140
  · exact kw_142
  · exact kw_144
  · exact kw_146
  · exact kw_148
  · exact kw_150
  · exact kw_152
  · exact kw_154
  · exact kw_156
  · exact kw_158
  · exact kw_160
  · exact kw_162
  · exact kw_164
  · exact kw_166
  · exact kw_168
theorem x_in4 : ∀ w ∈ u_ws RX4 TX4 19, w ∈ xTB := by
  intro w hw
  obtain ⟨k, hk, rfl⟩ := List.mem_map.mp hw
  have hk : k < 19 := List.mem_range.mp hk
  rcases (show k = 0 ∨ k = 1 ∨ k = 2 ∨ k = 3 ∨ k = 4 ∨ k = 5 ∨ k = 6 ∨ k = 7 ∨ k = 8 ∨ k = 9 ∨ k = 10 ∨ k = 11 ∨ k = 12 ∨ k = 13 ∨ k = 14 ∨ k = 15 ∨ k = 16 ∨ k = 17 ∨ k = 18 by omega) with rfl | rfl | rfl | rfl | rfl | rfl | rfl | rfl | rfl | rfl | rfl | rfl | rfl | rfl | rfl | rfl | rfl | rfl | rfl
  · exact kw_365
  · exact kw_367
  · exact kw_369
  · exact kw_371
  · exact kw_373
  · exact kw_375
  · exact kw_377
  · exact kw_379
  · exact kw_381
  · exact kw_383
  · exact kw_385
  · exact kw_387
  · exact kw_389
  · exact kw_391
  · exact kw_393
  · exact kw_395
  · exact kw_397
  · exact kw_399
  · exact kw_401
theorem x_in5 : ∀ w ∈ u_ws RX5 TX5 8, w ∈ xTB := by
  intro w hw
  obtain ⟨k, hk, rfl⟩ := List.mem_map.mp hw
  have hk : k < 8 := List.mem_range.mp hk
  rcases (show k = 0 ∨ k = 1 ∨ k = 2 ∨ k = 3 ∨ k = 4 ∨ k = 5 ∨ k = 6 ∨ k = 7 by omega) with rfl | rfl | rfl | rfl | rfl | rfl | rfl | rfl
  · exact kw_451
  · exact kw_453
  · exact kw_455
  · exact kw_457
  · exact kw_459
  · exact kw_461
  · exact kw_463
  · exact kw_465
theorem x_in6 : ∀ w ∈ u_ws RX6 TX6 4, w ∈ xTB := by
  intro w hw
  obtain ⟨k, hk, rfl⟩ := List.mem_map.mp hw
  have hk : k < 4 := List.mem_range.mp hk
  rcases (show k = 0 ∨ k = 1 ∨ k = 2 ∨ k = 3 by omega) with rfl | rfl | rfl | rfl
  · exact kw_298
  · exact kw_300
  · exact kw_302
  · exact kw_304
theorem x_in7 : ∀ w ∈ u_ws RX7 TX7 9, w ∈ xTB := by
  intro w hw
  obtain ⟨k, hk, rfl⟩ := List.mem_map.mp hw
  have hk : k < 9 := List.mem_range.mp hk
  rcases (show k = 0 ∨ k = 1 ∨ k = 2 ∨ k = 3 ∨ k = 4 ∨ k = 5 ∨ k = 6 ∨ k = 7 ∨ k = 8 by omega) with rfl | rfl | rfl | rfl | rfl | rfl | rfl | rfl | rfl
  · exact kw_244
  · exact kw_246
  · exact kw_248
  · exact kw_250
  · exact kw_252
  · exact kw_254
  · exact kw_256
  · exact kw_258
  · exact kw_260
theorem x_in8 : ∀ w ∈ u_ws RX8 TX8 3, w ∈ xTB := by
  intro w hw
  obtain ⟨k, hk, rfl⟩ := List.mem_map.mp hw
  have hk : k < 3 := List.mem_range.mp hk
  rcases (show k = 0 ∨ k = 1 ∨ k = 2 by omega) with rfl | rfl | rfl
  · exact kw_428
  · exact kw_430
  · exact kw_432
theorem x_in9 : ∀ w ∈ u_ws RX9 TX9 15, w ∈ xTB := by
  intro w hw
  obtain ⟨k, hk, rfl⟩ := List.mem_map.mp hw
  have hk : k < 15 := List.mem_range.mp hk
  rcases (show k = 0 ∨ k = 1 ∨ k = 2 ∨ k = 3 ∨ k = 4 ∨ k = 5 ∨ k = 6 ∨ k = 7 ∨ k = 8 ∨ k = 9 ∨ k = 10 ∨ k = 11 ∨ k = 12 ∨ k = 13 ∨ k = 14 by omega) with rfl | rfl | rfl | rfl | rfl | rfl | rfl | rfl | rfl | rfl | rfl | rfl | rfl | rfl | rfl
  · exact kw_496
  · exact kw_498
  · exact kw_500
  · exact kw_502
  · exact kw_504
  · exact kw_506
  · exact kw_508
  · exact kw_510
  · exact kw_512
  · exact kw_514
  · exact kw_516
  · exact kw_518
  · exact kw_520
  · exact kw_522
  · exact kw_524
theorem x_in10 : ∀ w ∈ u_ws RX10 TX10 65, w ∈ xTB := by
  intro w hw
  obtain ⟨k, hk, rfl⟩ := List.mem_map.mp hw
  have hk : k < 65 := List.mem_range.mp hk
  rcases (show k = 0 ∨ k = 1 ∨ k = 2 ∨ k = 3 ∨ k = 4 ∨ k = 5 ∨ k = 6 ∨ k = 7 ∨ k = 8 ∨ k = 9 ∨ k = 10 ∨ k = 11 ∨ k = 12 ∨ k = 13 ∨ k = 14 ∨ k = 15 ∨ k = 16 ∨ k = 17 ∨ k = 18 ∨ k = 19 ∨ k = 20 ∨ k = 21 ∨ k = 22 ∨ k = 23 ∨ k = 24 ∨ k = 25 ∨ k = 26 ∨ k = 27 ∨ k = 28 ∨ k = 29 ∨ k = 30 ∨ k = 31 ∨ k = 32 ∨ k = 33 ∨ k = 34 ∨ k = 35 ∨ k = 36 ∨ k = 37 ∨ k = 38 ∨ k = 39 ∨ k = 40 ∨ k = 41 ∨ k = 42 ∨ k = 43 ∨ k = 44 ∨ k = 45 ∨ k = 46 ∨ k = 47 ∨ k = 48 ∨ k = 49 ∨ k = 50 ∨ k = 51 ∨ k = 52 ∨ k = 53 ∨ k = 54 ∨ k = 55 ∨ k = 56 ∨ k = 57 ∨ k = 58 ∨ k = 59 ∨ k = 60 ∨ k = 61 ∨ k = 62 ∨ k = 63 ∨ k = 64 by omega) with rfl | rfl | rfl | rfl | rfl | rfl | rfl | rfl | rfl | rfl | rfl | rfl | rfl | rfl | rfl | rfl | rfl | rfl | rfl | rfl | rfl | rfl | rfl | rfl | rfl | rfl | rfl | rfl | rfl | rfl | rfl | rfl | rfl | rfl | rfl | rfl | rfl | rfl | rfl | rfl | rfl | rfl | rfl | rfl | rfl | rfl | rfl | rfl | rfl | rfl | rfl | rfl | rfl | rfl | rfl | rfl | rfl | rfl | rfl | rfl | rfl | rfl | rfl | rfl | rfl
  · exact kw_1233
  · exact kw_1235
  · exact kw_1237
  · exact kw_1239
  · exact kw_1241
  · exact kw_1243
  · exact kw_1245
  · exact kw_1247
  · exact kw_1249
  · exact kw_1251
  · exact kw_1253
  · exact kw_1255
  · exact kw_1257
  · exact kw_1259
  · exact kw_1261
  · exact kw_1263
  · exact kw_1265
  · exact kw_1267
  · exact kw_1269
  · exact kw_1271
  · exact kw_1273
  · exact kw_1275
  · exact kw_1277
  · exact kw_1279
  · exact kw_1281
  · exact kw_1283
  · exact kw_1285
  · exact kw_1287
  · exact kw_1289
  · exact kw_1291
  · exact kw_1293
  · exact kw_1295
  · exact kw_1297
  · exact kw_1299
  · exact kw_1301
  · exact kw_1303
  · exact kw_1305
  · exact kw_1307
  · exact kw_1309
  · exact kw_1311
  · exact kw_1313
  · exact kw_1315
  · exact kw_1317
  · exact kw_1319
  · exact kw_1321
  · exact kw_1323
  · exact kw_1325
  · exact kw_1327
  · exact kw_1329
  · exact kw_1331
  · exact kw_1333
  · exact kw_1335
  · exact kw_1337
  · exact kw_1339
  · exact kw_1341
  · exact kw_1343
  · exact kw_1345
  · exact kw_1347
  · exact kw_1349
  · exact kw_1351
  · exact kw_1353
  · exact kw_1355
  · exact kw_1357
  · exact kw_1359
  · exact kw_1361
theorem x_in {ci : Nat} (h : ci < 11) : ∀ w ∈ u_ws (xCn ci) (xCT ci) (xN ci), w ∈ xTB :=
  co_11 (P := fun ci => ∀ w ∈ u_ws (xCn ci) (xCT ci) (xN ci), w ∈ xTB) x_in0 x_in1 x_in2 x_in3 x_in4 x_in5 x_in6 x_in7 x_in8 x_in9 x_in10 h
def xval (b : Nat) (ty : FieldType) (i : Int32) (l : Int64) (r : Option Nat) : Value := match ty with
  | .long => .long l
  | .object _ => va_rf (r.map (fun k => b + k))
  | .array _ => va_rf (r.map (fun k => b + k))
  | _ => .int i
def xfs (b : Nat) (d : xD) (q ci : Nat) : List Value := (List.range (xN ci)).map (fun k => xval b (xTy ci k) (d.1 q k) (d.2.1 q k) (d.2.2 q k))
def xar (cid : FieldType → ClassId) (d : xD) (q : Nat) (ty : FieldType) (n : Nat) : va_E := if ty = .long then .inl (cid .long, n, .inr (.inl (d.2.1 q))) else .inl (cid ty, n, .inl (d.1 q))
def xe (cid : FieldType → ClassId) (b : Nat) (sh : List xSh) (d : xD) (q : Nat) : va_E := match sh[q]? with
  | some (.inl ci) => .inr (ci, xfs b d q ci)
  | some (.inr a) => xar cid d q a.1 a.2
  | none => .inr (0, [])
def xw (cid : FieldType → ClassId) (b : Nat) (sh : List xSh) (d : xD) : va_W := (List.range sh.length).map (fun q => (b + q, xe cid b sh d q))
theorem xw_len (cid : FieldType → ClassId) (b : Nat) (sh : List xSh) (d : xD) : (xw cid b sh d).length = sh.length := by simp [xw]
theorem xw_get (cid : FieldType → ClassId) (b : Nat) (sh : List xSh) (d : xD) {q : Nat} (hq : q < sh.length) : (xw cid b sh d)[q]? = some (b + q, xe cid b sh d q) := by
  simp [xw, hq]
theorem x_lt {sh : List xSh} {q : Nat} {e : xSh} (hq : sh[q]? = some e) : q < sh.length := (List.getElem?_eq_some_iff.mp hq).1
theorem xw_ob {cid : FieldType → ClassId} {b : Nat} {sh : List xSh} {d : xD} {q ci : Nat} (hq : sh[q]? = some (.inl ci)) : (xw cid b sh d)[q]? = some (b + q, .inr (ci, xfs b d q ci)) := by
  rw [xw_get cid b sh d (x_lt hq)]
  simp [xe, hq]
theorem xw_ar {cid : FieldType → ClassId} {b : Nat} {sh : List xSh} {d : xD} {q n : Nat} {ty : FieldType} (hq : sh[q]? = some (.inr (ty, n))) (ht : ty ≠ .long) : (xw cid b sh d)[q]? = some (b + q, .inl (cid ty, n, .inl (d.1 q))) := by
  rw [xw_get cid b sh d (x_lt hq)]
  simp [xe, hq, xar, ht]
theorem xw_al {cid : FieldType → ClassId} {b : Nat} {sh : List xSh} {d : xD} {q n : Nat} (hq : sh[q]? = some (.inr (.long, n))) : (xw cid b sh d)[q]? = some (b + q, .inl (cid .long, n, .inr (.inl (d.2.1 q)))) := by
  rw [xw_get cid b sh d (x_lt hq)]
  simp [xe, hq, xar]
theorem xw_set {cid : FieldType → ClassId} {b : Nat} {sh : List xSh} {d d' : xD} {q : Nat} {e : va_E} (hq : q < sh.length) (he : xe cid b sh d' q = e) (ho : ∀ j, j ≠ q → xe cid b sh d' j = xe cid b sh d j) : (xw cid b sh d).set q (b + q, e) = xw cid b sh d' := by
  apply List.ext_getElem?
  intro j
  by_cases hj : j < sh.length
  · rw [xw_get cid b sh d' hj]
    by_cases hjq : j = q
    · subst hjq
      rw [List.getElem?_set_self (by rw [xw_len]; exact hq), he]
    · rw [List.getElem?_set_ne (fun e => hjq e.symm), xw_get cid b sh d hj, ho j hjq]
  · rw [List.getElem?_eq_none (by rw [List.length_set, xw_len]; omega), List.getElem?_eq_none (by rw [xw_len]; omega)]
theorem xfs_get {b : Nat} {d : xD} {q ci k : Nat} (hk : k < xN ci) : (xfs b d q ci)[k]? = some (xval b (xTy ci k) (d.1 q k) (d.2.1 q k) (d.2.2 q k)) := by
  simp [xfs, hk]
theorem xfs_len {b : Nat} {d : xD} {q ci : Nat} : (xfs b d q ci).length = xN ci := by simp [xfs]
theorem xfs_set {b : Nat} {d d' : xD} {q ci k : Nat} {v : Value} (hk : k < xN ci) (hv : xval b (xTy ci k) (d'.1 q k) (d'.2.1 q k) (d'.2.2 q k) = v) (ho : ∀ j, j ≠ k → xval b (xTy ci j) (d'.1 q j) (d'.2.1 q j) (d'.2.2 q j) = xval b (xTy ci j) (d.1 q j) (d.2.1 q j) (d.2.2 q j)) : (xfs b d q ci).set k v = xfs b d' q ci := by
  apply List.ext_getElem?
  intro j
  by_cases hj : j < xN ci
  · rw [xfs_get hj]
    by_cases hjk : j = k
    · subst hjk
      rw [List.getElem?_set_self (by rw [xfs_len]; exact hj), hv]
    · rw [List.getElem?_set_ne (fun e => hjk e.symm), xfs_get hj, ho j hjk]
  · rw [List.getElem?_eq_none (by rw [List.length_set, xfs_len]; omega), List.getElem?_eq_none (by rw [xfs_len]; omega)]
/-- one place of a table changes -/
def xu {α : Type} (f : Nat → Nat → α) (q k : Nat) (v : α) : Nat → Nat → α := fun a c => if a = q then (if c = k then v else f a c) else f a c
theorem xu_row {α : Type} {f : Nat → Nat → α} {q k : Nat} {v : α} : xu f q k v q = fun c => if c = k then v else f q c := by
  funext c; simp [xu]
theorem xu_off {α : Type} {f : Nat → Nat → α} {q k a : Nat} {v : α} (h : a ≠ q) : xu f q k v a = f a := by
  funext c; simp [xu, h]
/-- a whole row of a table changes -/
def xur {α : Type} (f : Nat → Nat → α) (q : Nat) (g : Nat → α) : Nat → Nat → α := fun a => if a = q then g else f a
-- what instructions do to a pure heap; none: the machine would throw, or this isn't of that kind
def xgI (ci : Nat) (sh : List xSh) (d : xD) (q k : Nat) : Option Int32 := if sh[q]? = some (.inl ci) then some (d.1 q k) else none
def xgL (ci : Nat) (sh : List xSh) (d : xD) (q k : Nat) : Option Int64 := if sh[q]? = some (.inl ci) then some (d.2.1 q k) else none
def xgR (ci : Nat) (sh : List xSh) (d : xD) (q k : Nat) : Option Nat := if sh[q]? = some (.inl ci) then d.2.2 q k else none
def xok (ty : FieldType) (v : Int32) : Bool := match ty with
  | .int => true
  | .boolean => v == 0 || v == 1
  | _ => false
def xpI (ci : Nat) (sh : List xSh) (d : xD) (q k : Nat) (v : Int32) : Option xD := if sh[q]? = some (.inl ci) ∧ xok (xTy ci k) v = true then some (xu d.1 q k v, d.2.1, d.2.2) else none
def xpL (ci : Nat) (sh : List xSh) (d : xD) (q k : Nat) (v : Int64) : Option xD := if sh[q]? = some (.inl ci) then some (d.1, xu d.2.1 q k v, d.2.2) else none
def xpR (ci : Nat) (sh : List xSh) (d : xD) (q k : Nat) (v : Nat) : Option xD := if sh[q]? = some (.inl ci) then some (d.1, d.2.1, xu d.2.2 q k (some v)) else none
/-- an object of this class is there -/
def xon (ci : Nat) (sh : List xSh) (q : Nat) {α : Type} (x : Option α) : Option α := if sh[q]? = some (.inl ci) then x else none
def xlen (ty : FieldType) (sh : List xSh) (q : Nat) : Option Nat := match sh[q]? with
  | some (.inr a) => if a.1 = ty then some a.2 else none
  | _ => none
theorem xlen_of {ty : FieldType} {sh : List xSh} {q n : Nat} (e : xlen ty sh q = some n) : sh[q]? = some (.inr (ty, n)) := by
  unfold xlen at e
  split at e
  · rename_i a ha
    split at e
    · rename_i h1
      rw [ha]; subst h1
      rw [← Option.some.inj e]
    · cases e
  · cases e
def xaI (ty : FieldType) (sh : List xSh) (d : xD) (q : Nat) (i : Int32) : Option Int32 := (xlen ty sh q).bind fun n => if i < 0 ∨ n ≤ i.toNatClampNeg then none else some (d.1 q i.toNatClampNeg)
def xaL (sh : List xSh) (d : xD) (q : Nat) (i : Int32) : Option Int64 := (xlen .long sh q).bind fun n => if i < 0 ∨ n ≤ i.toNatClampNeg then none else some (d.2.1 q i.toNatClampNeg)
def xsI (ty : FieldType) (sh : List xSh) (d : xD) (q : Nat) (i v : Int32) : Option xD := (xlen ty sh q).bind fun n => if i < 0 ∨ n ≤ i.toNatClampNeg then none else some (xu d.1 q i.toNatClampNeg (vp_nar ty v), d.2.1, d.2.2)
def xsL (sh : List xSh) (d : xD) (q : Nat) (i : Int32) (v : Int64) : Option xD := (xlen .long sh q).bind fun n => if i < 0 ∨ n ≤ i.toNatClampNeg then none else some (d.1, xu d.2.1 q i.toNatClampNeg v, d.2.2)
/-- System.arraycopy of whole numbers -/
def xcp (sh : List xSh) (d : xD) (q0 : Nat) (sp : Int32) (q1 : Nat) (dp n : Int32) : Option xD := (xlen .int sh q0).bind fun n0 => (xlen .int sh q1).bind fun n1 => if sp < 0 ∨ dp < 0 ∨ n < 0 ∨ n0 < sp.toNatClampNeg + n.toNatClampNeg ∨ n1 < dp.toNatClampNeg + n.toNatClampNeg then none else some (xur d.1 q1 (va_cpy (d.1 q0) (d.1 q1) sp.toNatClampNeg dp.toNatClampNeg n.toNatClampNeg), d.2.1, d.2.2)
/-- a new cell, all 0 and null -/
def xnw (d : xD) (q : Nat) : xD := (xur d.1 q (fun _ => 0), xur d.2.1 q (fun _ => 0), xur d.2.2 q (fun _ => none))
def xdI (x y : Int32) : Option Int32 := if y = 0 then none else some (x / y)
def xmI (x y : Int32) : Option Int32 := if y = 0 then none else some (x - x / y * y)
def xdL (x y : Int64) : Option Int64 := if y = 0 then none else some (x / y)
def xmL (x y : Int64) : Option Int64 := if y = 0 then none else some (x - x / y * y)
/-- a boolean on its way out -/
def xz (v : Int32) : Option Int32 := if v = 0 ∨ v = 1 then some v else none
theorem x_ob {α β : Type} {x : Option α} {f : α → Option β} {r : β} (h : x.bind f = some r) : ∃ v, x = some v ∧ f v = some r := by
  cases x with
  | none => cases h
  | some v => exact ⟨v, rfl, h⟩
theorem x_pos {c : Prop} [Decidable c] {α : Type} {a b : α} {r : α} (hc : c) (h : (if c then a else b) = r) : a = r := by rw [if_pos hc] at h; exact h
theorem x_neg {c : Prop} [Decidable c] {α : Type} {a b : α} {r : α} (hc : ¬ c) (h : (if c then a else b) = r) : b = r := by rw [if_neg hc] at h; exact h
